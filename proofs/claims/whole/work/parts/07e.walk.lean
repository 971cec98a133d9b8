set_option maxRecDepth 100000 in
set_option maxHeartbeats 4000000 in
theorem k_X6_in {l : Launch} {D : va_G} {ad : Nat → Nat} {cA : Nat → ClassId} {tys : List (ClassId × FieldType)} {n : Nat} {sa : Nat → Nat} (hn : 20 ≤ n) {N : Nat} {g : Mem} {a1 : Int32} {a2 : Int32} {a3 : Int32} {r : Int32} {g1 : Mem} (h : X6_in N a1 a2 a3 g = some (r, g1)) : CTi l yX6_in (wsm yX6_in cX6_in 3 (some .boolean)) 1 D YM ad cA tys n sa g [.int a1, .int a2, .int a3] r g1 := by
  refine ct_of RX6 rfl (by decide +kernel) (Nat.le_of_ble_eq_true rfl) rfl (fun sz => PBi D YM ad cA n r g1 sz) ?_
  intro p e R s m args below meth c C hr
  rw [X6_in] at h
  refine ww_iload_n C 0 dX6_in_0 rfl rfl 1 rfl ?_
  refine ww_iload_n C 1 dX6_in_1 rfl rfl 2 rfl ?_
  refine ww_icmp_lt C 14 dX6_in_2 (by decide) h 5 rfl (fun h => ?_) (fun h => ?_)
  · refine ww_iconst C (0 : Int32) dX6_in_14 (by decide) 15 rfl ?_
    exact ww_zret C dX6_in_15 hr rfl h
  · refine ww_iload_n C 0 dX6_in_5 rfl rfl 6 rfl ?_
    refine ww_iload_n C 2 dX6_in_6 rfl rfl 7 rfl ?_
    refine ww_icmp_gt C 14 dX6_in_7 (by decide) h 10 rfl (fun h => ?_) (fun h => ?_)
    · refine ww_iconst C (0 : Int32) dX6_in_14 (by decide) 15 rfl ?_
      exact ww_zret C dX6_in_15 hr rfl h
    · refine ww_iconst C (1 : Int32) dX6_in_10 (by decide) 11 rfl ?_
      refine ww_goto C 15 dX6_in_11 (by decide) ?_
      exact ww_zret C dX6_in_15 hr rfl h

set_option maxRecDepth 100000 in
set_option maxHeartbeats 4000000 in
theorem k_X6_within {l : Launch} {D : va_G} {ad : Nat → Nat} {cA : Nat → ClassId} {tys : List (ClassId × FieldType)} {n : Nat} {sa : Nat → Nat} (hn : 20 ≤ n) {N : Nat} {g : Mem} {a1 : Int32} {a2 : Int32} {a3 : Int32} {r : Int32} {g1 : Mem} (h : X6_within N a1 a2 a3 g = some (r, g1)) : CTi l yX6_within (wsm yX6_within cX6_within 3 (some .int)) 1 D YM ad cA tys n sa g [.int a1, .int a2, .int a3] r g1 := by
  refine ct_of RX6 rfl (by decide +kernel) (Nat.le_of_ble_eq_true rfl) rfl (fun sz => PBi D YM ad cA n r g1 sz) ?_
  intro p e R s m args below meth c C hr
  rw [X6_within] at h
  refine ww_iload_n C 0 dX6_within_0 rfl rfl 1 rfl ?_
  refine ww_iload_n C 1 dX6_within_1 rfl rfl 2 rfl ?_
  refine ww_icmp_ge C 9 dX6_within_2 (by decide) h 5 rfl (fun h => ?_) (fun h => ?_)
  · refine ww_iload_n C 0 dX6_within_9 rfl rfl 10 rfl ?_
    refine ww_iload_n C 2 dX6_within_10 rfl rfl 11 rfl ?_
    refine ww_icmp_le C 18 dX6_within_11 (by decide) h 14 rfl (fun h => ?_) (fun h => ?_)
    · refine ww_iload_n C 0 dX6_within_18 rfl rfl 19 rfl ?_
      exact ww_iret C dX6_within_19 hr h
    · refine ww_iload_n C 2 dX6_within_14 rfl rfl 15 rfl ?_
      refine ww_goto C 19 dX6_within_15 (by decide) ?_
      exact ww_iret C dX6_within_19 hr h
  · refine ww_iload_n C 1 dX6_within_5 rfl rfl 6 rfl ?_
    refine ww_goto C 19 dX6_within_6 (by decide) ?_
    exact ww_iret C dX6_within_19 hr h

set_option maxRecDepth 100000 in
set_option maxHeartbeats 4000000 in
theorem k_X6_isOne {l : Launch} {D : va_G} {ad : Nat → Nat} {cA : Nat → ClassId} {tys : List (ClassId × FieldType)} {n : Nat} {sa : Nat → Nat} (hn : 20 ≤ n) {N : Nat} {g : Mem} {a1 : Int32} {r : Int32} {g1 : Mem} (h : X6_isOne N a1 g = some (r, g1)) : CTi l yX6_isOne (wsm yX6_isOne cX6_isOne 2 (some .boolean)) 2 D YM ad cA tys n sa g [.ref (ad 0), .int a1] r g1 := by
  refine ct_of RX6 rfl (by decide +kernel) (Nat.le_of_ble_eq_true rfl) rfl (fun sz => PBi D YM ad cA n r g1 sz) ?_
  intro p e R s m args below meth c C hr
  rw [X6_isOne] at h
  refine ww_iload_n C 1 dX6_isOne_0 rfl rfl 1 rfl ?_
  refine ww_iconst C (0 : Int32) dX6_isOne_1 (by decide) 2 rfl ?_
  refine ww_aload_n C 0 dX6_isOne_2 rfl rfl 3 rfl ?_
  refine ww_getI C cl_X6 (obM hn) 0 (by decide) rfl w_847 dX6_isOne_3 6 rfl ?_
  refine ww_iconst C (1 : Int32) dX6_isOne_6 (by decide) 7 rfl ?_
  refine ww_isub C dX6_isOne_7 8 rfl ?_
  refine ww_callSi C (As := [.int a1, .int (0 : Int32), .int ((g.1 0 0) - (1 : Int32))]) (st := []) h (fun _ _ hF => k_X6_in hn hF) w_808 cm_X6_in (by decide) (by decide) rfl rfl (Nat.le_of_ble_eq_true rfl) dX6_isOne_8 11 rfl (fun v4 u3 h => ?_)
  exact ww_zretG C dX6_isOne_11 hr h

set_option maxRecDepth 100000 in
set_option maxHeartbeats 4000000 in
theorem k_X6_isCask {l : Launch} {D : va_G} {ad : Nat → Nat} {cA : Nat → ClassId} {tys : List (ClassId × FieldType)} {n : Nat} {sa : Nat → Nat} (hn : 20 ≤ n) {N : Nat} {g : Mem} {a1 : Int32} {r : Int32} {g1 : Mem} (h : X6_isCask N a1 g = some (r, g1)) : CTi l yX6_isCask (wsm yX6_isCask cX6_isCask 1 (some .boolean)) 2 D YM ad cA tys n sa g [.int a1] r g1 := by
  refine ct_of RX6 rfl (by decide +kernel) (Nat.le_of_ble_eq_true rfl) rfl (fun sz => PBi D YM ad cA n r g1 sz) ?_
  intro p e R s m args below meth c C hr
  rw [X6_isCask] at h
  refine ww_iload_n C 0 dX6_isCask_0 rfl rfl 1 rfl ?_
  refine ww_iconst C (0 : Int32) dX6_isCask_1 (by decide) 2 rfl ?_
  refine ww_bipush C (11 : Int32) dX6_isCask_2 (by decide) 4 rfl ?_
  refine ww_callSi C (As := [.int a1, .int (0 : Int32), .int (11 : Int32)]) (st := []) h (fun _ _ hF => k_X6_in hn hF) w_808 cm_X6_in (by decide) (by decide) rfl rfl (Nat.le_of_ble_eq_true rfl) dX6_isCask_4 7 rfl (fun v4 u3 h => ?_)
  exact ww_zretG C dX6_isCask_7 hr h

set_option maxRecDepth 100000 in
set_option maxHeartbeats 4000000 in
theorem k_X6_isSky {l : Launch} {D : va_G} {ad : Nat → Nat} {cA : Nat → ClassId} {tys : List (ClassId × FieldType)} {n : Nat} {sa : Nat → Nat} (hn : 20 ≤ n) {N : Nat} {g : Mem} {a1 : Int32} {r : Int32} {g1 : Mem} (h : X6_isSky N a1 g = some (r, g1)) : CTi l yX6_isSky (wsm yX6_isSky cX6_isSky 1 (some .boolean)) 2 D YM ad cA tys n sa g [.int a1] r g1 := by
  refine ct_of RX6 rfl (by decide +kernel) (Nat.le_of_ble_eq_true rfl) rfl (fun sz => PBi D YM ad cA n r g1 sz) ?_
  intro p e R s m args below meth c C hr
  rw [X6_isSky] at h
  refine ww_iload_n C 0 dX6_isSky_0 rfl rfl 1 rfl ?_
  refine ww_iconst C (0 : Int32) dX6_isSky_1 (by decide) 2 rfl ?_
  refine ww_iconst C (5 : Int32) dX6_isSky_2 (by decide) 3 rfl ?_
  refine ww_callSi C (As := [.int a1, .int (0 : Int32), .int (5 : Int32)]) (st := []) h (fun _ _ hF => k_X6_in hn hF) w_808 cm_X6_in (by decide) (by decide) rfl rfl (Nat.le_of_ble_eq_true rfl) dX6_isSky_3 6 rfl (fun v4 u3 h => ?_)
  exact ww_zretG C dX6_isSky_6 hr h

set_option maxRecDepth 100000 in
set_option maxHeartbeats 4000000 in
theorem k_X6_placed {l : Launch} {D : va_G} {ad : Nat → Nat} {cA : Nat → ClassId} {tys : List (ClassId × FieldType)} {n : Nat} {sa : Nat → Nat} (hn : 20 ≤ n) {N : Nat} {g : Mem} {a1 : Int32} {r : Int32} {g1 : Mem} (h : X6_placed N a1 g = some (r, g1)) : CTi l yX6_placed (wsm yX6_placed cX6_placed 4 (some .int)) 1 D YM ad cA tys n sa g [.ref (ad 0), .int a1] r g1 := by
  refine ct_of RX6 rfl (by decide +kernel) (Nat.le_of_ble_eq_true rfl) rfl (fun sz => PBi D YM ad cA n r g1 sz) ?_
  intro p e R s m args below meth c C hr
  have L4h : ∀ (fu : Nat), (∀ (x2 : Int32) (x3 : Int32) (g : Mem), X6_placed_L4 N a1 fu x2 x3 g = some (r, g1) → WW p l e R s m args below meth c 4 D YM ad cA n (MQ below (PBi D YM ad cA n r g1 s.heap.size) args s 0 0 (AA n ad s.heap.size)) g 4 [(0, .ref (ad 0)), (1, .int a1), (2, .int x2), (3, .int x3)] []) := by
    intro fu
    induction fu with
    | zero => intro x2 x3 g h; cases h
    | succ fu ih =>
      intro x2 x3 g h
      rw [X6_placed_L4] at h
      refine ww_iload_n C 3 dX6_placed_4 rfl rfl 5 rfl ?_
      refine ww_bipush C (12 : Int32) dX6_placed_5 (by decide) 7 rfl ?_
      refine ww_icmp_ge C 40 dX6_placed_7 (by decide) h 10 rfl (fun h => ?_) (fun h => ?_)
      · refine ww_iload_n C 2 dX6_placed_40 rfl rfl 41 rfl ?_
        exact ww_iret C dX6_placed_41 hr h
      · refine ww_iload_n C 2 dX6_placed_10 rfl rfl 11 rfl ?_
        refine ww_aload_n C 0 dX6_placed_11 rfl rfl 12 rfl ?_
        refine ww_getS C cl_X6 (obM hn) 4 (by decide) rfl 4 rfl w_851 dX6_placed_12 15 rfl ?_
        refine ww_iconst C (4 : Int32) dX6_placed_15 (by decide) 16 rfl ?_
        refine ww_iload_n C 3 dX6_placed_16 rfl rfl 17 rfl ?_
        refine ww_imul C dX6_placed_17 18 rfl ?_
        refine ww_iconst C (3 : Int32) dX6_placed_18 (by decide) 19 rfl ?_
        refine ww_iadd C dX6_placed_19 20 rfl ?_
        refine ww_iald C (iaM hn 4 48 (by decide) (by decide) rfl) dX6_placed_20 h 21 rfl (fun h => ?_)
        refine ww_iload_n C 1 dX6_placed_21 rfl rfl 22 rfl ?_
        refine ww_icmp_ne C 31 dX6_placed_22 (by decide) h 25 rfl (fun h => ?_) (fun h => ?_)
        · refine ww_iconst C (0 : Int32) dX6_placed_31 (by decide) 32 rfl ?_
          refine ww_ior C dX6_placed_32 33 rfl ?_
          refine ww_bi h (fun v5 h => ?_)
          refine ww_istore_n C [(2, .int v5), (0, .ref (ad 0)), (1, .int a1), (3, .int x3)] dX6_placed_33 rfl (by decide) rfl 34 rfl ?_
          refine ww_iinc C 3 (1 : Int32) (by decide) (fun v6 => [(3, .int v6), (2, .int v5), (0, .ref (ad 0)), (1, .int a1)]) dX6_placed_34 rfl (by decide) (fun _ => rfl) h 37 rfl (fun v6 h => ?_)
          refine ww_goto C 4 dX6_placed_37 (by decide) ?_
          exact ww_sub [2, 3, 1, 0] rfl (ih _ _ _ h)
        · refine ww_iconst C (1 : Int32) dX6_placed_25 (by decide) 26 rfl ?_
          refine ww_iload_n C 3 dX6_placed_26 rfl rfl 27 rfl ?_
          refine ww_ishl C dX6_placed_27 28 rfl ?_
          refine ww_goto C 32 dX6_placed_28 (by decide) ?_
          refine ww_ior C dX6_placed_32 33 rfl ?_
          refine ww_bi h (fun v7 h => ?_)
          refine ww_istore_n C [(2, .int v7), (0, .ref (ad 0)), (1, .int a1), (3, .int x3)] dX6_placed_33 rfl (by decide) rfl 34 rfl ?_
          refine ww_iinc C 3 (1 : Int32) (by decide) (fun v8 => [(3, .int v8), (2, .int v7), (0, .ref (ad 0)), (1, .int a1)]) dX6_placed_34 rfl (by decide) (fun _ => rfl) h 37 rfl (fun v8 h => ?_)
          refine ww_goto C 4 dX6_placed_37 (by decide) ?_
          exact ww_sub [2, 3, 1, 0] rfl (ih _ _ _ h)
  rw [X6_placed] at h
  refine ww_iconst C (0 : Int32) dX6_placed_0 (by decide) 1 rfl ?_
  refine ww_istore_n C [(2, .int (0 : Int32)), (0, .ref (ad 0)), (1, .int a1)] dX6_placed_1 rfl (by decide) rfl 2 rfl ?_
  refine ww_iconst C (0 : Int32) dX6_placed_2 (by decide) 3 rfl ?_
  refine ww_istore_n C [(3, .int (0 : Int32)), (2, .int (0 : Int32)), (0, .ref (ad 0)), (1, .int a1)] dX6_placed_3 rfl (by decide) rfl 4 rfl ?_
  exact ww_sub [2, 3, 1, 0] rfl (L4h N _ _ _ h)

set_option maxRecDepth 100000 in
set_option maxHeartbeats 4000000 in
theorem k_X6_onesOf {l : Launch} {D : va_G} {ad : Nat → Nat} {cA : Nat → ClassId} {tys : List (ClassId × FieldType)} {n : Nat} {sa : Nat → Nat} (hn : 20 ≤ n) {N : Nat} {g : Mem} {a1 : Int32} {r : Int32} {g1 : Mem} (h : X6_onesOf N a1 g = some (r, g1)) : CTi l yX6_onesOf (wsm yX6_onesOf cX6_onesOf 3 (some .int)) 1 D YM ad cA tys n sa g [.int a1] r g1 := by
  refine ct_of RX6 rfl (by decide +kernel) (Nat.le_of_ble_eq_true rfl) rfl (fun sz => PBi D YM ad cA n r g1 sz) ?_
  intro p e R s m args below meth c C hr
  have L4h : ∀ (fu : Nat), (∀ (x1 : Int32) (x2 : Int32) (g : Mem), X6_onesOf_L4 N a1 fu x1 x2 g = some (r, g1) → WW p l e R s m args below meth c 3 D YM ad cA n (MQ below (PBi D YM ad cA n r g1 s.heap.size) args s 0 0 (AA n ad s.heap.size)) g 4 [(0, .int a1), (1, .int x1), (2, .int x2)] []) := by
    intro fu
    induction fu with
    | zero => intro x1 x2 g h; cases h
    | succ fu ih =>
      intro x1 x2 g h
      rw [X6_onesOf_L4] at h
      refine ww_iload_n C 2 dX6_onesOf_4 rfl rfl 5 rfl ?_
      refine ww_bipush C (12 : Int32) dX6_onesOf_5 (by decide) 7 rfl ?_
      refine ww_icmp_ge C 24 dX6_onesOf_7 (by decide) h 10 rfl (fun h => ?_) (fun h => ?_)
      · refine ww_iload_n C 1 dX6_onesOf_24 rfl rfl 25 rfl ?_
        exact ww_iret C dX6_onesOf_25 hr h
      · refine ww_iload_n C 1 dX6_onesOf_10 rfl rfl 11 rfl ?_
        refine ww_iload_n C 0 dX6_onesOf_11 rfl rfl 12 rfl ?_
        refine ww_iload_n C 2 dX6_onesOf_12 rfl rfl 13 rfl ?_
        refine ww_ishr C dX6_onesOf_13 14 rfl ?_
        refine ww_iconst C (1 : Int32) dX6_onesOf_14 (by decide) 15 rfl ?_
        refine ww_iand C dX6_onesOf_15 16 rfl ?_
        refine ww_iadd C dX6_onesOf_16 17 rfl ?_
        refine ww_bi h (fun v3 h => ?_)
        refine ww_istore_n C [(1, .int v3), (0, .int a1), (2, .int x2)] dX6_onesOf_17 rfl (by decide) rfl 18 rfl ?_
        refine ww_iinc C 2 (1 : Int32) (by decide) (fun v4 => [(2, .int v4), (1, .int v3), (0, .int a1)]) dX6_onesOf_18 rfl (by decide) (fun _ => rfl) h 21 rfl (fun v4 h => ?_)
        refine ww_goto C 4 dX6_onesOf_21 (by decide) ?_
        exact ww_sub [2, 1, 0] rfl (ih _ _ _ h)
  rw [X6_onesOf] at h
  refine ww_iconst C (0 : Int32) dX6_onesOf_0 (by decide) 1 rfl ?_
  refine ww_istore_n C [(1, .int (0 : Int32)), (0, .int a1)] dX6_onesOf_1 rfl (by decide) rfl 2 rfl ?_
  refine ww_iconst C (0 : Int32) dX6_onesOf_2 (by decide) 3 rfl ?_
  refine ww_istore_n C [(2, .int (0 : Int32)), (1, .int (0 : Int32)), (0, .int a1)] dX6_onesOf_3 rfl (by decide) rfl 4 rfl ?_
  exact ww_sub [2, 1, 0] rfl (L4h N _ _ _ h)

set_option maxRecDepth 100000 in
set_option maxHeartbeats 4000000 in
theorem k_X6_count {l : Launch} {D : va_G} {ad : Nat → Nat} {cA : Nat → ClassId} {tys : List (ClassId × FieldType)} {n : Nat} {sa : Nat → Nat} (hn : 20 ≤ n) {N : Nat} {g : Mem} {a1 : Int32} {r : Int32} {g1 : Mem} (h : X6_count N a1 g = some (r, g1)) : CTi l yX6_count (wsm yX6_count cX6_count 2 (some .int)) 2 D YM ad cA tys n sa g [.ref (ad 0), .int a1] r g1 := by
  refine ct_of RX6 rfl (by decide +kernel) (Nat.le_of_ble_eq_true rfl) rfl (fun sz => PBi D YM ad cA n r g1 sz) ?_
  intro p e R s m args below meth c C hr
  rw [X6_count] at h
  refine ww_iload_n C 1 dX6_count_0 rfl rfl 1 rfl ?_
  refine sw_1 h (fun e23 h => ?_) (fun n24 h => ?_)
  · refine ww_tin C (v := (0 : Int32)) e23 44 dX6_count_1 (by decide) (by decide) rfl (by decide) ?_
    refine ww_aload_n C 0 dX6_count_44 rfl rfl 45 rfl ?_
    refine ww_getI C cl_X6 (obM hn) 0 (by decide) rfl w_847 dX6_count_45 48 rfl ?_
    exact ww_iret C dX6_count_48 hr h
  refine sw_1 h (fun e25 h => ?_) (fun n26 h => ?_)
  · refine ww_tin C (v := (1 : Int32)) e25 49 dX6_count_1 (by decide) (by decide) rfl (by decide) ?_
    refine ww_aload_n C 0 dX6_count_49 rfl rfl 50 rfl ?_
    refine ww_iload_n C 1 dX6_count_50 rfl rfl 51 rfl ?_
    refine ww_iconst C (1 : Int32) dX6_count_51 (by decide) 52 rfl ?_
    refine ww_isub C dX6_count_52 53 rfl ?_
    refine ww_callVi C (As := [.int (a1 - (1 : Int32))]) (st := []) h cl_X6.1 (obM hn) (fun _ _ hF => k_X6_placed hn hF) w_954 cm_X6_placed (by decide) (by decide) rfl rfl (Nat.le_of_ble_eq_true rfl) dX6_count_53 56 rfl (fun v28 u27 h => ?_)
    refine ww_callSi C (As := [.int v28]) (st := []) h (fun _ _ hF => k_X6_onesOf hn hF) w_958 cm_X6_onesOf (by decide) (by decide) rfl rfl (Nat.le_of_ble_eq_true rfl) dX6_count_56 59 rfl (fun v30 u29 h => ?_)
    exact ww_iret C dX6_count_59 hr h
  refine sw_1 h (fun e31 h => ?_) (fun n32 h => ?_)
  · refine ww_tin C (v := (2 : Int32)) e31 49 dX6_count_1 (by decide) (by decide) rfl (by decide) ?_
    refine ww_aload_n C 0 dX6_count_49 rfl rfl 50 rfl ?_
    refine ww_iload_n C 1 dX6_count_50 rfl rfl 51 rfl ?_
    refine ww_iconst C (1 : Int32) dX6_count_51 (by decide) 52 rfl ?_
    refine ww_isub C dX6_count_52 53 rfl ?_
    refine ww_callVi C (As := [.int (a1 - (1 : Int32))]) (st := []) h cl_X6.1 (obM hn) (fun _ _ hF => k_X6_placed hn hF) w_954 cm_X6_placed (by decide) (by decide) rfl rfl (Nat.le_of_ble_eq_true rfl) dX6_count_53 56 rfl (fun v34 u33 h => ?_)
    refine ww_callSi C (As := [.int v34]) (st := []) h (fun _ _ hF => k_X6_onesOf hn hF) w_958 cm_X6_onesOf (by decide) (by decide) rfl rfl (Nat.le_of_ble_eq_true rfl) dX6_count_56 59 rfl (fun v36 u35 h => ?_)
    exact ww_iret C dX6_count_59 hr h
  refine sw_1 h (fun e37 h => ?_) (fun n38 h => ?_)
  · refine ww_tin C (v := (3 : Int32)) e37 60 dX6_count_1 (by decide) (by decide) rfl (by decide) ?_
    refine ww_aload_n C 0 dX6_count_60 rfl rfl 61 rfl ?_
    refine ww_getI C cl_X6 (obM hn) 6 (by decide) rfl w_853 dX6_count_61 64 rfl ?_
    exact ww_iret C dX6_count_64 hr h
  refine sw_1 h (fun e39 h => ?_) (fun n40 h => ?_)
  · refine ww_tin C (v := (4 : Int32)) e39 65 dX6_count_1 (by decide) (by decide) rfl (by decide) ?_
    refine ww_aload_n C 0 dX6_count_65 rfl rfl 66 rfl ?_
    refine ww_getI C cl_X6 (obM hn) 11 (by decide) rfl w_858 dX6_count_66 69 rfl ?_
    exact ww_iret C dX6_count_69 hr h
  refine sw_1 h (fun e41 h => ?_) (fun n42 h => ?_)
  · refine ww_tin C (v := (5 : Int32)) e41 70 dX6_count_1 (by decide) (by decide) rfl (by decide) ?_
    refine ww_aload_n C 0 dX6_count_70 rfl rfl 71 rfl ?_
    refine ww_getI C cl_X6 (obM hn) 12 (by decide) rfl w_859 dX6_count_71 74 rfl ?_
    exact ww_iret C dX6_count_74 hr h
  refine sw_1 h (fun e43 h => ?_) (fun n44 h => ?_)
  · refine ww_tin C (v := (6 : Int32)) e43 75 dX6_count_1 (by decide) (by decide) rfl (by decide) ?_
    refine ww_aload_n C 0 dX6_count_75 rfl rfl 76 rfl ?_
    refine ww_getI C cl_X6 (obM hn) 8 (by decide) rfl w_855 dX6_count_76 79 rfl ?_
    exact ww_iret C dX6_count_79 hr h
  refine ww_tout C 80 dX6_count_1 (by have q0 := sw_ne (z := 0) n24 rfl; have q1 := sw_ne (z := 1) n26 rfl; have q2 := sw_ne (z := 2) n32 rfl; have q3 := sw_ne (z := 3) n38 rfl; have q4 := sw_ne (z := 4) n40 rfl; have q5 := sw_ne (z := 5) n42 rfl; have q6 := sw_ne (z := 6) n44 rfl; omega) (by decide) ?_
  refine ww_bipush C (-2 : Int32) dX6_count_80 (by decide) 82 rfl ?_
  exact ww_iret C dX6_count_82 hr h

set_option maxRecDepth 100000 in
set_option maxHeartbeats 4000000 in
theorem k_X6_cask {l : Launch} {D : va_G} {ad : Nat → Nat} {cA : Nat → ClassId} {tys : List (ClassId × FieldType)} {n : Nat} {sa : Nat → Nat} (hn : 20 ≤ n) {N : Nat} {g : Mem} {a1 : Int32} {a2 : Int32} {a3 : Int32} {r : Int32} {g1 : Mem} (h : X6_cask N a1 a2 a3 g = some (r, g1)) : CTi l yX6_cask (wsm yX6_cask cX6_cask 6 (some .int)) 3 D YM ad cA tys n sa g [.ref (ad 0), .int a1, .int a2, .int a3] r g1 := by
  refine ct_of RX6 rfl (by decide +kernel) (Nat.le_of_ble_eq_true rfl) rfl (fun sz => PBi D YM ad cA n r g1 sz) ?_
  intro p e R s m args below meth c C hr
  rw [X6_cask] at h
  refine ww_iload_n C 1 dX6_cask_0 rfl rfl 1 rfl ?_
  refine ww_callSi C (As := [.int a1]) (st := []) h (fun _ _ hF => k_X6_isCask hn hF) w_965 cm_X6_isCask (by decide) (by decide) rfl rfl (Nat.le_of_ble_eq_true rfl) dX6_cask_1 4 rfl (fun v22 u21 h => ?_)
  refine ww_if_ne C 10 dX6_cask_4 (by decide) h 7 rfl (fun h => ?_) (fun h => ?_)
  · refine ww_iload_n C 2 dX6_cask_10 rfl rfl 11 rfl ?_
    refine ww_if_ne C 18 dX6_cask_11 (by decide) h 14 rfl (fun h => ?_) (fun h => ?_)
    · refine ww_iload_n C 2 dX6_cask_18 rfl rfl 19 rfl ?_
      refine ww_iconst C (3 : Int32) dX6_cask_19 (by decide) 20 rfl ?_
      refine ww_icmp_ne C 27 dX6_cask_20 (by decide) h 23 rfl (fun h => ?_) (fun h => ?_)
      · refine ww_bipush C (99 : Int32) dX6_cask_27 (by decide) 29 rfl ?_
        refine ww_istore C [(4, .int (99 : Int32)), (0, .ref (ad 0)), (1, .int a1), (2, .int a2), (3, .int a3)] dX6_cask_29 (by decide) rfl 31 rfl ?_
        refine ww_iload_n C 3 dX6_cask_31 rfl rfl 32 rfl ?_
        refine ww_iconst C (0 : Int32) dX6_cask_32 (by decide) 33 rfl ?_
        refine ww_iconst C (3 : Int32) dX6_cask_33 (by decide) 34 rfl ?_
        refine ww_callSi C (As := [.int a2, .int (0 : Int32), .int (3 : Int32)]) (st := []) h (fun _ _ hF => k_X6_in hn hF) w_808 cm_X6_in (by decide) (by decide) rfl rfl (Nat.le_of_ble_eq_true rfl) dX6_cask_34 37 rfl (fun v24 u23 h => ?_)
        refine ww_if_eq C 50 dX6_cask_37 (by decide) h 40 rfl (fun h => ?_) (fun h => ?_)
        · refine ww_bipush C (-7 : Int32) dX6_cask_50 (by decide) 52 rfl ?_
          exact ww_iret C dX6_cask_52 hr h
        · refine ww_iload_n C 4 dX6_cask_40 rfl rfl 41 rfl ?_
          refine ww_iconst C (0 : Int32) dX6_cask_41 (by decide) 42 rfl ?_
          refine ww_iload C 0 dX6_cask_42 rfl 44 rfl ?_
          refine ww_callSi C (As := [.int a3, .int (0 : Int32), .int (99 : Int32)]) (st := []) h (fun _ _ hF => k_X6_in hn hF) w_808 cm_X6_in (by decide) (by decide) rfl rfl (Nat.le_of_ble_eq_true rfl) dX6_cask_44 47 rfl (fun v26 u25 h => ?_)
          refine ww_if_ne C 53 dX6_cask_47 (by decide) h 50 rfl (fun h => ?_) (fun h => ?_)
          · refine ww_aload_n C 1 dX6_cask_53 rfl rfl 54 rfl ?_
            refine ww_getS C cl_X6 (obM hn) 4 (by decide) rfl 4 rfl w_851 dX6_cask_54 57 rfl ?_
            refine ww_iconst C (4 : Int32) dX6_cask_57 (by decide) 58 rfl ?_
            refine ww_iload_n C 2 dX6_cask_58 rfl rfl 59 rfl ?_
            refine ww_imul C dX6_cask_59 60 rfl ?_
            refine ww_iload_n C 3 dX6_cask_60 rfl rfl 61 rfl ?_
            refine ww_iadd C dX6_cask_61 62 rfl ?_
            refine ww_iald C (iaM hn 4 48 (by decide) (by decide) rfl) dX6_cask_62 h 63 rfl (fun h => ?_)
            refine ww_bi h (fun v27 h => ?_)
            refine ww_istore C [(5, .int v27), (4, .int (99 : Int32)), (0, .ref (ad 0)), (1, .int a1), (2, .int a2), (3, .int a3)] dX6_cask_63 (by decide) rfl 65 rfl ?_
            refine ww_aload_n C 2 dX6_cask_65 rfl rfl 66 rfl ?_
            refine ww_getS C cl_X6 (obM hn) 4 (by decide) rfl 4 rfl w_851 dX6_cask_66 69 rfl ?_
            refine ww_iconst C (4 : Int32) dX6_cask_69 (by decide) 70 rfl ?_
            refine ww_iload_n C 3 dX6_cask_70 rfl rfl 71 rfl ?_
            refine ww_imul C dX6_cask_71 72 rfl ?_
            refine ww_iload_n C 4 dX6_cask_72 rfl rfl 73 rfl ?_
            refine ww_iadd C dX6_cask_73 74 rfl ?_
            refine ww_iload_n C 5 dX6_cask_74 rfl rfl 75 rfl ?_
            refine ww_iast C (iaM hn 4 48 (by decide) (by decide) rfl) dX6_cask_75 h 76 rfl (fun u28 h => ?_)
            refine ww_iload C 0 dX6_cask_76 rfl 78 rfl ?_
            exact ww_iret C dX6_cask_78 hr h
          · refine ww_bipush C (-7 : Int32) dX6_cask_50 (by decide) 52 rfl ?_
            exact ww_iret C dX6_cask_52 hr h
      · refine ww_iconst C (2 : Int32) dX6_cask_23 (by decide) 24 rfl ?_
        refine ww_goto C 29 dX6_cask_24 (by decide) ?_
        refine ww_istore C [(4, .int (2 : Int32)), (0, .ref (ad 0)), (1, .int a1), (2, .int a2), (3, .int a3)] dX6_cask_29 (by decide) rfl 31 rfl ?_
        refine ww_iload_n C 3 dX6_cask_31 rfl rfl 32 rfl ?_
        refine ww_iconst C (0 : Int32) dX6_cask_32 (by decide) 33 rfl ?_
        refine ww_iconst C (3 : Int32) dX6_cask_33 (by decide) 34 rfl ?_
        refine ww_callSi C (As := [.int a2, .int (0 : Int32), .int (3 : Int32)]) (st := []) h (fun _ _ hF => k_X6_in hn hF) w_808 cm_X6_in (by decide) (by decide) rfl rfl (Nat.le_of_ble_eq_true rfl) dX6_cask_34 37 rfl (fun v30 u29 h => ?_)
        refine ww_if_eq C 50 dX6_cask_37 (by decide) h 40 rfl (fun h => ?_) (fun h => ?_)
        · refine ww_bipush C (-7 : Int32) dX6_cask_50 (by decide) 52 rfl ?_
          exact ww_iret C dX6_cask_52 hr h
        · refine ww_iload_n C 4 dX6_cask_40 rfl rfl 41 rfl ?_
          refine ww_iconst C (0 : Int32) dX6_cask_41 (by decide) 42 rfl ?_
          refine ww_iload C 0 dX6_cask_42 rfl 44 rfl ?_
          refine ww_callSi C (As := [.int a3, .int (0 : Int32), .int (2 : Int32)]) (st := []) h (fun _ _ hF => k_X6_in hn hF) w_808 cm_X6_in (by decide) (by decide) rfl rfl (Nat.le_of_ble_eq_true rfl) dX6_cask_44 47 rfl (fun v32 u31 h => ?_)
          refine ww_if_ne C 53 dX6_cask_47 (by decide) h 50 rfl (fun h => ?_) (fun h => ?_)
          · refine ww_aload_n C 1 dX6_cask_53 rfl rfl 54 rfl ?_
            refine ww_getS C cl_X6 (obM hn) 4 (by decide) rfl 4 rfl w_851 dX6_cask_54 57 rfl ?_
            refine ww_iconst C (4 : Int32) dX6_cask_57 (by decide) 58 rfl ?_
            refine ww_iload_n C 2 dX6_cask_58 rfl rfl 59 rfl ?_
            refine ww_imul C dX6_cask_59 60 rfl ?_
            refine ww_iload_n C 3 dX6_cask_60 rfl rfl 61 rfl ?_
            refine ww_iadd C dX6_cask_61 62 rfl ?_
            refine ww_iald C (iaM hn 4 48 (by decide) (by decide) rfl) dX6_cask_62 h 63 rfl (fun h => ?_)
            refine ww_bi h (fun v33 h => ?_)
            refine ww_istore C [(5, .int v33), (4, .int (2 : Int32)), (0, .ref (ad 0)), (1, .int a1), (2, .int a2), (3, .int a3)] dX6_cask_63 (by decide) rfl 65 rfl ?_
            refine ww_aload_n C 2 dX6_cask_65 rfl rfl 66 rfl ?_
            refine ww_getS C cl_X6 (obM hn) 4 (by decide) rfl 4 rfl w_851 dX6_cask_66 69 rfl ?_
            refine ww_iconst C (4 : Int32) dX6_cask_69 (by decide) 70 rfl ?_
            refine ww_iload_n C 3 dX6_cask_70 rfl rfl 71 rfl ?_
            refine ww_imul C dX6_cask_71 72 rfl ?_
            refine ww_iload_n C 4 dX6_cask_72 rfl rfl 73 rfl ?_
            refine ww_iadd C dX6_cask_73 74 rfl ?_
            refine ww_iload_n C 5 dX6_cask_74 rfl rfl 75 rfl ?_
            refine ww_iast C (iaM hn 4 48 (by decide) (by decide) rfl) dX6_cask_75 h 76 rfl (fun u34 h => ?_)
            refine ww_iload C 0 dX6_cask_76 rfl 78 rfl ?_
            exact ww_iret C dX6_cask_78 hr h
          · refine ww_bipush C (-7 : Int32) dX6_cask_50 (by decide) 52 rfl ?_
            exact ww_iret C dX6_cask_52 hr h
    · refine ww_iconst C (5 : Int32) dX6_cask_14 (by decide) 15 rfl ?_
      refine ww_goto C 29 dX6_cask_15 (by decide) ?_
      refine ww_istore C [(4, .int (5 : Int32)), (0, .ref (ad 0)), (1, .int a1), (2, .int a2), (3, .int a3)] dX6_cask_29 (by decide) rfl 31 rfl ?_
      refine ww_iload_n C 3 dX6_cask_31 rfl rfl 32 rfl ?_
      refine ww_iconst C (0 : Int32) dX6_cask_32 (by decide) 33 rfl ?_
      refine ww_iconst C (3 : Int32) dX6_cask_33 (by decide) 34 rfl ?_
      refine ww_callSi C (As := [.int a2, .int (0 : Int32), .int (3 : Int32)]) (st := []) h (fun _ _ hF => k_X6_in hn hF) w_808 cm_X6_in (by decide) (by decide) rfl rfl (Nat.le_of_ble_eq_true rfl) dX6_cask_34 37 rfl (fun v36 u35 h => ?_)
      refine ww_if_eq C 50 dX6_cask_37 (by decide) h 40 rfl (fun h => ?_) (fun h => ?_)
      · refine ww_bipush C (-7 : Int32) dX6_cask_50 (by decide) 52 rfl ?_
        exact ww_iret C dX6_cask_52 hr h
      · refine ww_iload_n C 4 dX6_cask_40 rfl rfl 41 rfl ?_
        refine ww_iconst C (0 : Int32) dX6_cask_41 (by decide) 42 rfl ?_
        refine ww_iload C 0 dX6_cask_42 rfl 44 rfl ?_
        refine ww_callSi C (As := [.int a3, .int (0 : Int32), .int (5 : Int32)]) (st := []) h (fun _ _ hF => k_X6_in hn hF) w_808 cm_X6_in (by decide) (by decide) rfl rfl (Nat.le_of_ble_eq_true rfl) dX6_cask_44 47 rfl (fun v38 u37 h => ?_)
        refine ww_if_ne C 53 dX6_cask_47 (by decide) h 50 rfl (fun h => ?_) (fun h => ?_)
        · refine ww_aload_n C 1 dX6_cask_53 rfl rfl 54 rfl ?_
          refine ww_getS C cl_X6 (obM hn) 4 (by decide) rfl 4 rfl w_851 dX6_cask_54 57 rfl ?_
          refine ww_iconst C (4 : Int32) dX6_cask_57 (by decide) 58 rfl ?_
          refine ww_iload_n C 2 dX6_cask_58 rfl rfl 59 rfl ?_
          refine ww_imul C dX6_cask_59 60 rfl ?_
          refine ww_iload_n C 3 dX6_cask_60 rfl rfl 61 rfl ?_
          refine ww_iadd C dX6_cask_61 62 rfl ?_
          refine ww_iald C (iaM hn 4 48 (by decide) (by decide) rfl) dX6_cask_62 h 63 rfl (fun h => ?_)
          refine ww_bi h (fun v39 h => ?_)
          refine ww_istore C [(5, .int v39), (4, .int (5 : Int32)), (0, .ref (ad 0)), (1, .int a1), (2, .int a2), (3, .int a3)] dX6_cask_63 (by decide) rfl 65 rfl ?_
          refine ww_aload_n C 2 dX6_cask_65 rfl rfl 66 rfl ?_
          refine ww_getS C cl_X6 (obM hn) 4 (by decide) rfl 4 rfl w_851 dX6_cask_66 69 rfl ?_
          refine ww_iconst C (4 : Int32) dX6_cask_69 (by decide) 70 rfl ?_
          refine ww_iload_n C 3 dX6_cask_70 rfl rfl 71 rfl ?_
          refine ww_imul C dX6_cask_71 72 rfl ?_
          refine ww_iload_n C 4 dX6_cask_72 rfl rfl 73 rfl ?_
          refine ww_iadd C dX6_cask_73 74 rfl ?_
          refine ww_iload_n C 5 dX6_cask_74 rfl rfl 75 rfl ?_
          refine ww_iast C (iaM hn 4 48 (by decide) (by decide) rfl) dX6_cask_75 h 76 rfl (fun u40 h => ?_)
          refine ww_iload C 0 dX6_cask_76 rfl 78 rfl ?_
          exact ww_iret C dX6_cask_78 hr h
        · refine ww_bipush C (-7 : Int32) dX6_cask_50 (by decide) 52 rfl ?_
          exact ww_iret C dX6_cask_52 hr h
  · refine ww_bipush C (-5 : Int32) dX6_cask_7 (by decide) 9 rfl ?_
    exact ww_iret C dX6_cask_9 hr h

set_option maxRecDepth 100000 in
set_option maxHeartbeats 4000000 in
theorem k_X6_lies {l : Launch} {D : va_G} {ad : Nat → Nat} {cA : Nat → ClassId} {tys : List (ClassId × FieldType)} {n : Nat} {sa : Nat → Nat} (hn : 20 ≤ n) {N : Nat} {g : Mem} {a1 : Int32} {a2 : Int32} {r : Int32} {g1 : Mem} (h : X6_lies N a1 a2 g = some (r, g1)) : CTi l yX6_lies (wsm yX6_lies cX6_lies 3 (some .int)) 3 D YM ad cA tys n sa g [.ref (ad 0), .int a1, .int a2] r g1 := by
  refine ct_of RX6 rfl (by decide +kernel) (Nat.le_of_ble_eq_true rfl) rfl (fun sz => PBi D YM ad cA n r g1 sz) ?_
  intro p e R s m args below meth c C hr
  rw [X6_lies] at h
  refine ww_iload_n C 1 dX6_lies_0 rfl rfl 1 rfl ?_
  refine ww_callSi C (As := [.int a1]) (st := []) h (fun _ _ hF => k_X6_isCask hn hF) w_965 cm_X6_isCask (by decide) (by decide) rfl rfl (Nat.le_of_ble_eq_true rfl) dX6_lies_1 4 rfl (fun v6 u5 h => ?_)
  refine ww_if_ne C 10 dX6_lies_4 (by decide) h 7 rfl (fun h => ?_) (fun h => ?_)
  · refine ww_iload_n C 2 dX6_lies_10 rfl rfl 11 rfl ?_
    refine ww_iconst C (0 : Int32) dX6_lies_11 (by decide) 12 rfl ?_
    refine ww_iconst C (3 : Int32) dX6_lies_12 (by decide) 13 rfl ?_
    refine ww_callSi C (As := [.int a2, .int (0 : Int32), .int (3 : Int32)]) (st := []) h (fun _ _ hF => k_X6_in hn hF) w_808 cm_X6_in (by decide) (by decide) rfl rfl (Nat.le_of_ble_eq_true rfl) dX6_lies_13 16 rfl (fun v8 u7 h => ?_)
    refine ww_if_eq C 32 dX6_lies_16 (by decide) h 19 rfl (fun h => ?_) (fun h => ?_)
    · refine ww_bipush C (-7 : Int32) dX6_lies_32 (by decide) 34 rfl ?_
      exact ww_iret C dX6_lies_34 hr h
    · refine ww_aload_n C 0 dX6_lies_19 rfl rfl 20 rfl ?_
      refine ww_getS C cl_X6 (obM hn) 4 (by decide) rfl 4 rfl w_851 dX6_lies_20 23 rfl ?_
      refine ww_iconst C (4 : Int32) dX6_lies_23 (by decide) 24 rfl ?_
      refine ww_iload_n C 1 dX6_lies_24 rfl rfl 25 rfl ?_
      refine ww_imul C dX6_lies_25 26 rfl ?_
      refine ww_iload_n C 2 dX6_lies_26 rfl rfl 27 rfl ?_
      refine ww_iadd C dX6_lies_27 28 rfl ?_
      refine ww_iald C (iaM hn 4 48 (by decide) (by decide) rfl) dX6_lies_28 h 29 rfl (fun h => ?_)
      refine ww_goto C 34 dX6_lies_29 (by decide) ?_
      exact ww_iret C dX6_lies_34 hr h
  · refine ww_bipush C (-5 : Int32) dX6_lies_7 (by decide) 9 rfl ?_
    exact ww_iret C dX6_lies_9 hr h

set_option maxRecDepth 100000 in
set_option maxHeartbeats 4000000 in
theorem k_X6_sky {l : Launch} {D : va_G} {ad : Nat → Nat} {cA : Nat → ClassId} {tys : List (ClassId × FieldType)} {n : Nat} {sa : Nat → Nat} (hn : 20 ≤ n) {N : Nat} {g : Mem} {a1 : Int32} {a2 : Int32} {r : Int32} {g1 : Mem} (h : X6_sky N a1 a2 g = some (r, g1)) : CTi l yX6_sky (wsm yX6_sky cX6_sky 4 (some .int)) 2 D YM ad cA tys n sa g [.ref (ad 0), .int a1, .int a2] r g1 := by
  refine ct_of RX6 rfl (by decide +kernel) (Nat.le_of_ble_eq_true rfl) rfl (fun sz => PBi D YM ad cA n r g1 sz) ?_
  intro p e R s m args below meth c C hr
  rw [X6_sky] at h
  refine ww_iload_n C 1 dX6_sky_0 rfl rfl 1 rfl ?_
  refine ww_iconst C (0 : Int32) dX6_sky_1 (by decide) 2 rfl ?_
  refine ww_bipush C (6 : Int32) dX6_sky_2 (by decide) 4 rfl ?_
  refine ww_callSi C (As := [.int a1, .int (0 : Int32), .int (6 : Int32)]) (st := []) h (fun _ _ hF => k_X6_in hn hF) w_808 cm_X6_in (by decide) (by decide) rfl rfl (Nat.le_of_ble_eq_true rfl) dX6_sky_4 7 rfl (fun v16 u15 h => ?_)
  refine ww_if_ne C 13 dX6_sky_7 (by decide) h 10 rfl (fun h => ?_) (fun h => ?_)
  · refine ww_iload_n C 2 dX6_sky_13 rfl rfl 14 rfl ?_
    refine ww_iconst C (0 : Int32) dX6_sky_14 (by decide) 15 rfl ?_
    refine ww_iload_n C 1 dX6_sky_15 rfl rfl 16 rfl ?_
    refine ww_bipush C (6 : Int32) dX6_sky_16 (by decide) 18 rfl ?_
    refine ww_icmp_ne C 27 dX6_sky_18 (by decide) h 21 rfl (fun h => ?_) (fun h => ?_)
    · refine ww_bipush C (99 : Int32) dX6_sky_27 (by decide) 29 rfl ?_
      refine ww_callSi C (As := [.int a2, .int (0 : Int32), .int (99 : Int32)]) (st := []) h (fun _ _ hF => k_X6_in hn hF) w_808 cm_X6_in (by decide) (by decide) rfl rfl (Nat.le_of_ble_eq_true rfl) dX6_sky_29 32 rfl (fun v18 u17 h => ?_)
      refine ww_if_ne C 38 dX6_sky_32 (by decide) h 35 rfl (fun h => ?_) (fun h => ?_)
      · refine ww_iload_n C 1 dX6_sky_38 rfl rfl 39 rfl ?_
        refine ww_bipush C (6 : Int32) dX6_sky_39 (by decide) 41 rfl ?_
        refine ww_icmp_ne C 56 dX6_sky_41 (by decide) h 44 rfl (fun h => ?_) (fun h => ?_)
        · refine ww_aload_n C 0 dX6_sky_56 rfl rfl 57 rfl ?_
          refine ww_getS C cl_X6 (obM hn) 5 (by decide) rfl 5 rfl w_852 dX6_sky_57 60 rfl ?_
          refine ww_iload_n C 1 dX6_sky_60 rfl rfl 61 rfl ?_
          refine ww_iald C (iaM hn 5 6 (by decide) (by decide) rfl) dX6_sky_61 h 62 rfl (fun h => ?_)
          refine ww_bi h (fun v19 h => ?_)
          refine ww_istore_n C [(3, .int v19), (0, .ref (ad 0)), (1, .int a1), (2, .int a2)] dX6_sky_62 rfl (by decide) rfl 63 rfl ?_
          refine ww_aload_n C 1 dX6_sky_63 rfl rfl 64 rfl ?_
          refine ww_getS C cl_X6 (obM hn) 5 (by decide) rfl 5 rfl w_852 dX6_sky_64 67 rfl ?_
          refine ww_iload_n C 2 dX6_sky_67 rfl rfl 68 rfl ?_
          refine ww_iload_n C 3 dX6_sky_68 rfl rfl 69 rfl ?_
          refine ww_iast C (iaM hn 5 6 (by decide) (by decide) rfl) dX6_sky_69 h 70 rfl (fun u20 h => ?_)
          refine ww_iload_n C 0 dX6_sky_70 rfl rfl 71 rfl ?_
          exact ww_iret C dX6_sky_71 hr h
        · refine ww_aload_n C 0 dX6_sky_44 rfl rfl 45 rfl ?_
          refine ww_getI C cl_X6 (obM hn) 6 (by decide) rfl w_853 dX6_sky_45 48 rfl ?_
          refine ww_bi h (fun v21 h => ?_)
          refine ww_istore_n C [(3, .int v21), (0, .ref (ad 0)), (1, .int a1), (2, .int a2)] dX6_sky_48 rfl (by decide) rfl 49 rfl ?_
          refine ww_aload_n C 1 dX6_sky_49 rfl rfl 50 rfl ?_
          refine ww_iload_n C 3 dX6_sky_50 rfl rfl 51 rfl ?_
          refine ww_putI C cl_X6 (obM hn) 6 (by decide) rfl tyX6 tyX6_ok nmX6 rfl rfl rfl w_853 dX6_sky_51 h 54 rfl (fun u22 h => ?_)
          refine ww_iload_n C 0 dX6_sky_54 rfl rfl 55 rfl ?_
          exact ww_iret C dX6_sky_55 hr h
      · refine ww_bipush C (-7 : Int32) dX6_sky_35 (by decide) 37 rfl ?_
        exact ww_iret C dX6_sky_37 hr h
    · refine ww_sipush C (999 : Int32) dX6_sky_21 (by decide) 24 rfl ?_
      refine ww_goto C 29 dX6_sky_24 (by decide) ?_
      refine ww_callSi C (As := [.int a2, .int (0 : Int32), .int (999 : Int32)]) (st := []) h (fun _ _ hF => k_X6_in hn hF) w_808 cm_X6_in (by decide) (by decide) rfl rfl (Nat.le_of_ble_eq_true rfl) dX6_sky_29 32 rfl (fun v24 u23 h => ?_)
      refine ww_if_ne C 38 dX6_sky_32 (by decide) h 35 rfl (fun h => ?_) (fun h => ?_)
      · refine ww_iload_n C 1 dX6_sky_38 rfl rfl 39 rfl ?_
        refine ww_bipush C (6 : Int32) dX6_sky_39 (by decide) 41 rfl ?_
        refine ww_icmp_ne C 56 dX6_sky_41 (by decide) h 44 rfl (fun h => ?_) (fun h => ?_)
        · refine ww_aload_n C 0 dX6_sky_56 rfl rfl 57 rfl ?_
          refine ww_getS C cl_X6 (obM hn) 5 (by decide) rfl 5 rfl w_852 dX6_sky_57 60 rfl ?_
          refine ww_iload_n C 1 dX6_sky_60 rfl rfl 61 rfl ?_
          refine ww_iald C (iaM hn 5 6 (by decide) (by decide) rfl) dX6_sky_61 h 62 rfl (fun h => ?_)
          refine ww_bi h (fun v25 h => ?_)
          refine ww_istore_n C [(3, .int v25), (0, .ref (ad 0)), (1, .int a1), (2, .int a2)] dX6_sky_62 rfl (by decide) rfl 63 rfl ?_
          refine ww_aload_n C 1 dX6_sky_63 rfl rfl 64 rfl ?_
          refine ww_getS C cl_X6 (obM hn) 5 (by decide) rfl 5 rfl w_852 dX6_sky_64 67 rfl ?_
          refine ww_iload_n C 2 dX6_sky_67 rfl rfl 68 rfl ?_
          refine ww_iload_n C 3 dX6_sky_68 rfl rfl 69 rfl ?_
          refine ww_iast C (iaM hn 5 6 (by decide) (by decide) rfl) dX6_sky_69 h 70 rfl (fun u26 h => ?_)
          refine ww_iload_n C 0 dX6_sky_70 rfl rfl 71 rfl ?_
          exact ww_iret C dX6_sky_71 hr h
        · refine ww_aload_n C 0 dX6_sky_44 rfl rfl 45 rfl ?_
          refine ww_getI C cl_X6 (obM hn) 6 (by decide) rfl w_853 dX6_sky_45 48 rfl ?_
          refine ww_bi h (fun v27 h => ?_)
          refine ww_istore_n C [(3, .int v27), (0, .ref (ad 0)), (1, .int a1), (2, .int a2)] dX6_sky_48 rfl (by decide) rfl 49 rfl ?_
          refine ww_aload_n C 1 dX6_sky_49 rfl rfl 50 rfl ?_
          refine ww_iload_n C 3 dX6_sky_50 rfl rfl 51 rfl ?_
          refine ww_putI C cl_X6 (obM hn) 6 (by decide) rfl tyX6 tyX6_ok nmX6 rfl rfl rfl w_853 dX6_sky_51 h 54 rfl (fun u28 h => ?_)
          refine ww_iload_n C 0 dX6_sky_54 rfl rfl 55 rfl ?_
          exact ww_iret C dX6_sky_55 hr h
      · refine ww_bipush C (-7 : Int32) dX6_sky_35 (by decide) 37 rfl ?_
        exact ww_iret C dX6_sky_37 hr h
  · refine ww_bipush C (-5 : Int32) dX6_sky_10 (by decide) 12 rfl ?_
    exact ww_iret C dX6_sky_12 hr h

set_option maxRecDepth 100000 in
set_option maxHeartbeats 4000000 in
theorem k_X6_isByte {l : Launch} {D : va_G} {ad : Nat → Nat} {cA : Nat → ClassId} {tys : List (ClassId × FieldType)} {n : Nat} {sa : Nat → Nat} (hn : 20 ≤ n) {N : Nat} {g : Mem} {a1 : Int32} {r : Int32} {g1 : Mem} (h : X6_isByte N a1 g = some (r, g1)) : CTi l yX6_isByte (wsm yX6_isByte cX6_isByte 1 (some .boolean)) 2 D YM ad cA tys n sa g [.int a1] r g1 := by
  refine ct_of RX6 rfl (by decide +kernel) (Nat.le_of_ble_eq_true rfl) rfl (fun sz => PBi D YM ad cA n r g1 sz) ?_
  intro p e R s m args below meth c C hr
  rw [X6_isByte] at h
  refine ww_iload_n C 0 dX6_isByte_0 rfl rfl 1 rfl ?_
  refine ww_iconst C (0 : Int32) dX6_isByte_1 (by decide) 2 rfl ?_
  refine ww_sipush C (255 : Int32) dX6_isByte_2 (by decide) 5 rfl ?_
  refine ww_callSi C (As := [.int a1, .int (0 : Int32), .int (255 : Int32)]) (st := []) h (fun _ _ hF => k_X6_in hn hF) w_808 cm_X6_in (by decide) (by decide) rfl rfl (Nat.le_of_ble_eq_true rfl) dX6_isByte_5 8 rfl (fun v4 u3 h => ?_)
  exact ww_zretG C dX6_isByte_8 hr h

set_option maxRecDepth 100000 in
set_option maxHeartbeats 4000000 in
theorem k_X6_feed {l : Launch} {D : va_G} {ad : Nat → Nat} {cA : Nat → ClassId} {tys : List (ClassId × FieldType)} {n : Nat} {sa : Nat → Nat} (hn : 20 ≤ n) {N : Nat} {g : Mem} {a1 : Int32} {a2 : Int32} {a3 : Int32} {a4 : Int32} {a5 : Int32} {a6 : Int32} {r : Int32} {g1 : Mem} (h : X6_feed N a1 a2 a3 a4 a5 a6 g = some (r, g1)) : CTi l yX6_feed (wsm yX6_feed cX6_feed 8 (some .int)) 3 D YM ad cA tys n sa g [.ref (ad 0), .int a1, .int a2, .int a3, .int a4, .int a5, .int a6] r g1 := by
  refine ct_of RX6 rfl (by decide +kernel) (Nat.le_of_ble_eq_true rfl) rfl (fun sz => PBi D YM ad cA n r g1 sz) ?_
  intro p e R s m args below meth c C hr
  have L68h : ∀ (fu : Nat), (∀ (x7 : Int32) (g : Mem), X6_feed_L68 N a1 a2 a3 a4 a5 a6 fu x7 g = some (r, g1) → WW p l e R s m args below meth c 8 D YM ad cA n (MQ below (PBi D YM ad cA n r g1 s.heap.size) args s 0 0 (AA n ad s.heap.size)) g 68 [(0, .ref (ad 0)), (1, .int a1), (2, .int a2), (3, .int a3), (4, .int a4), (5, .int a5), (6, .int a6), (7, .int x7)] []) := by
    intro fu
    induction fu with
    | zero => intro x7 g h; cases h
    | succ fu ih =>
      intro x7 g h
      rw [X6_feed_L68] at h
      refine ww_iload C 7 dX6_feed_68 rfl 70 rfl ?_
      refine ww_iload_n C 1 dX6_feed_70 rfl rfl 71 rfl ?_
      refine ww_icmp_ge C 142 dX6_feed_71 (by decide) h 74 rfl (fun h => ?_) (fun h => ?_)
      · refine ww_aload_n C 0 dX6_feed_142 rfl rfl 143 rfl ?_
        refine ww_getI C cl_X6 (obM hn) 8 (by decide) rfl w_855 dX6_feed_143 146 rfl ?_
        exact ww_iret C dX6_feed_146 hr h
      · refine ww_aload_n C 0 dX6_feed_74 rfl rfl 75 rfl ?_
        refine ww_getS C cl_X6 (obM hn) 7 (by decide) rfl 6 rfl w_854 dX6_feed_75 78 rfl ?_
        refine ww_aload_n C 0 dX6_feed_78 rfl rfl 79 rfl ?_
        refine ww_getI C cl_X6 (obM hn) 8 (by decide) rfl w_855 dX6_feed_79 82 rfl ?_
        refine ww_iload C 7 dX6_feed_82 rfl 84 rfl ?_
        refine ww_if_ne C 91 dX6_feed_84 (by decide) h 87 rfl (fun h => ?_) (fun h => ?_)
        · refine ww_iload C 7 dX6_feed_91 rfl 93 rfl ?_
          refine ww_iconst C (1 : Int32) dX6_feed_93 (by decide) 94 rfl ?_
          refine ww_icmp_ne C 101 dX6_feed_94 (by decide) h 97 rfl (fun h => ?_) (fun h => ?_)
          · refine ww_iload C 7 dX6_feed_101 rfl 103 rfl ?_
            refine ww_iconst C (2 : Int32) dX6_feed_103 (by decide) 104 rfl ?_
            refine ww_icmp_ne C 112 dX6_feed_104 (by decide) h 107 rfl (fun h => ?_) (fun h => ?_)
            · refine ww_iload C 7 dX6_feed_112 rfl 114 rfl ?_
              refine ww_iconst C (3 : Int32) dX6_feed_114 (by decide) 115 rfl ?_
              refine ww_icmp_ne C 123 dX6_feed_115 (by decide) h 118 rfl (fun h => ?_) (fun h => ?_)
              · refine ww_iload C 6 dX6_feed_123 rfl 125 rfl ?_
                refine ww_iast C (iaM hn 6 160 (by decide) (by decide) rfl) dX6_feed_125 h 126 rfl (fun u28 h => ?_)
                refine ww_aload_n C 0 dX6_feed_126 rfl rfl 127 rfl ?_
                refine ww_dup C dX6_feed_127 rfl 128 rfl ?_
                refine ww_getI C cl_X6 (obM hn) 8 (by decide) rfl w_855 dX6_feed_128 131 rfl ?_
                refine ww_iconst C (1 : Int32) dX6_feed_131 (by decide) 132 rfl ?_
                refine ww_iadd C dX6_feed_132 133 rfl ?_
                refine ww_putI C cl_X6 (obM hn) 8 (by decide) rfl tyX6 tyX6_ok nmX6 rfl rfl rfl w_855 dX6_feed_133 h 136 rfl (fun u29 h => ?_)
                refine ww_iinc C 7 (1 : Int32) (by decide) (fun v30 => [(7, .int v30), (0, .ref (ad 0)), (1, .int a1), (2, .int a2), (3, .int a3), (4, .int a4), (5, .int a5), (6, .int a6)]) dX6_feed_136 rfl (by decide) (fun _ => rfl) h 139 rfl (fun v30 h => ?_)
                refine ww_goto C 68 dX6_feed_139 (by decide) ?_
                exact ww_sub [1, 2, 3, 4, 5, 6, 7, 0] rfl (ih _ _ h)
              · refine ww_iload C 5 dX6_feed_118 rfl 120 rfl ?_
                refine ww_goto C 125 dX6_feed_120 (by decide) ?_
                refine ww_iast C (iaM hn 6 160 (by decide) (by decide) rfl) dX6_feed_125 h 126 rfl (fun u31 h => ?_)
                refine ww_aload_n C 0 dX6_feed_126 rfl rfl 127 rfl ?_
                refine ww_dup C dX6_feed_127 rfl 128 rfl ?_
                refine ww_getI C cl_X6 (obM hn) 8 (by decide) rfl w_855 dX6_feed_128 131 rfl ?_
                refine ww_iconst C (1 : Int32) dX6_feed_131 (by decide) 132 rfl ?_
                refine ww_iadd C dX6_feed_132 133 rfl ?_
                refine ww_putI C cl_X6 (obM hn) 8 (by decide) rfl tyX6 tyX6_ok nmX6 rfl rfl rfl w_855 dX6_feed_133 h 136 rfl (fun u32 h => ?_)
                refine ww_iinc C 7 (1 : Int32) (by decide) (fun v33 => [(7, .int v33), (0, .ref (ad 0)), (1, .int a1), (2, .int a2), (3, .int a3), (4, .int a4), (5, .int a5), (6, .int a6)]) dX6_feed_136 rfl (by decide) (fun _ => rfl) h 139 rfl (fun v33 h => ?_)
                refine ww_goto C 68 dX6_feed_139 (by decide) ?_
                exact ww_sub [1, 2, 3, 4, 5, 6, 7, 0] rfl (ih _ _ h)
            · refine ww_iload C 4 dX6_feed_107 rfl 109 rfl ?_
              refine ww_goto C 125 dX6_feed_109 (by decide) ?_
              refine ww_iast C (iaM hn 6 160 (by decide) (by decide) rfl) dX6_feed_125 h 126 rfl (fun u34 h => ?_)
              refine ww_aload_n C 0 dX6_feed_126 rfl rfl 127 rfl ?_
              refine ww_dup C dX6_feed_127 rfl 128 rfl ?_
              refine ww_getI C cl_X6 (obM hn) 8 (by decide) rfl w_855 dX6_feed_128 131 rfl ?_
              refine ww_iconst C (1 : Int32) dX6_feed_131 (by decide) 132 rfl ?_
              refine ww_iadd C dX6_feed_132 133 rfl ?_
              refine ww_putI C cl_X6 (obM hn) 8 (by decide) rfl tyX6 tyX6_ok nmX6 rfl rfl rfl w_855 dX6_feed_133 h 136 rfl (fun u35 h => ?_)
              refine ww_iinc C 7 (1 : Int32) (by decide) (fun v36 => [(7, .int v36), (0, .ref (ad 0)), (1, .int a1), (2, .int a2), (3, .int a3), (4, .int a4), (5, .int a5), (6, .int a6)]) dX6_feed_136 rfl (by decide) (fun _ => rfl) h 139 rfl (fun v36 h => ?_)
              refine ww_goto C 68 dX6_feed_139 (by decide) ?_
              exact ww_sub [1, 2, 3, 4, 5, 6, 7, 0] rfl (ih _ _ h)
          · refine ww_iload_n C 3 dX6_feed_97 rfl rfl 98 rfl ?_
            refine ww_goto C 125 dX6_feed_98 (by decide) ?_
            refine ww_iast C (iaM hn 6 160 (by decide) (by decide) rfl) dX6_feed_125 h 126 rfl (fun u37 h => ?_)
            refine ww_aload_n C 0 dX6_feed_126 rfl rfl 127 rfl ?_
            refine ww_dup C dX6_feed_127 rfl 128 rfl ?_
            refine ww_getI C cl_X6 (obM hn) 8 (by decide) rfl w_855 dX6_feed_128 131 rfl ?_
            refine ww_iconst C (1 : Int32) dX6_feed_131 (by decide) 132 rfl ?_
            refine ww_iadd C dX6_feed_132 133 rfl ?_
            refine ww_putI C cl_X6 (obM hn) 8 (by decide) rfl tyX6 tyX6_ok nmX6 rfl rfl rfl w_855 dX6_feed_133 h 136 rfl (fun u38 h => ?_)
            refine ww_iinc C 7 (1 : Int32) (by decide) (fun v39 => [(7, .int v39), (0, .ref (ad 0)), (1, .int a1), (2, .int a2), (3, .int a3), (4, .int a4), (5, .int a5), (6, .int a6)]) dX6_feed_136 rfl (by decide) (fun _ => rfl) h 139 rfl (fun v39 h => ?_)
            refine ww_goto C 68 dX6_feed_139 (by decide) ?_
            exact ww_sub [1, 2, 3, 4, 5, 6, 7, 0] rfl (ih _ _ h)
        · refine ww_iload_n C 2 dX6_feed_87 rfl rfl 88 rfl ?_
          refine ww_goto C 125 dX6_feed_88 (by decide) ?_
          refine ww_iast C (iaM hn 6 160 (by decide) (by decide) rfl) dX6_feed_125 h 126 rfl (fun u40 h => ?_)
          refine ww_aload_n C 0 dX6_feed_126 rfl rfl 127 rfl ?_
          refine ww_dup C dX6_feed_127 rfl 128 rfl ?_
          refine ww_getI C cl_X6 (obM hn) 8 (by decide) rfl w_855 dX6_feed_128 131 rfl ?_
          refine ww_iconst C (1 : Int32) dX6_feed_131 (by decide) 132 rfl ?_
          refine ww_iadd C dX6_feed_132 133 rfl ?_
          refine ww_putI C cl_X6 (obM hn) 8 (by decide) rfl tyX6 tyX6_ok nmX6 rfl rfl rfl w_855 dX6_feed_133 h 136 rfl (fun u41 h => ?_)
          refine ww_iinc C 7 (1 : Int32) (by decide) (fun v42 => [(7, .int v42), (0, .ref (ad 0)), (1, .int a1), (2, .int a2), (3, .int a3), (4, .int a4), (5, .int a5), (6, .int a6)]) dX6_feed_136 rfl (by decide) (fun _ => rfl) h 139 rfl (fun v42 h => ?_)
          refine ww_goto C 68 dX6_feed_139 (by decide) ?_
          exact ww_sub [1, 2, 3, 4, 5, 6, 7, 0] rfl (ih _ _ h)
  rw [X6_feed] at h
  refine ww_iload_n C 1 dX6_feed_0 rfl rfl 1 rfl ?_
  refine ww_iconst C (1 : Int32) dX6_feed_1 (by decide) 2 rfl ?_
  refine ww_iconst C (5 : Int32) dX6_feed_2 (by decide) 3 rfl ?_
  refine ww_callSi C (As := [.int a1, .int (1 : Int32), .int (5 : Int32)]) (st := []) h (fun _ _ hF => k_X6_in hn hF) w_808 cm_X6_in (by decide) (by decide) rfl rfl (Nat.le_of_ble_eq_true rfl) dX6_feed_3 6 rfl (fun v44 u43 h => ?_)
  refine ww_if_eq C 47 dX6_feed_6 (by decide) h 9 rfl (fun h => ?_) (fun h => ?_)
  · refine ww_bipush C (-2 : Int32) dX6_feed_47 (by decide) 49 rfl ?_
    exact ww_iret C dX6_feed_49 hr h
  · refine ww_iload_n C 2 dX6_feed_9 rfl rfl 10 rfl ?_
    refine ww_callSi C (As := [.int a2]) (st := []) h (fun _ _ hF => k_X6_isByte hn hF) w_980 cm_X6_isByte (by decide) (by decide) rfl rfl (Nat.le_of_ble_eq_true rfl) dX6_feed_10 13 rfl (fun v46 u45 h => ?_)
    refine ww_if_eq C 47 dX6_feed_13 (by decide) h 16 rfl (fun h => ?_) (fun h => ?_)
    · refine ww_bipush C (-2 : Int32) dX6_feed_47 (by decide) 49 rfl ?_
      exact ww_iret C dX6_feed_49 hr h
    · refine ww_iload_n C 3 dX6_feed_16 rfl rfl 17 rfl ?_
      refine ww_callSi C (As := [.int a3]) (st := []) h (fun _ _ hF => k_X6_isByte hn hF) w_980 cm_X6_isByte (by decide) (by decide) rfl rfl (Nat.le_of_ble_eq_true rfl) dX6_feed_17 20 rfl (fun v48 u47 h => ?_)
      refine ww_if_eq C 47 dX6_feed_20 (by decide) h 23 rfl (fun h => ?_) (fun h => ?_)
      · refine ww_bipush C (-2 : Int32) dX6_feed_47 (by decide) 49 rfl ?_
        exact ww_iret C dX6_feed_49 hr h
      · refine ww_iload C 4 dX6_feed_23 rfl 25 rfl ?_
        refine ww_callSi C (As := [.int a4]) (st := []) h (fun _ _ hF => k_X6_isByte hn hF) w_980 cm_X6_isByte (by decide) (by decide) rfl rfl (Nat.le_of_ble_eq_true rfl) dX6_feed_25 28 rfl (fun v50 u49 h => ?_)
        refine ww_if_eq C 47 dX6_feed_28 (by decide) h 31 rfl (fun h => ?_) (fun h => ?_)
        · refine ww_bipush C (-2 : Int32) dX6_feed_47 (by decide) 49 rfl ?_
          exact ww_iret C dX6_feed_49 hr h
        · refine ww_iload C 5 dX6_feed_31 rfl 33 rfl ?_
          refine ww_callSi C (As := [.int a5]) (st := []) h (fun _ _ hF => k_X6_isByte hn hF) w_980 cm_X6_isByte (by decide) (by decide) rfl rfl (Nat.le_of_ble_eq_true rfl) dX6_feed_33 36 rfl (fun v52 u51 h => ?_)
          refine ww_if_eq C 47 dX6_feed_36 (by decide) h 39 rfl (fun h => ?_) (fun h => ?_)
          · refine ww_bipush C (-2 : Int32) dX6_feed_47 (by decide) 49 rfl ?_
            exact ww_iret C dX6_feed_49 hr h
          · refine ww_iload C 6 dX6_feed_39 rfl 41 rfl ?_
            refine ww_callSi C (As := [.int a6]) (st := []) h (fun _ _ hF => k_X6_isByte hn hF) w_980 cm_X6_isByte (by decide) (by decide) rfl rfl (Nat.le_of_ble_eq_true rfl) dX6_feed_41 44 rfl (fun v54 u53 h => ?_)
            refine ww_if_ne C 50 dX6_feed_44 (by decide) h 47 rfl (fun h => ?_) (fun h => ?_)
            · refine ww_aload_n C 0 dX6_feed_50 rfl rfl 51 rfl ?_
              refine ww_getI C cl_X6 (obM hn) 8 (by decide) rfl w_855 dX6_feed_51 54 rfl ?_
              refine ww_iload_n C 1 dX6_feed_54 rfl rfl 55 rfl ?_
              refine ww_iadd C dX6_feed_55 56 rfl ?_
              refine ww_sipush C (160 : Int32) dX6_feed_56 (by decide) 59 rfl ?_
              refine ww_icmp_le C 65 dX6_feed_59 (by decide) h 62 rfl (fun h => ?_) (fun h => ?_)
              · refine ww_iconst C (0 : Int32) dX6_feed_65 (by decide) 66 rfl ?_
                refine ww_istore C [(7, .int (0 : Int32)), (0, .ref (ad 0)), (1, .int a1), (2, .int a2), (3, .int a3), (4, .int a4), (5, .int a5), (6, .int a6)] dX6_feed_66 (by decide) rfl 68 rfl ?_
                exact ww_sub [1, 2, 3, 4, 5, 6, 7, 0] rfl (L68h N _ _ h)
              · refine ww_bipush C (-4 : Int32) dX6_feed_62 (by decide) 64 rfl ?_
                exact ww_iret C dX6_feed_64 hr h
            · refine ww_bipush C (-2 : Int32) dX6_feed_47 (by decide) 49 rfl ?_
              exact ww_iret C dX6_feed_49 hr h

set_option maxRecDepth 100000 in
set_option maxHeartbeats 4000000 in
theorem k_X6_wordFrom {l : Launch} {D : va_G} {ad : Nat → Nat} {cA : Nat → ClassId} {tys : List (ClassId × FieldType)} {n : Nat} {sa : Nat → Nat} (hn : 20 ≤ n) {N : Nat} {g : Mem} {a1 : Int32} {a2 : Int32} {r : Int32} {g1 : Mem} (h : X6_wordFrom N a1 a2 g = some (r, g1)) : CTi l yX6_wordFrom (wsm yX6_wordFrom cX6_wordFrom 6 (some .int)) 1 D YM ad cA tys n sa g [.ref (ad 0), .int a1, .int a2] r g1 := by
  refine ct_of RX6 rfl (by decide +kernel) (Nat.le_of_ble_eq_true rfl) rfl (fun sz => PBi D YM ad cA n r g1 sz) ?_
  intro p e R s m args below meth c C hr
  have G2h : ∀ (fu : Nat), (∀ (x3 : Int32) (x4 : Int32) (x5 : Int32) (g : Mem), X6_wordFrom_G2 N a1 a2 fu 0 x3 x4 x5 g = some (r, g1) → WW p l e R s m args below meth c 6 D YM ad cA n (MQ below (PBi D YM ad cA n r g1 s.heap.size) args s 0 0 (AA n ad s.heap.size)) g 2 [(0, .ref (ad 0)), (1, .int a1), (2, .int a2), (3, .int x3)] []) ∧ (∀ (x3 : Int32) (x4 : Int32) (x5 : Int32) (g : Mem), X6_wordFrom_G2 N a1 a2 fu 1 x3 x4 x5 g = some (r, g1) → WW p l e R s m args below meth c 6 D YM ad cA n (MQ below (PBi D YM ad cA n r g1 s.heap.size) args s 0 0 (AA n ad s.heap.size)) g 26 [(0, .ref (ad 0)), (1, .int a1), (2, .int a2), (3, .int x3), (4, .int x4), (5, .int x5)] []) := by
    intro fu
    induction fu with
    | zero => exact ⟨(by intro x3 x4 x5 g h; cases h), (by intro x3 x4 x5 g h; cases h)⟩
    | succ fu ih =>
      refine ⟨?_, ?_⟩
      · intro x3 x4 x5 g h
        rw [X6_wordFrom_G2] at h
        refine ww_iload_n C 3 dX6_wordFrom_2 rfl rfl 3 rfl ?_
        refine ww_bipush C (12 : Int32) dX6_wordFrom_3 (by decide) 5 rfl ?_
        refine ww_icmp_ge C 101 dX6_wordFrom_5 (by decide) h 8 rfl (fun h => ?_) (fun h => ?_)
        · refine ww_bipush C (12 : Int32) dX6_wordFrom_101 (by decide) 103 rfl ?_
          exact ww_iret C dX6_wordFrom_103 hr h
        · refine ww_iload_n C 2 dX6_wordFrom_8 rfl rfl 9 rfl ?_
          refine ww_iload_n C 1 dX6_wordFrom_9 rfl rfl 10 rfl ?_
          refine ww_isub C dX6_wordFrom_10 11 rfl ?_
          refine ww_bipush C (8 : Int32) dX6_wordFrom_11 (by decide) 13 rfl ?_
          refine ww_icmp_gt C 20 dX6_wordFrom_13 (by decide) h 16 rfl (fun h => ?_) (fun h => ?_)
          · refine ww_iconst C (0 : Int32) dX6_wordFrom_20 (by decide) 21 rfl ?_
            refine ww_istore C [(4, .int (0 : Int32)), (0, .ref (ad 0)), (1, .int a1), (2, .int a2), (3, .int x3)] dX6_wordFrom_21 (by decide) rfl 23 rfl ?_
            refine ww_iconst C (0 : Int32) dX6_wordFrom_23 (by decide) 24 rfl ?_
            refine ww_istore C [(5, .int (0 : Int32)), (4, .int (0 : Int32)), (0, .ref (ad 0)), (1, .int a1), (2, .int a2), (3, .int x3)] dX6_wordFrom_24 (by decide) rfl 26 rfl ?_
            exact ww_sub [2, 3, 4, 5, 1, 0] rfl ((ih).2 _ _ _ _ h)
          · refine ww_iconst C (1 : Int32) dX6_wordFrom_16 (by decide) 17 rfl ?_
            refine ww_goto C 21 dX6_wordFrom_17 (by decide) ?_
            refine ww_istore C [(4, .int (1 : Int32)), (0, .ref (ad 0)), (1, .int a1), (2, .int a2), (3, .int x3)] dX6_wordFrom_21 (by decide) rfl 23 rfl ?_
            refine ww_iconst C (0 : Int32) dX6_wordFrom_23 (by decide) 24 rfl ?_
            refine ww_istore C [(5, .int (0 : Int32)), (4, .int (1 : Int32)), (0, .ref (ad 0)), (1, .int a1), (2, .int a2), (3, .int x3)] dX6_wordFrom_24 (by decide) rfl 26 rfl ?_
            exact ww_sub [2, 3, 4, 5, 1, 0] rfl ((ih).2 _ _ _ _ h)
      · intro x3 x4 x5 g h
        rw [X6_wordFrom_G2] at h
        refine ww_iload C 5 dX6_wordFrom_26 rfl 28 rfl ?_
        refine ww_bipush C (8 : Int32) dX6_wordFrom_28 (by decide) 30 rfl ?_
        refine ww_icmp_ge C 88 dX6_wordFrom_30 (by decide) h 33 rfl (fun h => ?_) (fun h => ?_)
        · refine ww_iload C 4 dX6_wordFrom_88 rfl 90 rfl ?_
          refine ww_if_eq C 95 dX6_wordFrom_90 (by decide) h 93 rfl (fun h => ?_) (fun h => ?_)
          · refine ww_iinc C 3 (1 : Int32) (by decide) (fun v7 => [(3, .int v7), (0, .ref (ad 0)), (1, .int a1), (2, .int a2), (4, .int x4), (5, .int x5)]) dX6_wordFrom_95 rfl (by decide) (fun _ => rfl) h 98 rfl (fun v7 h => ?_)
            refine ww_goto C 2 dX6_wordFrom_98 (by decide) ?_
            exact ww_sub [1, 2, 3, 0] rfl ((ih).1 _ _ _ _ h)
          · refine ww_iload_n C 3 dX6_wordFrom_93 rfl rfl 94 rfl ?_
            exact ww_iret C dX6_wordFrom_94 hr h
        · refine ww_iload C 4 dX6_wordFrom_33 rfl 35 rfl ?_
          refine ww_if_eq C 88 dX6_wordFrom_35 (by decide) h 38 rfl (fun h => ?_) (fun h => ?_)
          · refine ww_iload C 4 dX6_wordFrom_88 rfl 90 rfl ?_
            refine ww_if_eq C 95 dX6_wordFrom_90 (by decide) h 93 rfl (fun h => ?_) (fun h => ?_)
            · refine ww_iinc C 3 (1 : Int32) (by decide) (fun v8 => [(3, .int v8), (0, .ref (ad 0)), (1, .int a1), (2, .int a2), (4, .int x4), (5, .int x5)]) dX6_wordFrom_95 rfl (by decide) (fun _ => rfl) h 98 rfl (fun v8 h => ?_)
              refine ww_goto C 2 dX6_wordFrom_98 (by decide) ?_
              exact ww_sub [1, 2, 3, 0] rfl ((ih).1 _ _ _ _ h)
            · refine ww_iload_n C 3 dX6_wordFrom_93 rfl rfl 94 rfl ?_
              exact ww_iret C dX6_wordFrom_94 hr h
          · refine ww_aload_n C 0 dX6_wordFrom_38 rfl rfl 39 rfl ?_
            refine ww_getS C cl_X6 (obM hn) 24 (by decide) rfl 15 rfl w_871 dX6_wordFrom_39 42 rfl ?_
            refine ww_bipush C (8 : Int32) dX6_wordFrom_42 (by decide) 44 rfl ?_
            refine ww_iload_n C 3 dX6_wordFrom_44 rfl rfl 45 rfl ?_
            refine ww_imul C dX6_wordFrom_45 46 rfl ?_
            refine ww_iload C 5 dX6_wordFrom_46 rfl 48 rfl ?_
            refine ww_iadd C dX6_wordFrom_48 49 rfl ?_
            refine ww_iald C (iaM hn 15 96 (by decide) (by decide) rfl) dX6_wordFrom_49 h 50 rfl (fun h => ?_)
            refine ww_iload_n C 1 dX6_wordFrom_50 rfl rfl 51 rfl ?_
            refine ww_iload C 5 dX6_wordFrom_51 rfl 53 rfl ?_
            refine ww_iadd C dX6_wordFrom_53 54 rfl ?_
            refine ww_iload_n C 2 dX6_wordFrom_54 rfl rfl 55 rfl ?_
            refine ww_icmp_ge C 70 dX6_wordFrom_55 (by decide) h 58 rfl (fun h => ?_) (fun h => ?_)
            · refine ww_bipush C (32 : Int32) dX6_wordFrom_70 (by decide) 72 rfl ?_
              refine ww_icmp_ne C 79 dX6_wordFrom_72 (by decide) h 75 rfl (fun h => ?_) (fun h => ?_)
              · refine ww_iconst C (0 : Int32) dX6_wordFrom_79 (by decide) 80 rfl ?_
                refine ww_istore C [(4, .int (0 : Int32)), (0, .ref (ad 0)), (1, .int a1), (2, .int a2), (3, .int x3), (5, .int x5)] dX6_wordFrom_80 (by decide) rfl 82 rfl ?_
                refine ww_iinc C 5 (1 : Int32) (by decide) (fun v9 => [(5, .int v9), (4, .int (0 : Int32)), (0, .ref (ad 0)), (1, .int a1), (2, .int a2), (3, .int x3)]) dX6_wordFrom_82 rfl (by decide) (fun _ => rfl) h 85 rfl (fun v9 h => ?_)
                refine ww_goto C 26 dX6_wordFrom_85 (by decide) ?_
                exact ww_sub [2, 3, 4, 5, 1, 0] rfl ((ih).2 _ _ _ _ h)
              · refine ww_iconst C (1 : Int32) dX6_wordFrom_75 (by decide) 76 rfl ?_
                refine ww_goto C 80 dX6_wordFrom_76 (by decide) ?_
                refine ww_istore C [(4, .int (1 : Int32)), (0, .ref (ad 0)), (1, .int a1), (2, .int a2), (3, .int x3), (5, .int x5)] dX6_wordFrom_80 (by decide) rfl 82 rfl ?_
                refine ww_iinc C 5 (1 : Int32) (by decide) (fun v10 => [(5, .int v10), (4, .int (1 : Int32)), (0, .ref (ad 0)), (1, .int a1), (2, .int a2), (3, .int x3)]) dX6_wordFrom_82 rfl (by decide) (fun _ => rfl) h 85 rfl (fun v10 h => ?_)
                refine ww_goto C 26 dX6_wordFrom_85 (by decide) ?_
                exact ww_sub [2, 3, 4, 5, 1, 0] rfl ((ih).2 _ _ _ _ h)
            · refine ww_aload_n C 0 dX6_wordFrom_58 rfl rfl 59 rfl ?_
              refine ww_getS C cl_X6 (obM hn) 7 (by decide) rfl 6 rfl w_854 dX6_wordFrom_59 62 rfl ?_
              refine ww_iload_n C 1 dX6_wordFrom_62 rfl rfl 63 rfl ?_
              refine ww_iload C 5 dX6_wordFrom_63 rfl 65 rfl ?_
              refine ww_iadd C dX6_wordFrom_65 66 rfl ?_
              refine ww_iald C (iaM hn 6 160 (by decide) (by decide) rfl) dX6_wordFrom_66 h 67 rfl (fun h => ?_)
              refine ww_goto C 72 dX6_wordFrom_67 (by decide) ?_
              refine ww_icmp_ne C 79 dX6_wordFrom_72 (by decide) h 75 rfl (fun h => ?_) (fun h => ?_)
              · refine ww_iconst C (0 : Int32) dX6_wordFrom_79 (by decide) 80 rfl ?_
                refine ww_istore C [(4, .int (0 : Int32)), (0, .ref (ad 0)), (1, .int a1), (2, .int a2), (3, .int x3), (5, .int x5)] dX6_wordFrom_80 (by decide) rfl 82 rfl ?_
                refine ww_iinc C 5 (1 : Int32) (by decide) (fun v11 => [(5, .int v11), (4, .int (0 : Int32)), (0, .ref (ad 0)), (1, .int a1), (2, .int a2), (3, .int x3)]) dX6_wordFrom_82 rfl (by decide) (fun _ => rfl) h 85 rfl (fun v11 h => ?_)
                refine ww_goto C 26 dX6_wordFrom_85 (by decide) ?_
                exact ww_sub [2, 3, 4, 5, 1, 0] rfl ((ih).2 _ _ _ _ h)
              · refine ww_iconst C (1 : Int32) dX6_wordFrom_75 (by decide) 76 rfl ?_
                refine ww_goto C 80 dX6_wordFrom_76 (by decide) ?_
                refine ww_istore C [(4, .int (1 : Int32)), (0, .ref (ad 0)), (1, .int a1), (2, .int a2), (3, .int x3), (5, .int x5)] dX6_wordFrom_80 (by decide) rfl 82 rfl ?_
                refine ww_iinc C 5 (1 : Int32) (by decide) (fun v12 => [(5, .int v12), (4, .int (1 : Int32)), (0, .ref (ad 0)), (1, .int a1), (2, .int a2), (3, .int x3)]) dX6_wordFrom_82 rfl (by decide) (fun _ => rfl) h 85 rfl (fun v12 h => ?_)
                refine ww_goto C 26 dX6_wordFrom_85 (by decide) ?_
                exact ww_sub [2, 3, 4, 5, 1, 0] rfl ((ih).2 _ _ _ _ h)
  rw [X6_wordFrom] at h
  refine ww_iconst C (0 : Int32) dX6_wordFrom_0 (by decide) 1 rfl ?_
  refine ww_istore_n C [(3, .int (0 : Int32)), (0, .ref (ad 0)), (1, .int a1), (2, .int a2)] dX6_wordFrom_1 rfl (by decide) rfl 2 rfl ?_
  exact ww_sub [1, 2, 3, 0] rfl ((G2h N).1 _ _ _ _ h)

set_option maxRecDepth 100000 in
set_option maxHeartbeats 4000000 in
theorem k_X6_next {l : Launch} {D : va_G} {ad : Nat → Nat} {cA : Nat → ClassId} {tys : List (ClassId × FieldType)} {n : Nat} {sa : Nat → Nat} (hn : 20 ≤ n) {N : Nat} {g : Mem} {r : Int32} {g1 : Mem} (h : X6_next N g = some (r, g1)) : CTv l yX6_next (wsm yX6_next cX6_next 3 none) 2 D YM ad cA tys n sa g [.ref (ad 0)] g1 := by
  refine ct_of RX6 rfl (by decide +kernel) (Nat.le_of_ble_eq_true rfl) rfl (fun sz => PBv D YM ad cA n g1 sz) ?_
  intro p e R s m args below meth c C hr
  have L230h : ∀ (fu : Nat), (∀ (x2 : Int32) (g : Mem), X6_next_L230 N fu x2 g = some (r, g1) → WW p l e R s m args below meth c 3 D YM ad cA n (MQ below (PBv D YM ad cA n g1 s.heap.size) args s 0 0 (AA n ad s.heap.size)) g 230 [(0, .ref (ad 0)), (2, .int x2)] []) := by
    intro fu
    induction fu with
    | zero => intro x2 g h; cases h
    | succ fu ih =>
      intro x2 g h
      rw [X6_next_L230] at h
      refine ww_aload_n C 0 dX6_next_230 rfl rfl 231 rfl ?_
      refine ww_getI C cl_X6 (obM hn) 20 (by decide) rfl w_867 dX6_next_231 234 rfl ?_
      refine ww_aload_n C 0 dX6_next_234 rfl rfl 235 rfl ?_
      refine ww_getI C cl_X6 (obM hn) 8 (by decide) rfl w_855 dX6_next_235 238 rfl ?_
      refine ww_icmp_ge C 309 dX6_next_238 (by decide) h 241 rfl (fun h => ?_) (fun h => ?_)
      · refine ww_aload_n C 0 dX6_next_309 rfl rfl 310 rfl ?_
        refine ww_iload_n C 1 dX6_next_310 rfl rfl 311 rfl ?_
        refine ww_iconst C (4 : Int32) dX6_next_311 (by decide) 312 rfl ?_
        refine ww_icmp_le C 319 dX6_next_312 (by decide) h 315 rfl (fun h => ?_) (fun h => ?_)
        · refine ww_iconst C (1 : Int32) dX6_next_319 (by decide) 320 rfl ?_
          refine ww_putI C cl_X6 (obM hn) 22 (by decide) rfl tyX6 tyX6_ok nmX6 rfl rfl rfl w_869 dX6_next_320 h 323 rfl (fun u224 h => ?_)
          refine ww_goto C 403 dX6_next_323 (by decide) ?_
          exact ww_vret C dX6_next_403 hr h
        · refine ww_iconst C (-1 : Int32) dX6_next_315 (by decide) 316 rfl ?_
          refine ww_goto C 320 dX6_next_316 (by decide) ?_
          refine ww_putI C cl_X6 (obM hn) 22 (by decide) rfl tyX6 tyX6_ok nmX6 rfl rfl rfl w_869 dX6_next_320 h 323 rfl (fun u225 h => ?_)
          refine ww_goto C 403 dX6_next_323 (by decide) ?_
          exact ww_vret C dX6_next_403 hr h
      · refine ww_aload_n C 0 dX6_next_241 rfl rfl 242 rfl ?_
        refine ww_getS C cl_X6 (obM hn) 7 (by decide) rfl 6 rfl w_854 dX6_next_242 245 rfl ?_
        refine ww_aload_n C 0 dX6_next_245 rfl rfl 246 rfl ?_
        refine ww_getI C cl_X6 (obM hn) 20 (by decide) rfl w_867 dX6_next_246 249 rfl ?_
        refine ww_iald C (iaM hn 6 160 (by decide) (by decide) rfl) dX6_next_249 h 250 rfl (fun h => ?_)
        refine ww_bipush C (48 : Int32) dX6_next_250 (by decide) 252 rfl ?_
        refine ww_bipush C (57 : Int32) dX6_next_252 (by decide) 254 rfl ?_
        refine ww_callSi C (As := [.int (g.1 6 (g.1 0 20).toNatClampNeg), .int (48 : Int32), .int (57 : Int32)]) (st := []) h (fun _ _ hF => k_X6_in hn hF) w_808 cm_X6_in (by decide) (by decide) rfl rfl (Nat.le_of_ble_eq_true rfl) dX6_next_254 257 rfl (fun v227 u226 h => ?_)
        refine ww_if_eq C 309 dX6_next_257 (by decide) h 260 rfl (fun h => ?_) (fun h => ?_)
        · refine ww_aload_n C 0 dX6_next_309 rfl rfl 310 rfl ?_
          refine ww_iload_n C 1 dX6_next_310 rfl rfl 311 rfl ?_
          refine ww_iconst C (4 : Int32) dX6_next_311 (by decide) 312 rfl ?_
          refine ww_icmp_le C 319 dX6_next_312 (by decide) h 315 rfl (fun h => ?_) (fun h => ?_)
          · refine ww_iconst C (1 : Int32) dX6_next_319 (by decide) 320 rfl ?_
            refine ww_putI C cl_X6 (obM hn) 22 (by decide) rfl tyX6 tyX6_ok nmX6 rfl rfl rfl w_869 dX6_next_320 h 323 rfl (fun u228 h => ?_)
            refine ww_goto C 403 dX6_next_323 (by decide) ?_
            exact ww_vret C dX6_next_403 hr h
          · refine ww_iconst C (-1 : Int32) dX6_next_315 (by decide) 316 rfl ?_
            refine ww_goto C 320 dX6_next_316 (by decide) ?_
            refine ww_putI C cl_X6 (obM hn) 22 (by decide) rfl tyX6 tyX6_ok nmX6 rfl rfl rfl w_869 dX6_next_320 h 323 rfl (fun u229 h => ?_)
            refine ww_goto C 403 dX6_next_323 (by decide) ?_
            exact ww_vret C dX6_next_403 hr h
        · refine ww_aload_n C 0 dX6_next_260 rfl rfl 261 rfl ?_
          refine ww_iload_n C 1 dX6_next_261 rfl rfl 262 rfl ?_
          refine ww_iconst C (4 : Int32) dX6_next_262 (by decide) 263 rfl ?_
          refine ww_icmp_ge C 289 dX6_next_263 (by decide) h 266 rfl (fun h => ?_) (fun h => ?_)
          · refine ww_iconst C (0 : Int32) dX6_next_289 (by decide) 290 rfl ?_
            refine ww_putI C cl_X6 (obM hn) 23 (by decide) rfl tyX6 tyX6_ok nmX6 rfl rfl rfl w_870 dX6_next_290 h 293 rfl (fun u230 h => ?_)
            refine ww_iinc C 1 (1 : Int32) (by decide) (fun v231 => [(2, .int v231), (0, .ref (ad 0))]) dX6_next_293 rfl (by decide) (fun _ => rfl) h 296 rfl (fun v231 h => ?_)
            refine ww_aload_n C 1 dX6_next_296 rfl rfl 297 rfl ?_
            refine ww_dup C dX6_next_297 rfl 298 rfl ?_
            refine ww_getI C cl_X6 (obM hn) 20 (by decide) rfl w_867 dX6_next_298 301 rfl ?_
            refine ww_iconst C (1 : Int32) dX6_next_301 (by decide) 302 rfl ?_
            refine ww_iadd C dX6_next_302 303 rfl ?_
            refine ww_putI C cl_X6 (obM hn) 20 (by decide) rfl tyX6 tyX6_ok nmX6 rfl rfl rfl w_867 dX6_next_303 h 306 rfl (fun u232 h => ?_)
            refine ww_goto C 230 dX6_next_306 (by decide) ?_
            exact ww_sub [1, 0] rfl (ih _ _ h)
          · refine ww_bipush C (10 : Int32) dX6_next_266 (by decide) 268 rfl ?_
            refine ww_aload_n C 0 dX6_next_268 rfl rfl 269 rfl ?_
            refine ww_getI C cl_X6 (obM hn) 23 (by decide) rfl w_870 dX6_next_269 272 rfl ?_
            refine ww_imul C dX6_next_272 273 rfl ?_
            refine ww_aload_n C 0 dX6_next_273 rfl rfl 274 rfl ?_
            refine ww_getS C cl_X6 (obM hn) 7 (by decide) rfl 6 rfl w_854 dX6_next_274 277 rfl ?_
            refine ww_aload_n C 0 dX6_next_277 rfl rfl 278 rfl ?_
            refine ww_getI C cl_X6 (obM hn) 20 (by decide) rfl w_867 dX6_next_278 281 rfl ?_
            refine ww_iald C (iaM hn 6 160 (by decide) (by decide) rfl) dX6_next_281 h 282 rfl (fun h => ?_)
            refine ww_iadd C dX6_next_282 283 rfl ?_
            refine ww_bipush C (48 : Int32) dX6_next_283 (by decide) 285 rfl ?_
            refine ww_isub C dX6_next_285 286 rfl ?_
            refine ww_goto C 290 dX6_next_286 (by decide) ?_
            refine ww_putI C cl_X6 (obM hn) 23 (by decide) rfl tyX6 tyX6_ok nmX6 rfl rfl rfl w_870 dX6_next_290 h 293 rfl (fun u233 h => ?_)
            refine ww_iinc C 1 (1 : Int32) (by decide) (fun v234 => [(2, .int v234), (0, .ref (ad 0))]) dX6_next_293 rfl (by decide) (fun _ => rfl) h 296 rfl (fun v234 h => ?_)
            refine ww_aload_n C 1 dX6_next_296 rfl rfl 297 rfl ?_
            refine ww_dup C dX6_next_297 rfl 298 rfl ?_
            refine ww_getI C cl_X6 (obM hn) 20 (by decide) rfl w_867 dX6_next_298 301 rfl ?_
            refine ww_iconst C (1 : Int32) dX6_next_301 (by decide) 302 rfl ?_
            refine ww_iadd C dX6_next_302 303 rfl ?_
            refine ww_putI C cl_X6 (obM hn) 20 (by decide) rfl tyX6 tyX6_ok nmX6 rfl rfl rfl w_867 dX6_next_303 h 306 rfl (fun u235 h => ?_)
            refine ww_goto C 230 dX6_next_306 (by decide) ?_
            exact ww_sub [1, 0] rfl (ih _ _ h)
  have L103h : ∀ (fu : Nat), (∀ (g : Mem), X6_next_L103 N fu g = some (r, g1) → WW p l e R s m args below meth c 3 D YM ad cA n (MQ below (PBv D YM ad cA n g1 s.heap.size) args s 0 0 (AA n ad s.heap.size)) g 103 [(0, .ref (ad 0))] []) := by
    intro fu
    induction fu with
    | zero => intro g h; cases h
    | succ fu ih =>
      intro g h
      rw [X6_next_L103] at h
      refine ww_aload_n C 0 dX6_next_103 rfl rfl 104 rfl ?_
      refine ww_getI C cl_X6 (obM hn) 20 (by decide) rfl w_867 dX6_next_104 107 rfl ?_
      refine ww_aload_n C 0 dX6_next_107 rfl rfl 108 rfl ?_
      refine ww_getI C cl_X6 (obM hn) 8 (by decide) rfl w_855 dX6_next_108 111 rfl ?_
      refine ww_icmp_ge C 146 dX6_next_111 (by decide) h 114 rfl (fun h => ?_) (fun h => ?_)
      · refine ww_aload_n C 0 dX6_next_146 rfl rfl 147 rfl ?_
        refine ww_aload_n C 0 dX6_next_147 rfl rfl 148 rfl ?_
        refine ww_getI C cl_X6 (obM hn) 21 (by decide) rfl w_868 dX6_next_148 151 rfl ?_
        refine ww_aload_n C 0 dX6_next_151 rfl rfl 152 rfl ?_
        refine ww_getI C cl_X6 (obM hn) 20 (by decide) rfl w_867 dX6_next_152 155 rfl ?_
        refine ww_callVi C (As := [.int (g.1 0 21), .int (g.1 0 20)]) (st := []) h cl_X6.1 (obM hn) (fun _ _ hF => k_X6_wordFrom hn hF) w_811 cm_X6_wordFrom (by decide) (by decide) rfl rfl (Nat.le_of_ble_eq_true rfl) dX6_next_155 158 rfl (fun v237 u236 h => ?_)
        refine ww_istore_n C [(2, .int v237), (0, .ref (ad 0))] dX6_next_158 rfl (by decide) rfl 159 rfl ?_
        refine ww_aload_n C 1 dX6_next_159 rfl rfl 160 rfl ?_
        refine ww_iload_n C 0 dX6_next_160 rfl rfl 161 rfl ?_
        refine ww_iconst C (3 : Int32) dX6_next_161 (by decide) 162 rfl ?_
        refine ww_icmp_ge C 169 dX6_next_162 (by decide) h 165 rfl (fun h => ?_) (fun h => ?_)
        · refine ww_iload_n C 0 dX6_next_169 rfl rfl 170 rfl ?_
          refine ww_bipush C (9 : Int32) dX6_next_170 (by decide) 172 rfl ?_
          refine ww_icmp_ge C 179 dX6_next_172 (by decide) h 175 rfl (fun h => ?_) (fun h => ?_)
          · refine ww_iload_n C 0 dX6_next_179 rfl rfl 180 rfl ?_
            refine ww_bipush C (12 : Int32) dX6_next_180 (by decide) 182 rfl ?_
            refine ww_icmp_ne C 189 dX6_next_182 (by decide) h 185 rfl (fun h => ?_) (fun h => ?_)
            · refine ww_iconst C (4 : Int32) dX6_next_189 (by decide) 190 rfl ?_
              refine ww_iload_n C 0 dX6_next_190 rfl rfl 191 rfl ?_
              refine ww_iadd C dX6_next_191 192 rfl ?_
              refine ww_bipush C (9 : Int32) dX6_next_192 (by decide) 194 rfl ?_
              refine ww_isub C dX6_next_194 195 rfl ?_
              refine ww_putI C cl_X6 (obM hn) 22 (by decide) rfl tyX6 tyX6_ok nmX6 rfl rfl rfl w_869 dX6_next_195 h 198 rfl (fun u238 h => ?_)
              refine ww_aload_n C 1 dX6_next_198 rfl rfl 199 rfl ?_
              refine ww_iload_n C 0 dX6_next_199 rfl rfl 200 rfl ?_
              refine ww_iconst C (3 : Int32) dX6_next_200 (by decide) 201 rfl ?_
              refine ww_icmp_ge C 208 dX6_next_201 (by decide) h 204 rfl (fun h => ?_) (fun h => ?_)
              · refine ww_iload_n C 0 dX6_next_208 rfl rfl 209 rfl ?_
                refine ww_iconst C (3 : Int32) dX6_next_209 (by decide) 210 rfl ?_
                refine ww_isub C dX6_next_210 211 rfl ?_
                refine ww_putI C cl_X6 (obM hn) 23 (by decide) rfl tyX6 tyX6_ok nmX6 rfl rfl rfl w_870 dX6_next_211 h 214 rfl (fun u239 h => ?_)
                refine ww_goto C 403 dX6_next_214 (by decide) ?_
                exact ww_vret C dX6_next_403 hr h
              · refine ww_iload_n C 0 dX6_next_204 rfl rfl 205 rfl ?_
                refine ww_goto C 211 dX6_next_205 (by decide) ?_
                refine ww_putI C cl_X6 (obM hn) 23 (by decide) rfl tyX6 tyX6_ok nmX6 rfl rfl rfl w_870 dX6_next_211 h 214 rfl (fun u240 h => ?_)
                refine ww_goto C 403 dX6_next_214 (by decide) ?_
                exact ww_vret C dX6_next_403 hr h
            · refine ww_iconst C (-1 : Int32) dX6_next_185 (by decide) 186 rfl ?_
              refine ww_goto C 195 dX6_next_186 (by decide) ?_
              refine ww_putI C cl_X6 (obM hn) 22 (by decide) rfl tyX6 tyX6_ok nmX6 rfl rfl rfl w_869 dX6_next_195 h 198 rfl (fun u241 h => ?_)
              refine ww_aload_n C 1 dX6_next_198 rfl rfl 199 rfl ?_
              refine ww_iload_n C 0 dX6_next_199 rfl rfl 200 rfl ?_
              refine ww_iconst C (3 : Int32) dX6_next_200 (by decide) 201 rfl ?_
              refine ww_icmp_ge C 208 dX6_next_201 (by decide) h 204 rfl (fun h => ?_) (fun h => ?_)
              · refine ww_iload_n C 0 dX6_next_208 rfl rfl 209 rfl ?_
                refine ww_iconst C (3 : Int32) dX6_next_209 (by decide) 210 rfl ?_
                refine ww_isub C dX6_next_210 211 rfl ?_
                refine ww_putI C cl_X6 (obM hn) 23 (by decide) rfl tyX6 tyX6_ok nmX6 rfl rfl rfl w_870 dX6_next_211 h 214 rfl (fun u242 h => ?_)
                refine ww_goto C 403 dX6_next_214 (by decide) ?_
                exact ww_vret C dX6_next_403 hr h
              · refine ww_iload_n C 0 dX6_next_204 rfl rfl 205 rfl ?_
                refine ww_goto C 211 dX6_next_205 (by decide) ?_
                refine ww_putI C cl_X6 (obM hn) 23 (by decide) rfl tyX6 tyX6_ok nmX6 rfl rfl rfl w_870 dX6_next_211 h 214 rfl (fun u243 h => ?_)
                refine ww_goto C 403 dX6_next_214 (by decide) ?_
                exact ww_vret C dX6_next_403 hr h
          · refine ww_iconst C (2 : Int32) dX6_next_175 (by decide) 176 rfl ?_
            refine ww_goto C 195 dX6_next_176 (by decide) ?_
            refine ww_putI C cl_X6 (obM hn) 22 (by decide) rfl tyX6 tyX6_ok nmX6 rfl rfl rfl w_869 dX6_next_195 h 198 rfl (fun u244 h => ?_)
            refine ww_aload_n C 1 dX6_next_198 rfl rfl 199 rfl ?_
            refine ww_iload_n C 0 dX6_next_199 rfl rfl 200 rfl ?_
            refine ww_iconst C (3 : Int32) dX6_next_200 (by decide) 201 rfl ?_
            refine ww_icmp_ge C 208 dX6_next_201 (by decide) h 204 rfl (fun h => ?_) (fun h => ?_)
            · refine ww_iload_n C 0 dX6_next_208 rfl rfl 209 rfl ?_
              refine ww_iconst C (3 : Int32) dX6_next_209 (by decide) 210 rfl ?_
              refine ww_isub C dX6_next_210 211 rfl ?_
              refine ww_putI C cl_X6 (obM hn) 23 (by decide) rfl tyX6 tyX6_ok nmX6 rfl rfl rfl w_870 dX6_next_211 h 214 rfl (fun u245 h => ?_)
              refine ww_goto C 403 dX6_next_214 (by decide) ?_
              exact ww_vret C dX6_next_403 hr h
            · refine ww_iload_n C 0 dX6_next_204 rfl rfl 205 rfl ?_
              refine ww_goto C 211 dX6_next_205 (by decide) ?_
              refine ww_putI C cl_X6 (obM hn) 23 (by decide) rfl tyX6 tyX6_ok nmX6 rfl rfl rfl w_870 dX6_next_211 h 214 rfl (fun u246 h => ?_)
              refine ww_goto C 403 dX6_next_214 (by decide) ?_
              exact ww_vret C dX6_next_403 hr h
        · refine ww_iconst C (3 : Int32) dX6_next_165 (by decide) 166 rfl ?_
          refine ww_goto C 195 dX6_next_166 (by decide) ?_
          refine ww_putI C cl_X6 (obM hn) 22 (by decide) rfl tyX6 tyX6_ok nmX6 rfl rfl rfl w_869 dX6_next_195 h 198 rfl (fun u247 h => ?_)
          refine ww_aload_n C 1 dX6_next_198 rfl rfl 199 rfl ?_
          refine ww_iload_n C 0 dX6_next_199 rfl rfl 200 rfl ?_
          refine ww_iconst C (3 : Int32) dX6_next_200 (by decide) 201 rfl ?_
          refine ww_icmp_ge C 208 dX6_next_201 (by decide) h 204 rfl (fun h => ?_) (fun h => ?_)
          · refine ww_iload_n C 0 dX6_next_208 rfl rfl 209 rfl ?_
            refine ww_iconst C (3 : Int32) dX6_next_209 (by decide) 210 rfl ?_
            refine ww_isub C dX6_next_210 211 rfl ?_
            refine ww_putI C cl_X6 (obM hn) 23 (by decide) rfl tyX6 tyX6_ok nmX6 rfl rfl rfl w_870 dX6_next_211 h 214 rfl (fun u248 h => ?_)
            refine ww_goto C 403 dX6_next_214 (by decide) ?_
            exact ww_vret C dX6_next_403 hr h
          · refine ww_iload_n C 0 dX6_next_204 rfl rfl 205 rfl ?_
            refine ww_goto C 211 dX6_next_205 (by decide) ?_
            refine ww_putI C cl_X6 (obM hn) 23 (by decide) rfl tyX6 tyX6_ok nmX6 rfl rfl rfl w_870 dX6_next_211 h 214 rfl (fun u249 h => ?_)
            refine ww_goto C 403 dX6_next_214 (by decide) ?_
            exact ww_vret C dX6_next_403 hr h
      · refine ww_aload_n C 0 dX6_next_114 rfl rfl 115 rfl ?_
        refine ww_getS C cl_X6 (obM hn) 7 (by decide) rfl 6 rfl w_854 dX6_next_115 118 rfl ?_
        refine ww_aload_n C 0 dX6_next_118 rfl rfl 119 rfl ?_
        refine ww_getI C cl_X6 (obM hn) 20 (by decide) rfl w_867 dX6_next_119 122 rfl ?_
        refine ww_iald C (iaM hn 6 160 (by decide) (by decide) rfl) dX6_next_122 h 123 rfl (fun h => ?_)
        refine ww_bipush C (97 : Int32) dX6_next_123 (by decide) 125 rfl ?_
        refine ww_bipush C (122 : Int32) dX6_next_125 (by decide) 127 rfl ?_
        refine ww_callSi C (As := [.int (g.1 6 (g.1 0 20).toNatClampNeg), .int (97 : Int32), .int (122 : Int32)]) (st := []) h (fun _ _ hF => k_X6_in hn hF) w_808 cm_X6_in (by decide) (by decide) rfl rfl (Nat.le_of_ble_eq_true rfl) dX6_next_127 130 rfl (fun v251 u250 h => ?_)
        refine ww_if_eq C 146 dX6_next_130 (by decide) h 133 rfl (fun h => ?_) (fun h => ?_)
        · refine ww_aload_n C 0 dX6_next_146 rfl rfl 147 rfl ?_
          refine ww_aload_n C 0 dX6_next_147 rfl rfl 148 rfl ?_
          refine ww_getI C cl_X6 (obM hn) 21 (by decide) rfl w_868 dX6_next_148 151 rfl ?_
          refine ww_aload_n C 0 dX6_next_151 rfl rfl 152 rfl ?_
          refine ww_getI C cl_X6 (obM hn) 20 (by decide) rfl w_867 dX6_next_152 155 rfl ?_
          refine ww_callVi C (As := [.int (u250.1 0 21), .int (u250.1 0 20)]) (st := []) h cl_X6.1 (obM hn) (fun _ _ hF => k_X6_wordFrom hn hF) w_811 cm_X6_wordFrom (by decide) (by decide) rfl rfl (Nat.le_of_ble_eq_true rfl) dX6_next_155 158 rfl (fun v253 u252 h => ?_)
          refine ww_istore_n C [(2, .int v253), (0, .ref (ad 0))] dX6_next_158 rfl (by decide) rfl 159 rfl ?_
          refine ww_aload_n C 1 dX6_next_159 rfl rfl 160 rfl ?_
          refine ww_iload_n C 0 dX6_next_160 rfl rfl 161 rfl ?_
          refine ww_iconst C (3 : Int32) dX6_next_161 (by decide) 162 rfl ?_
          refine ww_icmp_ge C 169 dX6_next_162 (by decide) h 165 rfl (fun h => ?_) (fun h => ?_)
          · refine ww_iload_n C 0 dX6_next_169 rfl rfl 170 rfl ?_
            refine ww_bipush C (9 : Int32) dX6_next_170 (by decide) 172 rfl ?_
            refine ww_icmp_ge C 179 dX6_next_172 (by decide) h 175 rfl (fun h => ?_) (fun h => ?_)
            · refine ww_iload_n C 0 dX6_next_179 rfl rfl 180 rfl ?_
              refine ww_bipush C (12 : Int32) dX6_next_180 (by decide) 182 rfl ?_
              refine ww_icmp_ne C 189 dX6_next_182 (by decide) h 185 rfl (fun h => ?_) (fun h => ?_)
              · refine ww_iconst C (4 : Int32) dX6_next_189 (by decide) 190 rfl ?_
                refine ww_iload_n C 0 dX6_next_190 rfl rfl 191 rfl ?_
                refine ww_iadd C dX6_next_191 192 rfl ?_
                refine ww_bipush C (9 : Int32) dX6_next_192 (by decide) 194 rfl ?_
                refine ww_isub C dX6_next_194 195 rfl ?_
                refine ww_putI C cl_X6 (obM hn) 22 (by decide) rfl tyX6 tyX6_ok nmX6 rfl rfl rfl w_869 dX6_next_195 h 198 rfl (fun u254 h => ?_)
                refine ww_aload_n C 1 dX6_next_198 rfl rfl 199 rfl ?_
                refine ww_iload_n C 0 dX6_next_199 rfl rfl 200 rfl ?_
                refine ww_iconst C (3 : Int32) dX6_next_200 (by decide) 201 rfl ?_
                refine ww_icmp_ge C 208 dX6_next_201 (by decide) h 204 rfl (fun h => ?_) (fun h => ?_)
                · refine ww_iload_n C 0 dX6_next_208 rfl rfl 209 rfl ?_
                  refine ww_iconst C (3 : Int32) dX6_next_209 (by decide) 210 rfl ?_
                  refine ww_isub C dX6_next_210 211 rfl ?_
                  refine ww_putI C cl_X6 (obM hn) 23 (by decide) rfl tyX6 tyX6_ok nmX6 rfl rfl rfl w_870 dX6_next_211 h 214 rfl (fun u255 h => ?_)
                  refine ww_goto C 403 dX6_next_214 (by decide) ?_
                  exact ww_vret C dX6_next_403 hr h
                · refine ww_iload_n C 0 dX6_next_204 rfl rfl 205 rfl ?_
                  refine ww_goto C 211 dX6_next_205 (by decide) ?_
                  refine ww_putI C cl_X6 (obM hn) 23 (by decide) rfl tyX6 tyX6_ok nmX6 rfl rfl rfl w_870 dX6_next_211 h 214 rfl (fun u256 h => ?_)
                  refine ww_goto C 403 dX6_next_214 (by decide) ?_
                  exact ww_vret C dX6_next_403 hr h
              · refine ww_iconst C (-1 : Int32) dX6_next_185 (by decide) 186 rfl ?_
                refine ww_goto C 195 dX6_next_186 (by decide) ?_
                refine ww_putI C cl_X6 (obM hn) 22 (by decide) rfl tyX6 tyX6_ok nmX6 rfl rfl rfl w_869 dX6_next_195 h 198 rfl (fun u257 h => ?_)
                refine ww_aload_n C 1 dX6_next_198 rfl rfl 199 rfl ?_
                refine ww_iload_n C 0 dX6_next_199 rfl rfl 200 rfl ?_
                refine ww_iconst C (3 : Int32) dX6_next_200 (by decide) 201 rfl ?_
                refine ww_icmp_ge C 208 dX6_next_201 (by decide) h 204 rfl (fun h => ?_) (fun h => ?_)
                · refine ww_iload_n C 0 dX6_next_208 rfl rfl 209 rfl ?_
                  refine ww_iconst C (3 : Int32) dX6_next_209 (by decide) 210 rfl ?_
                  refine ww_isub C dX6_next_210 211 rfl ?_
                  refine ww_putI C cl_X6 (obM hn) 23 (by decide) rfl tyX6 tyX6_ok nmX6 rfl rfl rfl w_870 dX6_next_211 h 214 rfl (fun u258 h => ?_)
                  refine ww_goto C 403 dX6_next_214 (by decide) ?_
                  exact ww_vret C dX6_next_403 hr h
                · refine ww_iload_n C 0 dX6_next_204 rfl rfl 205 rfl ?_
                  refine ww_goto C 211 dX6_next_205 (by decide) ?_
                  refine ww_putI C cl_X6 (obM hn) 23 (by decide) rfl tyX6 tyX6_ok nmX6 rfl rfl rfl w_870 dX6_next_211 h 214 rfl (fun u259 h => ?_)
                  refine ww_goto C 403 dX6_next_214 (by decide) ?_
                  exact ww_vret C dX6_next_403 hr h
            · refine ww_iconst C (2 : Int32) dX6_next_175 (by decide) 176 rfl ?_
              refine ww_goto C 195 dX6_next_176 (by decide) ?_
              refine ww_putI C cl_X6 (obM hn) 22 (by decide) rfl tyX6 tyX6_ok nmX6 rfl rfl rfl w_869 dX6_next_195 h 198 rfl (fun u260 h => ?_)
              refine ww_aload_n C 1 dX6_next_198 rfl rfl 199 rfl ?_
              refine ww_iload_n C 0 dX6_next_199 rfl rfl 200 rfl ?_
              refine ww_iconst C (3 : Int32) dX6_next_200 (by decide) 201 rfl ?_
              refine ww_icmp_ge C 208 dX6_next_201 (by decide) h 204 rfl (fun h => ?_) (fun h => ?_)
              · refine ww_iload_n C 0 dX6_next_208 rfl rfl 209 rfl ?_
                refine ww_iconst C (3 : Int32) dX6_next_209 (by decide) 210 rfl ?_
                refine ww_isub C dX6_next_210 211 rfl ?_
                refine ww_putI C cl_X6 (obM hn) 23 (by decide) rfl tyX6 tyX6_ok nmX6 rfl rfl rfl w_870 dX6_next_211 h 214 rfl (fun u261 h => ?_)
                refine ww_goto C 403 dX6_next_214 (by decide) ?_
                exact ww_vret C dX6_next_403 hr h
              · refine ww_iload_n C 0 dX6_next_204 rfl rfl 205 rfl ?_
                refine ww_goto C 211 dX6_next_205 (by decide) ?_
                refine ww_putI C cl_X6 (obM hn) 23 (by decide) rfl tyX6 tyX6_ok nmX6 rfl rfl rfl w_870 dX6_next_211 h 214 rfl (fun u262 h => ?_)
                refine ww_goto C 403 dX6_next_214 (by decide) ?_
                exact ww_vret C dX6_next_403 hr h
          · refine ww_iconst C (3 : Int32) dX6_next_165 (by decide) 166 rfl ?_
            refine ww_goto C 195 dX6_next_166 (by decide) ?_
            refine ww_putI C cl_X6 (obM hn) 22 (by decide) rfl tyX6 tyX6_ok nmX6 rfl rfl rfl w_869 dX6_next_195 h 198 rfl (fun u263 h => ?_)
            refine ww_aload_n C 1 dX6_next_198 rfl rfl 199 rfl ?_
            refine ww_iload_n C 0 dX6_next_199 rfl rfl 200 rfl ?_
            refine ww_iconst C (3 : Int32) dX6_next_200 (by decide) 201 rfl ?_
            refine ww_icmp_ge C 208 dX6_next_201 (by decide) h 204 rfl (fun h => ?_) (fun h => ?_)
            · refine ww_iload_n C 0 dX6_next_208 rfl rfl 209 rfl ?_
              refine ww_iconst C (3 : Int32) dX6_next_209 (by decide) 210 rfl ?_
              refine ww_isub C dX6_next_210 211 rfl ?_
              refine ww_putI C cl_X6 (obM hn) 23 (by decide) rfl tyX6 tyX6_ok nmX6 rfl rfl rfl w_870 dX6_next_211 h 214 rfl (fun u264 h => ?_)
              refine ww_goto C 403 dX6_next_214 (by decide) ?_
              exact ww_vret C dX6_next_403 hr h
            · refine ww_iload_n C 0 dX6_next_204 rfl rfl 205 rfl ?_
              refine ww_goto C 211 dX6_next_205 (by decide) ?_
              refine ww_putI C cl_X6 (obM hn) 23 (by decide) rfl tyX6 tyX6_ok nmX6 rfl rfl rfl w_870 dX6_next_211 h 214 rfl (fun u265 h => ?_)
              refine ww_goto C 403 dX6_next_214 (by decide) ?_
              exact ww_vret C dX6_next_403 hr h
        · refine ww_aload_n C 0 dX6_next_133 rfl rfl 134 rfl ?_
          refine ww_dup C dX6_next_134 rfl 135 rfl ?_
          refine ww_getI C cl_X6 (obM hn) 20 (by decide) rfl w_867 dX6_next_135 138 rfl ?_
          refine ww_iconst C (1 : Int32) dX6_next_138 (by decide) 139 rfl ?_
          refine ww_iadd C dX6_next_139 140 rfl ?_
          refine ww_putI C cl_X6 (obM hn) 20 (by decide) rfl tyX6 tyX6_ok nmX6 rfl rfl rfl w_867 dX6_next_140 h 143 rfl (fun u266 h => ?_)
          refine ww_goto C 103 dX6_next_143 (by decide) ?_
          exact ww_sub [0] rfl (ih _ h)
  have L0h : ∀ (fu : Nat), (∀ (g : Mem), X6_next_L0 N fu g = some (r, g1) → WW p l e R s m args below meth c 3 D YM ad cA n (MQ below (PBv D YM ad cA n g1 s.heap.size) args s 0 0 (AA n ad s.heap.size)) g 0 [(0, .ref (ad 0))] []) := by
    intro fu
    induction fu with
    | zero => intro g h; cases h
    | succ fu ih =>
      intro g h
      rw [X6_next_L0] at h
      refine ww_aload_n C 0 dX6_next_0 rfl rfl 1 rfl ?_
      refine ww_getI C cl_X6 (obM hn) 20 (by decide) rfl w_867 dX6_next_1 4 rfl ?_
      refine ww_aload_n C 0 dX6_next_4 rfl rfl 5 rfl ?_
      refine ww_getI C cl_X6 (obM hn) 8 (by decide) rfl w_855 dX6_next_5 8 rfl ?_
      refine ww_icmp_ge C 52 dX6_next_8 (by decide) h 11 rfl (fun h => ?_) (fun h => ?_)
      · refine ww_aload_n C 0 dX6_next_52 rfl rfl 53 rfl ?_
        refine ww_aload_n C 0 dX6_next_53 rfl rfl 54 rfl ?_
        refine ww_getI C cl_X6 (obM hn) 20 (by decide) rfl w_867 dX6_next_54 57 rfl ?_
        refine ww_putI C cl_X6 (obM hn) 21 (by decide) rfl tyX6 tyX6_ok nmX6 rfl rfl rfl w_868 dX6_next_57 h 60 rfl (fun u267 h => ?_)
        refine ww_aload_n C 0 dX6_next_60 rfl rfl 61 rfl ?_
        refine ww_iconst C (0 : Int32) dX6_next_61 (by decide) 62 rfl ?_
        refine ww_putI C cl_X6 (obM hn) 22 (by decide) rfl tyX6 tyX6_ok nmX6 rfl rfl rfl w_869 dX6_next_62 h 65 rfl (fun u268 h => ?_)
        refine ww_aload_n C 0 dX6_next_65 rfl rfl 66 rfl ?_
        refine ww_iconst C (0 : Int32) dX6_next_66 (by decide) 67 rfl ?_
        refine ww_putI C cl_X6 (obM hn) 23 (by decide) rfl tyX6 tyX6_ok nmX6 rfl rfl rfl w_870 dX6_next_67 h 70 rfl (fun u269 h => ?_)
        refine ww_aload_n C 0 dX6_next_70 rfl rfl 71 rfl ?_
        refine ww_getI C cl_X6 (obM hn) 20 (by decide) rfl w_867 dX6_next_71 74 rfl ?_
        refine ww_aload_n C 0 dX6_next_74 rfl rfl 75 rfl ?_
        refine ww_getI C cl_X6 (obM hn) 8 (by decide) rfl w_855 dX6_next_75 78 rfl ?_
        refine ww_icmp_ne C 82 dX6_next_78 (by decide) h 81 rfl (fun h => ?_) (fun h => ?_)
        · refine ww_aload_n C 0 dX6_next_82 rfl rfl 83 rfl ?_
          refine ww_getS C cl_X6 (obM hn) 7 (by decide) rfl 6 rfl w_854 dX6_next_83 86 rfl ?_
          refine ww_aload_n C 0 dX6_next_86 rfl rfl 87 rfl ?_
          refine ww_getI C cl_X6 (obM hn) 20 (by decide) rfl w_867 dX6_next_87 90 rfl ?_
          refine ww_iald C (iaM hn 6 160 (by decide) (by decide) rfl) dX6_next_90 h 91 rfl (fun h => ?_)
          refine ww_bi h (fun v270 h => ?_)
          refine ww_istore_n C [(1, .int v270), (0, .ref (ad 0))] dX6_next_91 rfl (by decide) rfl 92 rfl ?_
          refine ww_iload_n C 0 dX6_next_92 rfl rfl 93 rfl ?_
          refine ww_bipush C (97 : Int32) dX6_next_93 (by decide) 95 rfl ?_
          refine ww_bipush C (122 : Int32) dX6_next_95 (by decide) 97 rfl ?_
          refine ww_callSi C (As := [.int v270, .int (97 : Int32), .int (122 : Int32)]) (st := []) h (fun _ _ hF => k_X6_in hn hF) w_808 cm_X6_in (by decide) (by decide) rfl rfl (Nat.le_of_ble_eq_true rfl) dX6_next_97 100 rfl (fun v272 u271 h => ?_)
          refine ww_if_eq C 217 dX6_next_100 (by decide) h 103 rfl (fun h => ?_) (fun h => ?_)
          · refine ww_iload_n C 0 dX6_next_217 rfl rfl 218 rfl ?_
            refine ww_bipush C (48 : Int32) dX6_next_218 (by decide) 220 rfl ?_
            refine ww_bipush C (57 : Int32) dX6_next_220 (by decide) 222 rfl ?_
            refine ww_callSi C (As := [.int v270, .int (48 : Int32), .int (57 : Int32)]) (st := []) h (fun _ _ hF => k_X6_in hn hF) w_808 cm_X6_in (by decide) (by decide) rfl rfl (Nat.le_of_ble_eq_true rfl) dX6_next_222 225 rfl (fun v274 u273 h => ?_)
            refine ww_if_eq C 326 dX6_next_225 (by decide) h 228 rfl (fun h => ?_) (fun h => ?_)
            · refine ww_iload_n C 0 dX6_next_326 rfl rfl 327 rfl ?_
              refine ww_bipush C (40 : Int32) dX6_next_327 (by decide) 329 rfl ?_
              refine ww_icmp_eq C 374 dX6_next_329 (by decide) h 332 rfl (fun h => ?_) (fun h => ?_)
              · refine ww_iconst C (1 : Int32) dX6_next_374 (by decide) 375 rfl ?_
                refine ww_goto C 379 dX6_next_375 (by decide) ?_
                refine ww_istore_n C [(2, .int (1 : Int32)), (1, .int v270), (0, .ref (ad 0))] dX6_next_379 rfl (by decide) rfl 380 rfl ?_
                refine ww_aload_n C 2 dX6_next_380 rfl rfl 381 rfl ?_
                refine ww_iload_n C 0 dX6_next_381 rfl rfl 382 rfl ?_
                refine ww_if_eq C 389 dX6_next_382 (by decide) h 385 rfl (fun h => ?_) (fun h => ?_)
                · refine ww_iconst C (-1 : Int32) dX6_next_389 (by decide) 390 rfl ?_
                  refine ww_putI C cl_X6 (obM hn) 22 (by decide) rfl tyX6 tyX6_ok nmX6 rfl rfl rfl w_869 dX6_next_390 h 393 rfl (fun u275 h => ?_)
                  refine ww_aload_n C 2 dX6_next_393 rfl rfl 394 rfl ?_
                  refine ww_dup C dX6_next_394 rfl 395 rfl ?_
                  refine ww_getI C cl_X6 (obM hn) 20 (by decide) rfl w_867 dX6_next_395 398 rfl ?_
                  refine ww_iconst C (1 : Int32) dX6_next_398 (by decide) 399 rfl ?_
                  refine ww_iadd C dX6_next_399 400 rfl ?_
                  refine ww_putI C cl_X6 (obM hn) 20 (by decide) rfl tyX6 tyX6_ok nmX6 rfl rfl rfl w_867 dX6_next_400 h 403 rfl (fun u276 h => ?_)
                  exact ww_vret C dX6_next_403 hr h
                · refine ww_iload_n C 1 dX6_next_385 rfl rfl 386 rfl ?_
                  refine ww_goto C 390 dX6_next_386 (by decide) ?_
                  refine ww_putI C cl_X6 (obM hn) 22 (by decide) rfl tyX6 tyX6_ok nmX6 rfl rfl rfl w_869 dX6_next_390 h 393 rfl (fun u277 h => ?_)
                  refine ww_aload_n C 2 dX6_next_393 rfl rfl 394 rfl ?_
                  refine ww_dup C dX6_next_394 rfl 395 rfl ?_
                  refine ww_getI C cl_X6 (obM hn) 20 (by decide) rfl w_867 dX6_next_395 398 rfl ?_
                  refine ww_iconst C (1 : Int32) dX6_next_398 (by decide) 399 rfl ?_
                  refine ww_iadd C dX6_next_399 400 rfl ?_
                  refine ww_putI C cl_X6 (obM hn) 20 (by decide) rfl tyX6 tyX6_ok nmX6 rfl rfl rfl w_867 dX6_next_400 h 403 rfl (fun u278 h => ?_)
                  exact ww_vret C dX6_next_403 hr h
              · refine ww_iload_n C 0 dX6_next_332 rfl rfl 333 rfl ?_
                refine ww_bipush C (41 : Int32) dX6_next_333 (by decide) 335 rfl ?_
                refine ww_icmp_eq C 374 dX6_next_335 (by decide) h 338 rfl (fun h => ?_) (fun h => ?_)
                · refine ww_iconst C (1 : Int32) dX6_next_374 (by decide) 375 rfl ?_
                  refine ww_goto C 379 dX6_next_375 (by decide) ?_
                  refine ww_istore_n C [(2, .int (1 : Int32)), (1, .int v270), (0, .ref (ad 0))] dX6_next_379 rfl (by decide) rfl 380 rfl ?_
                  refine ww_aload_n C 2 dX6_next_380 rfl rfl 381 rfl ?_
                  refine ww_iload_n C 0 dX6_next_381 rfl rfl 382 rfl ?_
                  refine ww_if_eq C 389 dX6_next_382 (by decide) h 385 rfl (fun h => ?_) (fun h => ?_)
                  · refine ww_iconst C (-1 : Int32) dX6_next_389 (by decide) 390 rfl ?_
                    refine ww_putI C cl_X6 (obM hn) 22 (by decide) rfl tyX6 tyX6_ok nmX6 rfl rfl rfl w_869 dX6_next_390 h 393 rfl (fun u279 h => ?_)
                    refine ww_aload_n C 2 dX6_next_393 rfl rfl 394 rfl ?_
                    refine ww_dup C dX6_next_394 rfl 395 rfl ?_
                    refine ww_getI C cl_X6 (obM hn) 20 (by decide) rfl w_867 dX6_next_395 398 rfl ?_
                    refine ww_iconst C (1 : Int32) dX6_next_398 (by decide) 399 rfl ?_
                    refine ww_iadd C dX6_next_399 400 rfl ?_
                    refine ww_putI C cl_X6 (obM hn) 20 (by decide) rfl tyX6 tyX6_ok nmX6 rfl rfl rfl w_867 dX6_next_400 h 403 rfl (fun u280 h => ?_)
                    exact ww_vret C dX6_next_403 hr h
                  · refine ww_iload_n C 1 dX6_next_385 rfl rfl 386 rfl ?_
                    refine ww_goto C 390 dX6_next_386 (by decide) ?_
                    refine ww_putI C cl_X6 (obM hn) 22 (by decide) rfl tyX6 tyX6_ok nmX6 rfl rfl rfl w_869 dX6_next_390 h 393 rfl (fun u281 h => ?_)
                    refine ww_aload_n C 2 dX6_next_393 rfl rfl 394 rfl ?_
                    refine ww_dup C dX6_next_394 rfl 395 rfl ?_
                    refine ww_getI C cl_X6 (obM hn) 20 (by decide) rfl w_867 dX6_next_395 398 rfl ?_
                    refine ww_iconst C (1 : Int32) dX6_next_398 (by decide) 399 rfl ?_
                    refine ww_iadd C dX6_next_399 400 rfl ?_
                    refine ww_putI C cl_X6 (obM hn) 20 (by decide) rfl tyX6 tyX6_ok nmX6 rfl rfl rfl w_867 dX6_next_400 h 403 rfl (fun u282 h => ?_)
                    exact ww_vret C dX6_next_403 hr h
                · refine ww_iload_n C 0 dX6_next_338 rfl rfl 339 rfl ?_
                  refine ww_bipush C (59 : Int32) dX6_next_339 (by decide) 341 rfl ?_
                  refine ww_icmp_eq C 374 dX6_next_341 (by decide) h 344 rfl (fun h => ?_) (fun h => ?_)
                  · refine ww_iconst C (1 : Int32) dX6_next_374 (by decide) 375 rfl ?_
                    refine ww_goto C 379 dX6_next_375 (by decide) ?_
                    refine ww_istore_n C [(2, .int (1 : Int32)), (1, .int v270), (0, .ref (ad 0))] dX6_next_379 rfl (by decide) rfl 380 rfl ?_
                    refine ww_aload_n C 2 dX6_next_380 rfl rfl 381 rfl ?_
                    refine ww_iload_n C 0 dX6_next_381 rfl rfl 382 rfl ?_
                    refine ww_if_eq C 389 dX6_next_382 (by decide) h 385 rfl (fun h => ?_) (fun h => ?_)
                    · refine ww_iconst C (-1 : Int32) dX6_next_389 (by decide) 390 rfl ?_
                      refine ww_putI C cl_X6 (obM hn) 22 (by decide) rfl tyX6 tyX6_ok nmX6 rfl rfl rfl w_869 dX6_next_390 h 393 rfl (fun u283 h => ?_)
                      refine ww_aload_n C 2 dX6_next_393 rfl rfl 394 rfl ?_
                      refine ww_dup C dX6_next_394 rfl 395 rfl ?_
                      refine ww_getI C cl_X6 (obM hn) 20 (by decide) rfl w_867 dX6_next_395 398 rfl ?_
                      refine ww_iconst C (1 : Int32) dX6_next_398 (by decide) 399 rfl ?_
                      refine ww_iadd C dX6_next_399 400 rfl ?_
                      refine ww_putI C cl_X6 (obM hn) 20 (by decide) rfl tyX6 tyX6_ok nmX6 rfl rfl rfl w_867 dX6_next_400 h 403 rfl (fun u284 h => ?_)
                      exact ww_vret C dX6_next_403 hr h
                    · refine ww_iload_n C 1 dX6_next_385 rfl rfl 386 rfl ?_
                      refine ww_goto C 390 dX6_next_386 (by decide) ?_
                      refine ww_putI C cl_X6 (obM hn) 22 (by decide) rfl tyX6 tyX6_ok nmX6 rfl rfl rfl w_869 dX6_next_390 h 393 rfl (fun u285 h => ?_)
                      refine ww_aload_n C 2 dX6_next_393 rfl rfl 394 rfl ?_
                      refine ww_dup C dX6_next_394 rfl 395 rfl ?_
                      refine ww_getI C cl_X6 (obM hn) 20 (by decide) rfl w_867 dX6_next_395 398 rfl ?_
                      refine ww_iconst C (1 : Int32) dX6_next_398 (by decide) 399 rfl ?_
                      refine ww_iadd C dX6_next_399 400 rfl ?_
                      refine ww_putI C cl_X6 (obM hn) 20 (by decide) rfl tyX6 tyX6_ok nmX6 rfl rfl rfl w_867 dX6_next_400 h 403 rfl (fun u286 h => ?_)
                      exact ww_vret C dX6_next_403 hr h
                  · refine ww_iload_n C 0 dX6_next_344 rfl rfl 345 rfl ?_
                    refine ww_bipush C (43 : Int32) dX6_next_345 (by decide) 347 rfl ?_
                    refine ww_icmp_eq C 374 dX6_next_347 (by decide) h 350 rfl (fun h => ?_) (fun h => ?_)
                    · refine ww_iconst C (1 : Int32) dX6_next_374 (by decide) 375 rfl ?_
                      refine ww_goto C 379 dX6_next_375 (by decide) ?_
                      refine ww_istore_n C [(2, .int (1 : Int32)), (1, .int v270), (0, .ref (ad 0))] dX6_next_379 rfl (by decide) rfl 380 rfl ?_
                      refine ww_aload_n C 2 dX6_next_380 rfl rfl 381 rfl ?_
                      refine ww_iload_n C 0 dX6_next_381 rfl rfl 382 rfl ?_
                      refine ww_if_eq C 389 dX6_next_382 (by decide) h 385 rfl (fun h => ?_) (fun h => ?_)
                      · refine ww_iconst C (-1 : Int32) dX6_next_389 (by decide) 390 rfl ?_
                        refine ww_putI C cl_X6 (obM hn) 22 (by decide) rfl tyX6 tyX6_ok nmX6 rfl rfl rfl w_869 dX6_next_390 h 393 rfl (fun u287 h => ?_)
                        refine ww_aload_n C 2 dX6_next_393 rfl rfl 394 rfl ?_
                        refine ww_dup C dX6_next_394 rfl 395 rfl ?_
                        refine ww_getI C cl_X6 (obM hn) 20 (by decide) rfl w_867 dX6_next_395 398 rfl ?_
                        refine ww_iconst C (1 : Int32) dX6_next_398 (by decide) 399 rfl ?_
                        refine ww_iadd C dX6_next_399 400 rfl ?_
                        refine ww_putI C cl_X6 (obM hn) 20 (by decide) rfl tyX6 tyX6_ok nmX6 rfl rfl rfl w_867 dX6_next_400 h 403 rfl (fun u288 h => ?_)
                        exact ww_vret C dX6_next_403 hr h
                      · refine ww_iload_n C 1 dX6_next_385 rfl rfl 386 rfl ?_
                        refine ww_goto C 390 dX6_next_386 (by decide) ?_
                        refine ww_putI C cl_X6 (obM hn) 22 (by decide) rfl tyX6 tyX6_ok nmX6 rfl rfl rfl w_869 dX6_next_390 h 393 rfl (fun u289 h => ?_)
                        refine ww_aload_n C 2 dX6_next_393 rfl rfl 394 rfl ?_
                        refine ww_dup C dX6_next_394 rfl 395 rfl ?_
                        refine ww_getI C cl_X6 (obM hn) 20 (by decide) rfl w_867 dX6_next_395 398 rfl ?_
                        refine ww_iconst C (1 : Int32) dX6_next_398 (by decide) 399 rfl ?_
                        refine ww_iadd C dX6_next_399 400 rfl ?_
                        refine ww_putI C cl_X6 (obM hn) 20 (by decide) rfl tyX6 tyX6_ok nmX6 rfl rfl rfl w_867 dX6_next_400 h 403 rfl (fun u290 h => ?_)
                        exact ww_vret C dX6_next_403 hr h
                    · refine ww_iload_n C 0 dX6_next_350 rfl rfl 351 rfl ?_
                      refine ww_bipush C (45 : Int32) dX6_next_351 (by decide) 353 rfl ?_
                      refine ww_icmp_eq C 374 dX6_next_353 (by decide) h 356 rfl (fun h => ?_) (fun h => ?_)
                      · refine ww_iconst C (1 : Int32) dX6_next_374 (by decide) 375 rfl ?_
                        refine ww_goto C 379 dX6_next_375 (by decide) ?_
                        refine ww_istore_n C [(2, .int (1 : Int32)), (1, .int v270), (0, .ref (ad 0))] dX6_next_379 rfl (by decide) rfl 380 rfl ?_
                        refine ww_aload_n C 2 dX6_next_380 rfl rfl 381 rfl ?_
                        refine ww_iload_n C 0 dX6_next_381 rfl rfl 382 rfl ?_
                        refine ww_if_eq C 389 dX6_next_382 (by decide) h 385 rfl (fun h => ?_) (fun h => ?_)
                        · refine ww_iconst C (-1 : Int32) dX6_next_389 (by decide) 390 rfl ?_
                          refine ww_putI C cl_X6 (obM hn) 22 (by decide) rfl tyX6 tyX6_ok nmX6 rfl rfl rfl w_869 dX6_next_390 h 393 rfl (fun u291 h => ?_)
                          refine ww_aload_n C 2 dX6_next_393 rfl rfl 394 rfl ?_
                          refine ww_dup C dX6_next_394 rfl 395 rfl ?_
                          refine ww_getI C cl_X6 (obM hn) 20 (by decide) rfl w_867 dX6_next_395 398 rfl ?_
                          refine ww_iconst C (1 : Int32) dX6_next_398 (by decide) 399 rfl ?_
                          refine ww_iadd C dX6_next_399 400 rfl ?_
                          refine ww_putI C cl_X6 (obM hn) 20 (by decide) rfl tyX6 tyX6_ok nmX6 rfl rfl rfl w_867 dX6_next_400 h 403 rfl (fun u292 h => ?_)
                          exact ww_vret C dX6_next_403 hr h
                        · refine ww_iload_n C 1 dX6_next_385 rfl rfl 386 rfl ?_
                          refine ww_goto C 390 dX6_next_386 (by decide) ?_
                          refine ww_putI C cl_X6 (obM hn) 22 (by decide) rfl tyX6 tyX6_ok nmX6 rfl rfl rfl w_869 dX6_next_390 h 393 rfl (fun u293 h => ?_)
                          refine ww_aload_n C 2 dX6_next_393 rfl rfl 394 rfl ?_
                          refine ww_dup C dX6_next_394 rfl 395 rfl ?_
                          refine ww_getI C cl_X6 (obM hn) 20 (by decide) rfl w_867 dX6_next_395 398 rfl ?_
                          refine ww_iconst C (1 : Int32) dX6_next_398 (by decide) 399 rfl ?_
                          refine ww_iadd C dX6_next_399 400 rfl ?_
                          refine ww_putI C cl_X6 (obM hn) 20 (by decide) rfl tyX6 tyX6_ok nmX6 rfl rfl rfl w_867 dX6_next_400 h 403 rfl (fun u294 h => ?_)
                          exact ww_vret C dX6_next_403 hr h
                      · refine ww_iload_n C 0 dX6_next_356 rfl rfl 357 rfl ?_
                        refine ww_bipush C (42 : Int32) dX6_next_357 (by decide) 359 rfl ?_
                        refine ww_icmp_eq C 374 dX6_next_359 (by decide) h 362 rfl (fun h => ?_) (fun h => ?_)
                        · refine ww_iconst C (1 : Int32) dX6_next_374 (by decide) 375 rfl ?_
                          refine ww_goto C 379 dX6_next_375 (by decide) ?_
                          refine ww_istore_n C [(2, .int (1 : Int32)), (1, .int v270), (0, .ref (ad 0))] dX6_next_379 rfl (by decide) rfl 380 rfl ?_
                          refine ww_aload_n C 2 dX6_next_380 rfl rfl 381 rfl ?_
                          refine ww_iload_n C 0 dX6_next_381 rfl rfl 382 rfl ?_
                          refine ww_if_eq C 389 dX6_next_382 (by decide) h 385 rfl (fun h => ?_) (fun h => ?_)
                          · refine ww_iconst C (-1 : Int32) dX6_next_389 (by decide) 390 rfl ?_
                            refine ww_putI C cl_X6 (obM hn) 22 (by decide) rfl tyX6 tyX6_ok nmX6 rfl rfl rfl w_869 dX6_next_390 h 393 rfl (fun u295 h => ?_)
                            refine ww_aload_n C 2 dX6_next_393 rfl rfl 394 rfl ?_
                            refine ww_dup C dX6_next_394 rfl 395 rfl ?_
                            refine ww_getI C cl_X6 (obM hn) 20 (by decide) rfl w_867 dX6_next_395 398 rfl ?_
                            refine ww_iconst C (1 : Int32) dX6_next_398 (by decide) 399 rfl ?_
                            refine ww_iadd C dX6_next_399 400 rfl ?_
                            refine ww_putI C cl_X6 (obM hn) 20 (by decide) rfl tyX6 tyX6_ok nmX6 rfl rfl rfl w_867 dX6_next_400 h 403 rfl (fun u296 h => ?_)
                            exact ww_vret C dX6_next_403 hr h
                          · refine ww_iload_n C 1 dX6_next_385 rfl rfl 386 rfl ?_
                            refine ww_goto C 390 dX6_next_386 (by decide) ?_
                            refine ww_putI C cl_X6 (obM hn) 22 (by decide) rfl tyX6 tyX6_ok nmX6 rfl rfl rfl w_869 dX6_next_390 h 393 rfl (fun u297 h => ?_)
                            refine ww_aload_n C 2 dX6_next_393 rfl rfl 394 rfl ?_
                            refine ww_dup C dX6_next_394 rfl 395 rfl ?_
                            refine ww_getI C cl_X6 (obM hn) 20 (by decide) rfl w_867 dX6_next_395 398 rfl ?_
                            refine ww_iconst C (1 : Int32) dX6_next_398 (by decide) 399 rfl ?_
                            refine ww_iadd C dX6_next_399 400 rfl ?_
                            refine ww_putI C cl_X6 (obM hn) 20 (by decide) rfl tyX6 tyX6_ok nmX6 rfl rfl rfl w_867 dX6_next_400 h 403 rfl (fun u298 h => ?_)
                            exact ww_vret C dX6_next_403 hr h
                        · refine ww_iload_n C 0 dX6_next_362 rfl rfl 363 rfl ?_
                          refine ww_bipush C (60 : Int32) dX6_next_363 (by decide) 365 rfl ?_
                          refine ww_icmp_eq C 374 dX6_next_365 (by decide) h 368 rfl (fun h => ?_) (fun h => ?_)
                          · refine ww_iconst C (1 : Int32) dX6_next_374 (by decide) 375 rfl ?_
                            refine ww_goto C 379 dX6_next_375 (by decide) ?_
                            refine ww_istore_n C [(2, .int (1 : Int32)), (1, .int v270), (0, .ref (ad 0))] dX6_next_379 rfl (by decide) rfl 380 rfl ?_
                            refine ww_aload_n C 2 dX6_next_380 rfl rfl 381 rfl ?_
                            refine ww_iload_n C 0 dX6_next_381 rfl rfl 382 rfl ?_
                            refine ww_if_eq C 389 dX6_next_382 (by decide) h 385 rfl (fun h => ?_) (fun h => ?_)
                            · refine ww_iconst C (-1 : Int32) dX6_next_389 (by decide) 390 rfl ?_
                              refine ww_putI C cl_X6 (obM hn) 22 (by decide) rfl tyX6 tyX6_ok nmX6 rfl rfl rfl w_869 dX6_next_390 h 393 rfl (fun u299 h => ?_)
                              refine ww_aload_n C 2 dX6_next_393 rfl rfl 394 rfl ?_
                              refine ww_dup C dX6_next_394 rfl 395 rfl ?_
                              refine ww_getI C cl_X6 (obM hn) 20 (by decide) rfl w_867 dX6_next_395 398 rfl ?_
                              refine ww_iconst C (1 : Int32) dX6_next_398 (by decide) 399 rfl ?_
                              refine ww_iadd C dX6_next_399 400 rfl ?_
                              refine ww_putI C cl_X6 (obM hn) 20 (by decide) rfl tyX6 tyX6_ok nmX6 rfl rfl rfl w_867 dX6_next_400 h 403 rfl (fun u300 h => ?_)
                              exact ww_vret C dX6_next_403 hr h
                            · refine ww_iload_n C 1 dX6_next_385 rfl rfl 386 rfl ?_
                              refine ww_goto C 390 dX6_next_386 (by decide) ?_
                              refine ww_putI C cl_X6 (obM hn) 22 (by decide) rfl tyX6 tyX6_ok nmX6 rfl rfl rfl w_869 dX6_next_390 h 393 rfl (fun u301 h => ?_)
                              refine ww_aload_n C 2 dX6_next_393 rfl rfl 394 rfl ?_
                              refine ww_dup C dX6_next_394 rfl 395 rfl ?_
                              refine ww_getI C cl_X6 (obM hn) 20 (by decide) rfl w_867 dX6_next_395 398 rfl ?_
                              refine ww_iconst C (1 : Int32) dX6_next_398 (by decide) 399 rfl ?_
                              refine ww_iadd C dX6_next_399 400 rfl ?_
                              refine ww_putI C cl_X6 (obM hn) 20 (by decide) rfl tyX6 tyX6_ok nmX6 rfl rfl rfl w_867 dX6_next_400 h 403 rfl (fun u302 h => ?_)
                              exact ww_vret C dX6_next_403 hr h
                          · refine ww_iload_n C 0 dX6_next_368 rfl rfl 369 rfl ?_
                            refine ww_bipush C (61 : Int32) dX6_next_369 (by decide) 371 rfl ?_
                            refine ww_icmp_ne C 378 dX6_next_371 (by decide) h 374 rfl (fun h => ?_) (fun h => ?_)
                            · refine ww_iconst C (0 : Int32) dX6_next_378 (by decide) 379 rfl ?_
                              refine ww_istore_n C [(2, .int (0 : Int32)), (1, .int v270), (0, .ref (ad 0))] dX6_next_379 rfl (by decide) rfl 380 rfl ?_
                              refine ww_aload_n C 2 dX6_next_380 rfl rfl 381 rfl ?_
                              refine ww_iload_n C 0 dX6_next_381 rfl rfl 382 rfl ?_
                              refine ww_if_eq C 389 dX6_next_382 (by decide) h 385 rfl (fun h => ?_) (fun h => ?_)
                              · refine ww_iconst C (-1 : Int32) dX6_next_389 (by decide) 390 rfl ?_
                                refine ww_putI C cl_X6 (obM hn) 22 (by decide) rfl tyX6 tyX6_ok nmX6 rfl rfl rfl w_869 dX6_next_390 h 393 rfl (fun u303 h => ?_)
                                refine ww_aload_n C 2 dX6_next_393 rfl rfl 394 rfl ?_
                                refine ww_dup C dX6_next_394 rfl 395 rfl ?_
                                refine ww_getI C cl_X6 (obM hn) 20 (by decide) rfl w_867 dX6_next_395 398 rfl ?_
                                refine ww_iconst C (1 : Int32) dX6_next_398 (by decide) 399 rfl ?_
                                refine ww_iadd C dX6_next_399 400 rfl ?_
                                refine ww_putI C cl_X6 (obM hn) 20 (by decide) rfl tyX6 tyX6_ok nmX6 rfl rfl rfl w_867 dX6_next_400 h 403 rfl (fun u304 h => ?_)
                                exact ww_vret C dX6_next_403 hr h
                              · refine ww_iload_n C 1 dX6_next_385 rfl rfl 386 rfl ?_
                                refine ww_goto C 390 dX6_next_386 (by decide) ?_
                                refine ww_putI C cl_X6 (obM hn) 22 (by decide) rfl tyX6 tyX6_ok nmX6 rfl rfl rfl w_869 dX6_next_390 h 393 rfl (fun u305 h => ?_)
                                refine ww_aload_n C 2 dX6_next_393 rfl rfl 394 rfl ?_
                                refine ww_dup C dX6_next_394 rfl 395 rfl ?_
                                refine ww_getI C cl_X6 (obM hn) 20 (by decide) rfl w_867 dX6_next_395 398 rfl ?_
                                refine ww_iconst C (1 : Int32) dX6_next_398 (by decide) 399 rfl ?_
                                refine ww_iadd C dX6_next_399 400 rfl ?_
                                refine ww_putI C cl_X6 (obM hn) 20 (by decide) rfl tyX6 tyX6_ok nmX6 rfl rfl rfl w_867 dX6_next_400 h 403 rfl (fun u306 h => ?_)
                                exact ww_vret C dX6_next_403 hr h
                            · refine ww_iconst C (1 : Int32) dX6_next_374 (by decide) 375 rfl ?_
                              refine ww_goto C 379 dX6_next_375 (by decide) ?_
                              refine ww_istore_n C [(2, .int (1 : Int32)), (1, .int v270), (0, .ref (ad 0))] dX6_next_379 rfl (by decide) rfl 380 rfl ?_
                              refine ww_aload_n C 2 dX6_next_380 rfl rfl 381 rfl ?_
                              refine ww_iload_n C 0 dX6_next_381 rfl rfl 382 rfl ?_
                              refine ww_if_eq C 389 dX6_next_382 (by decide) h 385 rfl (fun h => ?_) (fun h => ?_)
                              · refine ww_iconst C (-1 : Int32) dX6_next_389 (by decide) 390 rfl ?_
                                refine ww_putI C cl_X6 (obM hn) 22 (by decide) rfl tyX6 tyX6_ok nmX6 rfl rfl rfl w_869 dX6_next_390 h 393 rfl (fun u307 h => ?_)
                                refine ww_aload_n C 2 dX6_next_393 rfl rfl 394 rfl ?_
                                refine ww_dup C dX6_next_394 rfl 395 rfl ?_
                                refine ww_getI C cl_X6 (obM hn) 20 (by decide) rfl w_867 dX6_next_395 398 rfl ?_
                                refine ww_iconst C (1 : Int32) dX6_next_398 (by decide) 399 rfl ?_
                                refine ww_iadd C dX6_next_399 400 rfl ?_
                                refine ww_putI C cl_X6 (obM hn) 20 (by decide) rfl tyX6 tyX6_ok nmX6 rfl rfl rfl w_867 dX6_next_400 h 403 rfl (fun u308 h => ?_)
                                exact ww_vret C dX6_next_403 hr h
                              · refine ww_iload_n C 1 dX6_next_385 rfl rfl 386 rfl ?_
                                refine ww_goto C 390 dX6_next_386 (by decide) ?_
                                refine ww_putI C cl_X6 (obM hn) 22 (by decide) rfl tyX6 tyX6_ok nmX6 rfl rfl rfl w_869 dX6_next_390 h 393 rfl (fun u309 h => ?_)
                                refine ww_aload_n C 2 dX6_next_393 rfl rfl 394 rfl ?_
                                refine ww_dup C dX6_next_394 rfl 395 rfl ?_
                                refine ww_getI C cl_X6 (obM hn) 20 (by decide) rfl w_867 dX6_next_395 398 rfl ?_
                                refine ww_iconst C (1 : Int32) dX6_next_398 (by decide) 399 rfl ?_
                                refine ww_iadd C dX6_next_399 400 rfl ?_
                                refine ww_putI C cl_X6 (obM hn) 20 (by decide) rfl tyX6 tyX6_ok nmX6 rfl rfl rfl w_867 dX6_next_400 h 403 rfl (fun u310 h => ?_)
                                exact ww_vret C dX6_next_403 hr h
            · refine ww_iconst C (0 : Int32) dX6_next_228 (by decide) 229 rfl ?_
              refine ww_istore_n C [(2, .int (0 : Int32)), (1, .int v270), (0, .ref (ad 0))] dX6_next_229 rfl (by decide) rfl 230 rfl ?_
              exact ww_sub [2, 0] rfl (L230h N _ _ h)
          · exact ww_sub [1] rfl (L103h N _ h)
        · exact ww_vret C dX6_next_81 hr h
      · refine ww_aload_n C 0 dX6_next_11 rfl rfl 12 rfl ?_
        refine ww_getS C cl_X6 (obM hn) 7 (by decide) rfl 6 rfl w_854 dX6_next_12 15 rfl ?_
        refine ww_aload_n C 0 dX6_next_15 rfl rfl 16 rfl ?_
        refine ww_getI C cl_X6 (obM hn) 20 (by decide) rfl w_867 dX6_next_16 19 rfl ?_
        refine ww_iald C (iaM hn 6 160 (by decide) (by decide) rfl) dX6_next_19 h 20 rfl (fun h => ?_)
        refine ww_bipush C (32 : Int32) dX6_next_20 (by decide) 22 rfl ?_
        refine ww_icmp_eq C 39 dX6_next_22 (by decide) h 25 rfl (fun h => ?_) (fun h => ?_)
        · refine ww_aload_n C 0 dX6_next_39 rfl rfl 40 rfl ?_
          refine ww_dup C dX6_next_40 rfl 41 rfl ?_
          refine ww_getI C cl_X6 (obM hn) 20 (by decide) rfl w_867 dX6_next_41 44 rfl ?_
          refine ww_iconst C (1 : Int32) dX6_next_44 (by decide) 45 rfl ?_
          refine ww_iadd C dX6_next_45 46 rfl ?_
          refine ww_putI C cl_X6 (obM hn) 20 (by decide) rfl tyX6 tyX6_ok nmX6 rfl rfl rfl w_867 dX6_next_46 h 49 rfl (fun u311 h => ?_)
          refine ww_goto C 0 dX6_next_49 (by decide) ?_
          exact ww_sub [0] rfl (ih _ h)
        · refine ww_aload_n C 0 dX6_next_25 rfl rfl 26 rfl ?_
          refine ww_getS C cl_X6 (obM hn) 7 (by decide) rfl 6 rfl w_854 dX6_next_26 29 rfl ?_
          refine ww_aload_n C 0 dX6_next_29 rfl rfl 30 rfl ?_
          refine ww_getI C cl_X6 (obM hn) 20 (by decide) rfl w_867 dX6_next_30 33 rfl ?_
          refine ww_iald C (iaM hn 6 160 (by decide) (by decide) rfl) dX6_next_33 h 34 rfl (fun h => ?_)
          refine ww_bipush C (10 : Int32) dX6_next_34 (by decide) 36 rfl ?_
          refine ww_icmp_ne C 52 dX6_next_36 (by decide) h 39 rfl (fun h => ?_) (fun h => ?_)
          · refine ww_aload_n C 0 dX6_next_52 rfl rfl 53 rfl ?_
            refine ww_aload_n C 0 dX6_next_53 rfl rfl 54 rfl ?_
            refine ww_getI C cl_X6 (obM hn) 20 (by decide) rfl w_867 dX6_next_54 57 rfl ?_
            refine ww_putI C cl_X6 (obM hn) 21 (by decide) rfl tyX6 tyX6_ok nmX6 rfl rfl rfl w_868 dX6_next_57 h 60 rfl (fun u312 h => ?_)
            refine ww_aload_n C 0 dX6_next_60 rfl rfl 61 rfl ?_
            refine ww_iconst C (0 : Int32) dX6_next_61 (by decide) 62 rfl ?_
            refine ww_putI C cl_X6 (obM hn) 22 (by decide) rfl tyX6 tyX6_ok nmX6 rfl rfl rfl w_869 dX6_next_62 h 65 rfl (fun u313 h => ?_)
            refine ww_aload_n C 0 dX6_next_65 rfl rfl 66 rfl ?_
            refine ww_iconst C (0 : Int32) dX6_next_66 (by decide) 67 rfl ?_
            refine ww_putI C cl_X6 (obM hn) 23 (by decide) rfl tyX6 tyX6_ok nmX6 rfl rfl rfl w_870 dX6_next_67 h 70 rfl (fun u314 h => ?_)
            refine ww_aload_n C 0 dX6_next_70 rfl rfl 71 rfl ?_
            refine ww_getI C cl_X6 (obM hn) 20 (by decide) rfl w_867 dX6_next_71 74 rfl ?_
            refine ww_aload_n C 0 dX6_next_74 rfl rfl 75 rfl ?_
            refine ww_getI C cl_X6 (obM hn) 8 (by decide) rfl w_855 dX6_next_75 78 rfl ?_
            refine ww_icmp_ne C 82 dX6_next_78 (by decide) h 81 rfl (fun h => ?_) (fun h => ?_)
            · refine ww_aload_n C 0 dX6_next_82 rfl rfl 83 rfl ?_
              refine ww_getS C cl_X6 (obM hn) 7 (by decide) rfl 6 rfl w_854 dX6_next_83 86 rfl ?_
              refine ww_aload_n C 0 dX6_next_86 rfl rfl 87 rfl ?_
              refine ww_getI C cl_X6 (obM hn) 20 (by decide) rfl w_867 dX6_next_87 90 rfl ?_
              refine ww_iald C (iaM hn 6 160 (by decide) (by decide) rfl) dX6_next_90 h 91 rfl (fun h => ?_)
              refine ww_bi h (fun v315 h => ?_)
              refine ww_istore_n C [(1, .int v315), (0, .ref (ad 0))] dX6_next_91 rfl (by decide) rfl 92 rfl ?_
              refine ww_iload_n C 0 dX6_next_92 rfl rfl 93 rfl ?_
              refine ww_bipush C (97 : Int32) dX6_next_93 (by decide) 95 rfl ?_
              refine ww_bipush C (122 : Int32) dX6_next_95 (by decide) 97 rfl ?_
              refine ww_callSi C (As := [.int v315, .int (97 : Int32), .int (122 : Int32)]) (st := []) h (fun _ _ hF => k_X6_in hn hF) w_808 cm_X6_in (by decide) (by decide) rfl rfl (Nat.le_of_ble_eq_true rfl) dX6_next_97 100 rfl (fun v317 u316 h => ?_)
              refine ww_if_eq C 217 dX6_next_100 (by decide) h 103 rfl (fun h => ?_) (fun h => ?_)
              · refine ww_iload_n C 0 dX6_next_217 rfl rfl 218 rfl ?_
                refine ww_bipush C (48 : Int32) dX6_next_218 (by decide) 220 rfl ?_
                refine ww_bipush C (57 : Int32) dX6_next_220 (by decide) 222 rfl ?_
                refine ww_callSi C (As := [.int v315, .int (48 : Int32), .int (57 : Int32)]) (st := []) h (fun _ _ hF => k_X6_in hn hF) w_808 cm_X6_in (by decide) (by decide) rfl rfl (Nat.le_of_ble_eq_true rfl) dX6_next_222 225 rfl (fun v319 u318 h => ?_)
                refine ww_if_eq C 326 dX6_next_225 (by decide) h 228 rfl (fun h => ?_) (fun h => ?_)
                · refine ww_iload_n C 0 dX6_next_326 rfl rfl 327 rfl ?_
                  refine ww_bipush C (40 : Int32) dX6_next_327 (by decide) 329 rfl ?_
                  refine ww_icmp_eq C 374 dX6_next_329 (by decide) h 332 rfl (fun h => ?_) (fun h => ?_)
                  · refine ww_iconst C (1 : Int32) dX6_next_374 (by decide) 375 rfl ?_
                    refine ww_goto C 379 dX6_next_375 (by decide) ?_
                    refine ww_istore_n C [(2, .int (1 : Int32)), (1, .int v315), (0, .ref (ad 0))] dX6_next_379 rfl (by decide) rfl 380 rfl ?_
                    refine ww_aload_n C 2 dX6_next_380 rfl rfl 381 rfl ?_
                    refine ww_iload_n C 0 dX6_next_381 rfl rfl 382 rfl ?_
                    refine ww_if_eq C 389 dX6_next_382 (by decide) h 385 rfl (fun h => ?_) (fun h => ?_)
                    · refine ww_iconst C (-1 : Int32) dX6_next_389 (by decide) 390 rfl ?_
                      refine ww_putI C cl_X6 (obM hn) 22 (by decide) rfl tyX6 tyX6_ok nmX6 rfl rfl rfl w_869 dX6_next_390 h 393 rfl (fun u320 h => ?_)
                      refine ww_aload_n C 2 dX6_next_393 rfl rfl 394 rfl ?_
                      refine ww_dup C dX6_next_394 rfl 395 rfl ?_
                      refine ww_getI C cl_X6 (obM hn) 20 (by decide) rfl w_867 dX6_next_395 398 rfl ?_
                      refine ww_iconst C (1 : Int32) dX6_next_398 (by decide) 399 rfl ?_
                      refine ww_iadd C dX6_next_399 400 rfl ?_
                      refine ww_putI C cl_X6 (obM hn) 20 (by decide) rfl tyX6 tyX6_ok nmX6 rfl rfl rfl w_867 dX6_next_400 h 403 rfl (fun u321 h => ?_)
                      exact ww_vret C dX6_next_403 hr h
                    · refine ww_iload_n C 1 dX6_next_385 rfl rfl 386 rfl ?_
                      refine ww_goto C 390 dX6_next_386 (by decide) ?_
                      refine ww_putI C cl_X6 (obM hn) 22 (by decide) rfl tyX6 tyX6_ok nmX6 rfl rfl rfl w_869 dX6_next_390 h 393 rfl (fun u322 h => ?_)
                      refine ww_aload_n C 2 dX6_next_393 rfl rfl 394 rfl ?_
                      refine ww_dup C dX6_next_394 rfl 395 rfl ?_
                      refine ww_getI C cl_X6 (obM hn) 20 (by decide) rfl w_867 dX6_next_395 398 rfl ?_
                      refine ww_iconst C (1 : Int32) dX6_next_398 (by decide) 399 rfl ?_
                      refine ww_iadd C dX6_next_399 400 rfl ?_
                      refine ww_putI C cl_X6 (obM hn) 20 (by decide) rfl tyX6 tyX6_ok nmX6 rfl rfl rfl w_867 dX6_next_400 h 403 rfl (fun u323 h => ?_)
                      exact ww_vret C dX6_next_403 hr h
                  · refine ww_iload_n C 0 dX6_next_332 rfl rfl 333 rfl ?_
                    refine ww_bipush C (41 : Int32) dX6_next_333 (by decide) 335 rfl ?_
                    refine ww_icmp_eq C 374 dX6_next_335 (by decide) h 338 rfl (fun h => ?_) (fun h => ?_)
                    · refine ww_iconst C (1 : Int32) dX6_next_374 (by decide) 375 rfl ?_
                      refine ww_goto C 379 dX6_next_375 (by decide) ?_
                      refine ww_istore_n C [(2, .int (1 : Int32)), (1, .int v315), (0, .ref (ad 0))] dX6_next_379 rfl (by decide) rfl 380 rfl ?_
                      refine ww_aload_n C 2 dX6_next_380 rfl rfl 381 rfl ?_
                      refine ww_iload_n C 0 dX6_next_381 rfl rfl 382 rfl ?_
                      refine ww_if_eq C 389 dX6_next_382 (by decide) h 385 rfl (fun h => ?_) (fun h => ?_)
                      · refine ww_iconst C (-1 : Int32) dX6_next_389 (by decide) 390 rfl ?_
                        refine ww_putI C cl_X6 (obM hn) 22 (by decide) rfl tyX6 tyX6_ok nmX6 rfl rfl rfl w_869 dX6_next_390 h 393 rfl (fun u324 h => ?_)
                        refine ww_aload_n C 2 dX6_next_393 rfl rfl 394 rfl ?_
                        refine ww_dup C dX6_next_394 rfl 395 rfl ?_
                        refine ww_getI C cl_X6 (obM hn) 20 (by decide) rfl w_867 dX6_next_395 398 rfl ?_
                        refine ww_iconst C (1 : Int32) dX6_next_398 (by decide) 399 rfl ?_
                        refine ww_iadd C dX6_next_399 400 rfl ?_
                        refine ww_putI C cl_X6 (obM hn) 20 (by decide) rfl tyX6 tyX6_ok nmX6 rfl rfl rfl w_867 dX6_next_400 h 403 rfl (fun u325 h => ?_)
                        exact ww_vret C dX6_next_403 hr h
                      · refine ww_iload_n C 1 dX6_next_385 rfl rfl 386 rfl ?_
                        refine ww_goto C 390 dX6_next_386 (by decide) ?_
                        refine ww_putI C cl_X6 (obM hn) 22 (by decide) rfl tyX6 tyX6_ok nmX6 rfl rfl rfl w_869 dX6_next_390 h 393 rfl (fun u326 h => ?_)
                        refine ww_aload_n C 2 dX6_next_393 rfl rfl 394 rfl ?_
                        refine ww_dup C dX6_next_394 rfl 395 rfl ?_
                        refine ww_getI C cl_X6 (obM hn) 20 (by decide) rfl w_867 dX6_next_395 398 rfl ?_
                        refine ww_iconst C (1 : Int32) dX6_next_398 (by decide) 399 rfl ?_
                        refine ww_iadd C dX6_next_399 400 rfl ?_
                        refine ww_putI C cl_X6 (obM hn) 20 (by decide) rfl tyX6 tyX6_ok nmX6 rfl rfl rfl w_867 dX6_next_400 h 403 rfl (fun u327 h => ?_)
                        exact ww_vret C dX6_next_403 hr h
                    · refine ww_iload_n C 0 dX6_next_338 rfl rfl 339 rfl ?_
                      refine ww_bipush C (59 : Int32) dX6_next_339 (by decide) 341 rfl ?_
                      refine ww_icmp_eq C 374 dX6_next_341 (by decide) h 344 rfl (fun h => ?_) (fun h => ?_)
                      · refine ww_iconst C (1 : Int32) dX6_next_374 (by decide) 375 rfl ?_
                        refine ww_goto C 379 dX6_next_375 (by decide) ?_
                        refine ww_istore_n C [(2, .int (1 : Int32)), (1, .int v315), (0, .ref (ad 0))] dX6_next_379 rfl (by decide) rfl 380 rfl ?_
                        refine ww_aload_n C 2 dX6_next_380 rfl rfl 381 rfl ?_
                        refine ww_iload_n C 0 dX6_next_381 rfl rfl 382 rfl ?_
                        refine ww_if_eq C 389 dX6_next_382 (by decide) h 385 rfl (fun h => ?_) (fun h => ?_)
                        · refine ww_iconst C (-1 : Int32) dX6_next_389 (by decide) 390 rfl ?_
                          refine ww_putI C cl_X6 (obM hn) 22 (by decide) rfl tyX6 tyX6_ok nmX6 rfl rfl rfl w_869 dX6_next_390 h 393 rfl (fun u328 h => ?_)
                          refine ww_aload_n C 2 dX6_next_393 rfl rfl 394 rfl ?_
                          refine ww_dup C dX6_next_394 rfl 395 rfl ?_
                          refine ww_getI C cl_X6 (obM hn) 20 (by decide) rfl w_867 dX6_next_395 398 rfl ?_
                          refine ww_iconst C (1 : Int32) dX6_next_398 (by decide) 399 rfl ?_
                          refine ww_iadd C dX6_next_399 400 rfl ?_
                          refine ww_putI C cl_X6 (obM hn) 20 (by decide) rfl tyX6 tyX6_ok nmX6 rfl rfl rfl w_867 dX6_next_400 h 403 rfl (fun u329 h => ?_)
                          exact ww_vret C dX6_next_403 hr h
                        · refine ww_iload_n C 1 dX6_next_385 rfl rfl 386 rfl ?_
                          refine ww_goto C 390 dX6_next_386 (by decide) ?_
                          refine ww_putI C cl_X6 (obM hn) 22 (by decide) rfl tyX6 tyX6_ok nmX6 rfl rfl rfl w_869 dX6_next_390 h 393 rfl (fun u330 h => ?_)
                          refine ww_aload_n C 2 dX6_next_393 rfl rfl 394 rfl ?_
                          refine ww_dup C dX6_next_394 rfl 395 rfl ?_
                          refine ww_getI C cl_X6 (obM hn) 20 (by decide) rfl w_867 dX6_next_395 398 rfl ?_
                          refine ww_iconst C (1 : Int32) dX6_next_398 (by decide) 399 rfl ?_
                          refine ww_iadd C dX6_next_399 400 rfl ?_
                          refine ww_putI C cl_X6 (obM hn) 20 (by decide) rfl tyX6 tyX6_ok nmX6 rfl rfl rfl w_867 dX6_next_400 h 403 rfl (fun u331 h => ?_)
                          exact ww_vret C dX6_next_403 hr h
                      · refine ww_iload_n C 0 dX6_next_344 rfl rfl 345 rfl ?_
                        refine ww_bipush C (43 : Int32) dX6_next_345 (by decide) 347 rfl ?_
                        refine ww_icmp_eq C 374 dX6_next_347 (by decide) h 350 rfl (fun h => ?_) (fun h => ?_)
                        · refine ww_iconst C (1 : Int32) dX6_next_374 (by decide) 375 rfl ?_
                          refine ww_goto C 379 dX6_next_375 (by decide) ?_
                          refine ww_istore_n C [(2, .int (1 : Int32)), (1, .int v315), (0, .ref (ad 0))] dX6_next_379 rfl (by decide) rfl 380 rfl ?_
                          refine ww_aload_n C 2 dX6_next_380 rfl rfl 381 rfl ?_
                          refine ww_iload_n C 0 dX6_next_381 rfl rfl 382 rfl ?_
                          refine ww_if_eq C 389 dX6_next_382 (by decide) h 385 rfl (fun h => ?_) (fun h => ?_)
                          · refine ww_iconst C (-1 : Int32) dX6_next_389 (by decide) 390 rfl ?_
                            refine ww_putI C cl_X6 (obM hn) 22 (by decide) rfl tyX6 tyX6_ok nmX6 rfl rfl rfl w_869 dX6_next_390 h 393 rfl (fun u332 h => ?_)
                            refine ww_aload_n C 2 dX6_next_393 rfl rfl 394 rfl ?_
                            refine ww_dup C dX6_next_394 rfl 395 rfl ?_
                            refine ww_getI C cl_X6 (obM hn) 20 (by decide) rfl w_867 dX6_next_395 398 rfl ?_
                            refine ww_iconst C (1 : Int32) dX6_next_398 (by decide) 399 rfl ?_
                            refine ww_iadd C dX6_next_399 400 rfl ?_
                            refine ww_putI C cl_X6 (obM hn) 20 (by decide) rfl tyX6 tyX6_ok nmX6 rfl rfl rfl w_867 dX6_next_400 h 403 rfl (fun u333 h => ?_)
                            exact ww_vret C dX6_next_403 hr h
                          · refine ww_iload_n C 1 dX6_next_385 rfl rfl 386 rfl ?_
                            refine ww_goto C 390 dX6_next_386 (by decide) ?_
                            refine ww_putI C cl_X6 (obM hn) 22 (by decide) rfl tyX6 tyX6_ok nmX6 rfl rfl rfl w_869 dX6_next_390 h 393 rfl (fun u334 h => ?_)
                            refine ww_aload_n C 2 dX6_next_393 rfl rfl 394 rfl ?_
                            refine ww_dup C dX6_next_394 rfl 395 rfl ?_
                            refine ww_getI C cl_X6 (obM hn) 20 (by decide) rfl w_867 dX6_next_395 398 rfl ?_
                            refine ww_iconst C (1 : Int32) dX6_next_398 (by decide) 399 rfl ?_
                            refine ww_iadd C dX6_next_399 400 rfl ?_
                            refine ww_putI C cl_X6 (obM hn) 20 (by decide) rfl tyX6 tyX6_ok nmX6 rfl rfl rfl w_867 dX6_next_400 h 403 rfl (fun u335 h => ?_)
                            exact ww_vret C dX6_next_403 hr h
                        · refine ww_iload_n C 0 dX6_next_350 rfl rfl 351 rfl ?_
                          refine ww_bipush C (45 : Int32) dX6_next_351 (by decide) 353 rfl ?_
                          refine ww_icmp_eq C 374 dX6_next_353 (by decide) h 356 rfl (fun h => ?_) (fun h => ?_)
                          · refine ww_iconst C (1 : Int32) dX6_next_374 (by decide) 375 rfl ?_
                            refine ww_goto C 379 dX6_next_375 (by decide) ?_
                            refine ww_istore_n C [(2, .int (1 : Int32)), (1, .int v315), (0, .ref (ad 0))] dX6_next_379 rfl (by decide) rfl 380 rfl ?_
                            refine ww_aload_n C 2 dX6_next_380 rfl rfl 381 rfl ?_
                            refine ww_iload_n C 0 dX6_next_381 rfl rfl 382 rfl ?_
                            refine ww_if_eq C 389 dX6_next_382 (by decide) h 385 rfl (fun h => ?_) (fun h => ?_)
                            · refine ww_iconst C (-1 : Int32) dX6_next_389 (by decide) 390 rfl ?_
                              refine ww_putI C cl_X6 (obM hn) 22 (by decide) rfl tyX6 tyX6_ok nmX6 rfl rfl rfl w_869 dX6_next_390 h 393 rfl (fun u336 h => ?_)
                              refine ww_aload_n C 2 dX6_next_393 rfl rfl 394 rfl ?_
                              refine ww_dup C dX6_next_394 rfl 395 rfl ?_
                              refine ww_getI C cl_X6 (obM hn) 20 (by decide) rfl w_867 dX6_next_395 398 rfl ?_
                              refine ww_iconst C (1 : Int32) dX6_next_398 (by decide) 399 rfl ?_
                              refine ww_iadd C dX6_next_399 400 rfl ?_
                              refine ww_putI C cl_X6 (obM hn) 20 (by decide) rfl tyX6 tyX6_ok nmX6 rfl rfl rfl w_867 dX6_next_400 h 403 rfl (fun u337 h => ?_)
                              exact ww_vret C dX6_next_403 hr h
                            · refine ww_iload_n C 1 dX6_next_385 rfl rfl 386 rfl ?_
                              refine ww_goto C 390 dX6_next_386 (by decide) ?_
                              refine ww_putI C cl_X6 (obM hn) 22 (by decide) rfl tyX6 tyX6_ok nmX6 rfl rfl rfl w_869 dX6_next_390 h 393 rfl (fun u338 h => ?_)
                              refine ww_aload_n C 2 dX6_next_393 rfl rfl 394 rfl ?_
                              refine ww_dup C dX6_next_394 rfl 395 rfl ?_
                              refine ww_getI C cl_X6 (obM hn) 20 (by decide) rfl w_867 dX6_next_395 398 rfl ?_
                              refine ww_iconst C (1 : Int32) dX6_next_398 (by decide) 399 rfl ?_
                              refine ww_iadd C dX6_next_399 400 rfl ?_
                              refine ww_putI C cl_X6 (obM hn) 20 (by decide) rfl tyX6 tyX6_ok nmX6 rfl rfl rfl w_867 dX6_next_400 h 403 rfl (fun u339 h => ?_)
                              exact ww_vret C dX6_next_403 hr h
                          · refine ww_iload_n C 0 dX6_next_356 rfl rfl 357 rfl ?_
                            refine ww_bipush C (42 : Int32) dX6_next_357 (by decide) 359 rfl ?_
                            refine ww_icmp_eq C 374 dX6_next_359 (by decide) h 362 rfl (fun h => ?_) (fun h => ?_)
                            · refine ww_iconst C (1 : Int32) dX6_next_374 (by decide) 375 rfl ?_
                              refine ww_goto C 379 dX6_next_375 (by decide) ?_
                              refine ww_istore_n C [(2, .int (1 : Int32)), (1, .int v315), (0, .ref (ad 0))] dX6_next_379 rfl (by decide) rfl 380 rfl ?_
                              refine ww_aload_n C 2 dX6_next_380 rfl rfl 381 rfl ?_
                              refine ww_iload_n C 0 dX6_next_381 rfl rfl 382 rfl ?_
                              refine ww_if_eq C 389 dX6_next_382 (by decide) h 385 rfl (fun h => ?_) (fun h => ?_)
                              · refine ww_iconst C (-1 : Int32) dX6_next_389 (by decide) 390 rfl ?_
                                refine ww_putI C cl_X6 (obM hn) 22 (by decide) rfl tyX6 tyX6_ok nmX6 rfl rfl rfl w_869 dX6_next_390 h 393 rfl (fun u340 h => ?_)
                                refine ww_aload_n C 2 dX6_next_393 rfl rfl 394 rfl ?_
                                refine ww_dup C dX6_next_394 rfl 395 rfl ?_
                                refine ww_getI C cl_X6 (obM hn) 20 (by decide) rfl w_867 dX6_next_395 398 rfl ?_
                                refine ww_iconst C (1 : Int32) dX6_next_398 (by decide) 399 rfl ?_
                                refine ww_iadd C dX6_next_399 400 rfl ?_
                                refine ww_putI C cl_X6 (obM hn) 20 (by decide) rfl tyX6 tyX6_ok nmX6 rfl rfl rfl w_867 dX6_next_400 h 403 rfl (fun u341 h => ?_)
                                exact ww_vret C dX6_next_403 hr h
                              · refine ww_iload_n C 1 dX6_next_385 rfl rfl 386 rfl ?_
                                refine ww_goto C 390 dX6_next_386 (by decide) ?_
                                refine ww_putI C cl_X6 (obM hn) 22 (by decide) rfl tyX6 tyX6_ok nmX6 rfl rfl rfl w_869 dX6_next_390 h 393 rfl (fun u342 h => ?_)
                                refine ww_aload_n C 2 dX6_next_393 rfl rfl 394 rfl ?_
                                refine ww_dup C dX6_next_394 rfl 395 rfl ?_
                                refine ww_getI C cl_X6 (obM hn) 20 (by decide) rfl w_867 dX6_next_395 398 rfl ?_
                                refine ww_iconst C (1 : Int32) dX6_next_398 (by decide) 399 rfl ?_
                                refine ww_iadd C dX6_next_399 400 rfl ?_
                                refine ww_putI C cl_X6 (obM hn) 20 (by decide) rfl tyX6 tyX6_ok nmX6 rfl rfl rfl w_867 dX6_next_400 h 403 rfl (fun u343 h => ?_)
                                exact ww_vret C dX6_next_403 hr h
                            · refine ww_iload_n C 0 dX6_next_362 rfl rfl 363 rfl ?_
                              refine ww_bipush C (60 : Int32) dX6_next_363 (by decide) 365 rfl ?_
                              refine ww_icmp_eq C 374 dX6_next_365 (by decide) h 368 rfl (fun h => ?_) (fun h => ?_)
                              · refine ww_iconst C (1 : Int32) dX6_next_374 (by decide) 375 rfl ?_
                                refine ww_goto C 379 dX6_next_375 (by decide) ?_
                                refine ww_istore_n C [(2, .int (1 : Int32)), (1, .int v315), (0, .ref (ad 0))] dX6_next_379 rfl (by decide) rfl 380 rfl ?_
                                refine ww_aload_n C 2 dX6_next_380 rfl rfl 381 rfl ?_
                                refine ww_iload_n C 0 dX6_next_381 rfl rfl 382 rfl ?_
                                refine ww_if_eq C 389 dX6_next_382 (by decide) h 385 rfl (fun h => ?_) (fun h => ?_)
                                · refine ww_iconst C (-1 : Int32) dX6_next_389 (by decide) 390 rfl ?_
                                  refine ww_putI C cl_X6 (obM hn) 22 (by decide) rfl tyX6 tyX6_ok nmX6 rfl rfl rfl w_869 dX6_next_390 h 393 rfl (fun u344 h => ?_)
                                  refine ww_aload_n C 2 dX6_next_393 rfl rfl 394 rfl ?_
                                  refine ww_dup C dX6_next_394 rfl 395 rfl ?_
                                  refine ww_getI C cl_X6 (obM hn) 20 (by decide) rfl w_867 dX6_next_395 398 rfl ?_
                                  refine ww_iconst C (1 : Int32) dX6_next_398 (by decide) 399 rfl ?_
                                  refine ww_iadd C dX6_next_399 400 rfl ?_
                                  refine ww_putI C cl_X6 (obM hn) 20 (by decide) rfl tyX6 tyX6_ok nmX6 rfl rfl rfl w_867 dX6_next_400 h 403 rfl (fun u345 h => ?_)
                                  exact ww_vret C dX6_next_403 hr h
                                · refine ww_iload_n C 1 dX6_next_385 rfl rfl 386 rfl ?_
                                  refine ww_goto C 390 dX6_next_386 (by decide) ?_
                                  refine ww_putI C cl_X6 (obM hn) 22 (by decide) rfl tyX6 tyX6_ok nmX6 rfl rfl rfl w_869 dX6_next_390 h 393 rfl (fun u346 h => ?_)
                                  refine ww_aload_n C 2 dX6_next_393 rfl rfl 394 rfl ?_
                                  refine ww_dup C dX6_next_394 rfl 395 rfl ?_
                                  refine ww_getI C cl_X6 (obM hn) 20 (by decide) rfl w_867 dX6_next_395 398 rfl ?_
                                  refine ww_iconst C (1 : Int32) dX6_next_398 (by decide) 399 rfl ?_
                                  refine ww_iadd C dX6_next_399 400 rfl ?_
                                  refine ww_putI C cl_X6 (obM hn) 20 (by decide) rfl tyX6 tyX6_ok nmX6 rfl rfl rfl w_867 dX6_next_400 h 403 rfl (fun u347 h => ?_)
                                  exact ww_vret C dX6_next_403 hr h
                              · refine ww_iload_n C 0 dX6_next_368 rfl rfl 369 rfl ?_
                                refine ww_bipush C (61 : Int32) dX6_next_369 (by decide) 371 rfl ?_
                                refine ww_icmp_ne C 378 dX6_next_371 (by decide) h 374 rfl (fun h => ?_) (fun h => ?_)
                                · refine ww_iconst C (0 : Int32) dX6_next_378 (by decide) 379 rfl ?_
                                  refine ww_istore_n C [(2, .int (0 : Int32)), (1, .int v315), (0, .ref (ad 0))] dX6_next_379 rfl (by decide) rfl 380 rfl ?_
                                  refine ww_aload_n C 2 dX6_next_380 rfl rfl 381 rfl ?_
                                  refine ww_iload_n C 0 dX6_next_381 rfl rfl 382 rfl ?_
                                  refine ww_if_eq C 389 dX6_next_382 (by decide) h 385 rfl (fun h => ?_) (fun h => ?_)
                                  · refine ww_iconst C (-1 : Int32) dX6_next_389 (by decide) 390 rfl ?_
                                    refine ww_putI C cl_X6 (obM hn) 22 (by decide) rfl tyX6 tyX6_ok nmX6 rfl rfl rfl w_869 dX6_next_390 h 393 rfl (fun u348 h => ?_)
                                    refine ww_aload_n C 2 dX6_next_393 rfl rfl 394 rfl ?_
                                    refine ww_dup C dX6_next_394 rfl 395 rfl ?_
                                    refine ww_getI C cl_X6 (obM hn) 20 (by decide) rfl w_867 dX6_next_395 398 rfl ?_
                                    refine ww_iconst C (1 : Int32) dX6_next_398 (by decide) 399 rfl ?_
                                    refine ww_iadd C dX6_next_399 400 rfl ?_
                                    refine ww_putI C cl_X6 (obM hn) 20 (by decide) rfl tyX6 tyX6_ok nmX6 rfl rfl rfl w_867 dX6_next_400 h 403 rfl (fun u349 h => ?_)
                                    exact ww_vret C dX6_next_403 hr h
                                  · refine ww_iload_n C 1 dX6_next_385 rfl rfl 386 rfl ?_
                                    refine ww_goto C 390 dX6_next_386 (by decide) ?_
                                    refine ww_putI C cl_X6 (obM hn) 22 (by decide) rfl tyX6 tyX6_ok nmX6 rfl rfl rfl w_869 dX6_next_390 h 393 rfl (fun u350 h => ?_)
                                    refine ww_aload_n C 2 dX6_next_393 rfl rfl 394 rfl ?_
                                    refine ww_dup C dX6_next_394 rfl 395 rfl ?_
                                    refine ww_getI C cl_X6 (obM hn) 20 (by decide) rfl w_867 dX6_next_395 398 rfl ?_
                                    refine ww_iconst C (1 : Int32) dX6_next_398 (by decide) 399 rfl ?_
                                    refine ww_iadd C dX6_next_399 400 rfl ?_
                                    refine ww_putI C cl_X6 (obM hn) 20 (by decide) rfl tyX6 tyX6_ok nmX6 rfl rfl rfl w_867 dX6_next_400 h 403 rfl (fun u351 h => ?_)
                                    exact ww_vret C dX6_next_403 hr h
                                · refine ww_iconst C (1 : Int32) dX6_next_374 (by decide) 375 rfl ?_
                                  refine ww_goto C 379 dX6_next_375 (by decide) ?_
                                  refine ww_istore_n C [(2, .int (1 : Int32)), (1, .int v315), (0, .ref (ad 0))] dX6_next_379 rfl (by decide) rfl 380 rfl ?_
                                  refine ww_aload_n C 2 dX6_next_380 rfl rfl 381 rfl ?_
                                  refine ww_iload_n C 0 dX6_next_381 rfl rfl 382 rfl ?_
                                  refine ww_if_eq C 389 dX6_next_382 (by decide) h 385 rfl (fun h => ?_) (fun h => ?_)
                                  · refine ww_iconst C (-1 : Int32) dX6_next_389 (by decide) 390 rfl ?_
                                    refine ww_putI C cl_X6 (obM hn) 22 (by decide) rfl tyX6 tyX6_ok nmX6 rfl rfl rfl w_869 dX6_next_390 h 393 rfl (fun u352 h => ?_)
                                    refine ww_aload_n C 2 dX6_next_393 rfl rfl 394 rfl ?_
                                    refine ww_dup C dX6_next_394 rfl 395 rfl ?_
                                    refine ww_getI C cl_X6 (obM hn) 20 (by decide) rfl w_867 dX6_next_395 398 rfl ?_
                                    refine ww_iconst C (1 : Int32) dX6_next_398 (by decide) 399 rfl ?_
                                    refine ww_iadd C dX6_next_399 400 rfl ?_
                                    refine ww_putI C cl_X6 (obM hn) 20 (by decide) rfl tyX6 tyX6_ok nmX6 rfl rfl rfl w_867 dX6_next_400 h 403 rfl (fun u353 h => ?_)
                                    exact ww_vret C dX6_next_403 hr h
                                  · refine ww_iload_n C 1 dX6_next_385 rfl rfl 386 rfl ?_
                                    refine ww_goto C 390 dX6_next_386 (by decide) ?_
                                    refine ww_putI C cl_X6 (obM hn) 22 (by decide) rfl tyX6 tyX6_ok nmX6 rfl rfl rfl w_869 dX6_next_390 h 393 rfl (fun u354 h => ?_)
                                    refine ww_aload_n C 2 dX6_next_393 rfl rfl 394 rfl ?_
                                    refine ww_dup C dX6_next_394 rfl 395 rfl ?_
                                    refine ww_getI C cl_X6 (obM hn) 20 (by decide) rfl w_867 dX6_next_395 398 rfl ?_
                                    refine ww_iconst C (1 : Int32) dX6_next_398 (by decide) 399 rfl ?_
                                    refine ww_iadd C dX6_next_399 400 rfl ?_
                                    refine ww_putI C cl_X6 (obM hn) 20 (by decide) rfl tyX6 tyX6_ok nmX6 rfl rfl rfl w_867 dX6_next_400 h 403 rfl (fun u355 h => ?_)
                                    exact ww_vret C dX6_next_403 hr h
                · refine ww_iconst C (0 : Int32) dX6_next_228 (by decide) 229 rfl ?_
                  refine ww_istore_n C [(2, .int (0 : Int32)), (1, .int v315), (0, .ref (ad 0))] dX6_next_229 rfl (by decide) rfl 230 rfl ?_
                  exact ww_sub [2, 0] rfl (L230h N _ _ h)
              · exact ww_sub [1] rfl (L103h N _ h)
            · exact ww_vret C dX6_next_81 hr h
          · refine ww_aload_n C 0 dX6_next_39 rfl rfl 40 rfl ?_
            refine ww_dup C dX6_next_40 rfl 41 rfl ?_
            refine ww_getI C cl_X6 (obM hn) 20 (by decide) rfl w_867 dX6_next_41 44 rfl ?_
            refine ww_iconst C (1 : Int32) dX6_next_44 (by decide) 45 rfl ?_
            refine ww_iadd C dX6_next_45 46 rfl ?_
            refine ww_putI C cl_X6 (obM hn) 20 (by decide) rfl tyX6 tyX6_ok nmX6 rfl rfl rfl w_867 dX6_next_46 h 49 rfl (fun u356 h => ?_)
            refine ww_goto C 0 dX6_next_49 (by decide) ?_
            exact ww_sub [0] rfl (ih _ h)
  rw [X6_next] at h
  exact ww_sub [0] rfl (L0h N _ h)

set_option maxRecDepth 100000 in
set_option maxHeartbeats 4000000 in
theorem k_X6_rank {l : Launch} {D : va_G} {ad : Nat → Nat} {cA : Nat → ClassId} {tys : List (ClassId × FieldType)} {n : Nat} {sa : Nat → Nat} (hn : 20 ≤ n) {N : Nat} {g : Mem} {a1 : Int32} {r : Int32} {g1 : Mem} (h : X6_rank N a1 g = some (r, g1)) : CTi l yX6_rank (wsm yX6_rank cX6_rank 1 (some .int)) 1 D YM ad cA tys n sa g [.int a1] r g1 := by
  refine ct_of RX6 rfl (by decide +kernel) (Nat.le_of_ble_eq_true rfl) rfl (fun sz => PBi D YM ad cA n r g1 sz) ?_
  intro p e R s m args below meth c C hr
  rw [X6_rank] at h
  refine ww_iload_n C 0 dX6_rank_0 rfl rfl 1 rfl ?_
  refine ww_if_ne C 8 dX6_rank_1 (by decide) h 4 rfl (fun h => ?_) (fun h => ?_)
  · refine ww_iload_n C 0 dX6_rank_8 rfl rfl 9 rfl ?_
    refine ww_bipush C (11 : Int32) dX6_rank_9 (by decide) 11 rfl ?_
    refine ww_icmp_ne C 18 dX6_rank_11 (by decide) h 14 rfl (fun h => ?_) (fun h => ?_)
    · refine ww_iload_n C 0 dX6_rank_18 rfl rfl 19 rfl ?_
      refine ww_bipush C (12 : Int32) dX6_rank_19 (by decide) 21 rfl ?_
      refine ww_icmp_ne C 28 dX6_rank_21 (by decide) h 24 rfl (fun h => ?_) (fun h => ?_)
      · refine ww_iload_n C 0 dX6_rank_28 rfl rfl 29 rfl ?_
        refine ww_bipush C (13 : Int32) dX6_rank_29 (by decide) 31 rfl ?_
        refine ww_icmp_ne C 38 dX6_rank_31 (by decide) h 34 rfl (fun h => ?_) (fun h => ?_)
        · refine ww_iload_n C 0 dX6_rank_38 rfl rfl 39 rfl ?_
          refine ww_bipush C (15 : Int32) dX6_rank_39 (by decide) 41 rfl ?_
          refine ww_icmp_gt C 48 dX6_rank_41 (by decide) h 44 rfl (fun h => ?_) (fun h => ?_)
          · refine ww_iload_n C 0 dX6_rank_48 rfl rfl 49 rfl ?_
            refine ww_bipush C (17 : Int32) dX6_rank_49 (by decide) 51 rfl ?_
            refine ww_icmp_gt C 58 dX6_rank_51 (by decide) h 54 rfl (fun h => ?_) (fun h => ?_)
            · refine ww_iload_n C 0 dX6_rank_58 rfl rfl 59 rfl ?_
              refine ww_bipush C (18 : Int32) dX6_rank_59 (by decide) 61 rfl ?_
              refine ww_icmp_ne C 69 dX6_rank_61 (by decide) h 64 rfl (fun h => ?_) (fun h => ?_)
              · refine ww_bipush C (7 : Int32) dX6_rank_69 (by decide) 71 rfl ?_
                exact ww_iret C dX6_rank_71 hr h
              · refine ww_bipush C (6 : Int32) dX6_rank_64 (by decide) 66 rfl ?_
                refine ww_goto C 71 dX6_rank_66 (by decide) ?_
                exact ww_iret C dX6_rank_71 hr h
            · refine ww_iconst C (5 : Int32) dX6_rank_54 (by decide) 55 rfl ?_
              refine ww_goto C 71 dX6_rank_55 (by decide) ?_
              exact ww_iret C dX6_rank_71 hr h
          · refine ww_iconst C (4 : Int32) dX6_rank_44 (by decide) 45 rfl ?_
            refine ww_goto C 71 dX6_rank_45 (by decide) ?_
            exact ww_iret C dX6_rank_71 hr h
        · refine ww_iconst C (3 : Int32) dX6_rank_34 (by decide) 35 rfl ?_
          refine ww_goto C 71 dX6_rank_35 (by decide) ?_
          exact ww_iret C dX6_rank_71 hr h
      · refine ww_iconst C (2 : Int32) dX6_rank_24 (by decide) 25 rfl ?_
        refine ww_goto C 71 dX6_rank_25 (by decide) ?_
        exact ww_iret C dX6_rank_71 hr h
    · refine ww_iconst C (1 : Int32) dX6_rank_14 (by decide) 15 rfl ?_
      refine ww_goto C 71 dX6_rank_15 (by decide) ?_
      exact ww_iret C dX6_rank_71 hr h
  · refine ww_iconst C (0 : Int32) dX6_rank_4 (by decide) 5 rfl ?_
    refine ww_goto C 71 dX6_rank_5 (by decide) ?_
    exact ww_iret C dX6_rank_71 hr h

set_option maxRecDepth 100000 in
set_option maxHeartbeats 4000000 in
theorem k_X6_puts {l : Launch} {D : va_G} {ad : Nat → Nat} {cA : Nat → ClassId} {tys : List (ClassId × FieldType)} {n : Nat} {sa : Nat → Nat} (hn : 20 ≤ n) {N : Nat} {g : Mem} {a1 : Int32} {r : Int32} {g1 : Mem} (h : X6_puts N a1 g = some (r, g1)) : CTv l yX6_puts (wsm yX6_puts cX6_puts 2 none) 1 D YM ad cA tys n sa g [.ref (ad 0), .int a1] g1 := by
  refine ct_of RX6 rfl (by decide +kernel) (Nat.le_of_ble_eq_true rfl) rfl (fun sz => PBv D YM ad cA n g1 sz) ?_
  intro p e R s m args below meth c C hr
  rw [X6_puts] at h
  refine ww_aload_n C 0 dX6_puts_0 rfl rfl 1 rfl ?_
  refine ww_getS C cl_X6 (obM hn) 9 (by decide) rfl 7 rfl w_856 dX6_puts_1 4 rfl ?_
  refine ww_sipush C (200 : Int32) dX6_puts_4 (by decide) 7 rfl ?_
  refine ww_aload_n C 0 dX6_puts_7 rfl rfl 8 rfl ?_
  refine ww_getI C cl_X6 (obM hn) 11 (by decide) rfl w_858 dX6_puts_8 11 rfl ?_
  refine ww_imul C dX6_puts_11 12 rfl ?_
  refine ww_aload_n C 0 dX6_puts_12 rfl rfl 13 rfl ?_
  refine ww_getI C cl_X6 (obM hn) 28 (by decide) rfl w_875 dX6_puts_13 16 rfl ?_
  refine ww_iadd C dX6_puts_16 17 rfl ?_
  refine ww_iload_n C 1 dX6_puts_17 rfl rfl 18 rfl ?_
  refine ww_iast C (iaM hn 7 1200 (by decide) (by decide) rfl) dX6_puts_18 h 19 rfl (fun u3 h => ?_)
  refine ww_aload_n C 0 dX6_puts_19 rfl rfl 20 rfl ?_
  refine ww_dup C dX6_puts_20 rfl 21 rfl ?_
  refine ww_getI C cl_X6 (obM hn) 28 (by decide) rfl w_875 dX6_puts_21 24 rfl ?_
  refine ww_iconst C (1 : Int32) dX6_puts_24 (by decide) 25 rfl ?_
  refine ww_iadd C dX6_puts_25 26 rfl ?_
  refine ww_putI C cl_X6 (obM hn) 28 (by decide) rfl tyX6 tyX6_ok nmX6 rfl rfl rfl w_875 dX6_puts_26 h 29 rfl (fun u4 h => ?_)
  exact ww_vret C dX6_puts_29 hr h

set_option maxRecDepth 100000 in
set_option maxHeartbeats 4000000 in
theorem k_X6_unwinds {l : Launch} {D : va_G} {ad : Nat → Nat} {cA : Nat → ClassId} {tys : List (ClassId × FieldType)} {n : Nat} {sa : Nat → Nat} (hn : 20 ≤ n) {N : Nat} {g : Mem} {a1 : Int32} {r : Int32} {g1 : Mem} (h : X6_unwinds N a1 g = some (r, g1)) : CTv l yX6_unwinds (wsm yX6_unwinds cX6_unwinds 3 none) 2 D YM ad cA tys n sa g [.ref (ad 0), .int a1] g1 := by
  refine ct_of RX6 rfl (by decide +kernel) (Nat.le_of_ble_eq_true rfl) rfl (fun sz => PBv D YM ad cA n g1 sz) ?_
  intro p e R s m args below meth c C hr
  have L0h : ∀ (fu : Nat), (∀ (g : Mem), X6_unwinds_L0 N a1 fu g = some (r, g1) → WW p l e R s m args below meth c 3 D YM ad cA n (MQ below (PBv D YM ad cA n g1 s.heap.size) args s 0 0 (AA n ad s.heap.size)) g 0 [(0, .ref (ad 0)), (1, .int a1)] []) := by
    intro fu
    induction fu with
    | zero => intro g h; cases h
    | succ fu ih =>
      intro g h
      rw [X6_unwinds_L0] at h
      refine ww_aload_n C 0 dX6_unwinds_0 rfl rfl 1 rfl ?_
      refine ww_getI C cl_X6 (obM hn) 26 (by decide) rfl w_873 dX6_unwinds_1 4 rfl ?_
      refine ww_if_le C 79 dX6_unwinds_4 (by decide) h 7 rfl (fun h => ?_) (fun h => ?_)
      · exact ww_vret C dX6_unwinds_79 hr h
      · refine ww_aload_n C 0 dX6_unwinds_7 rfl rfl 8 rfl ?_
        refine ww_getS C cl_X6 (obM hn) 25 (by decide) rfl 16 rfl w_872 dX6_unwinds_8 11 rfl ?_
        refine ww_aload_n C 0 dX6_unwinds_11 rfl rfl 12 rfl ?_
        refine ww_getI C cl_X6 (obM hn) 26 (by decide) rfl w_873 dX6_unwinds_12 15 rfl ?_
        refine ww_iconst C (1 : Int32) dX6_unwinds_15 (by decide) 16 rfl ?_
        refine ww_isub C dX6_unwinds_16 17 rfl ?_
        refine ww_iald C (iaM hn 16 200 (by decide) (by decide) rfl) dX6_unwinds_17 h 18 rfl (fun h => ?_)
        refine ww_callSi C (As := [.int (g.1 16 ((g.1 0 26) - (1 : Int32)).toNatClampNeg)]) (st := []) h (fun _ _ hF => k_X6_rank hn hF) w_828 cm_X6_rank (by decide) (by decide) rfl rfl (Nat.le_of_ble_eq_true rfl) dX6_unwinds_18 21 rfl (fun v28 u27 h => ?_)
        refine ww_iload_n C 1 dX6_unwinds_21 rfl rfl 22 rfl ?_
        refine ww_icmp_lt C 79 dX6_unwinds_22 (by decide) h 25 rfl (fun h => ?_) (fun h => ?_)
        · exact ww_vret C dX6_unwinds_79 hr h
        · refine ww_aload_n C 0 dX6_unwinds_25 rfl rfl 26 rfl ?_
          refine ww_dup C dX6_unwinds_26 rfl 27 rfl ?_
          refine ww_getI C cl_X6 (obM hn) 26 (by decide) rfl w_873 dX6_unwinds_27 30 rfl ?_
          refine ww_iconst C (1 : Int32) dX6_unwinds_30 (by decide) 31 rfl ?_
          refine ww_isub C dX6_unwinds_31 32 rfl ?_
          refine ww_putI C cl_X6 (obM hn) 26 (by decide) rfl tyX6 tyX6_ok nmX6 rfl rfl rfl w_873 dX6_unwinds_32 h 35 rfl (fun u29 h => ?_)
          refine ww_aload_n C 0 dX6_unwinds_35 rfl rfl 36 rfl ?_
          refine ww_getS C cl_X6 (obM hn) 25 (by decide) rfl 16 rfl w_872 dX6_unwinds_36 39 rfl ?_
          refine ww_aload_n C 0 dX6_unwinds_39 rfl rfl 40 rfl ?_
          refine ww_getI C cl_X6 (obM hn) 26 (by decide) rfl w_873 dX6_unwinds_40 43 rfl ?_
          refine ww_iald C (iaM hn 16 200 (by decide) (by decide) rfl) dX6_unwinds_43 h 44 rfl (fun h => ?_)
          refine ww_bi h (fun v30 h => ?_)
          refine ww_istore_n C [(2, .int v30), (0, .ref (ad 0)), (1, .int a1)] dX6_unwinds_44 rfl (by decide) rfl 45 rfl ?_
          refine ww_aload_n C 1 dX6_unwinds_45 rfl rfl 46 rfl ?_
          refine ww_dup C dX6_unwinds_46 rfl 47 rfl ?_
          refine ww_getI C cl_X6 (obM hn) 27 (by decide) rfl w_874 dX6_unwinds_47 50 rfl ?_
          refine ww_iload_n C 0 dX6_unwinds_50 rfl rfl 51 rfl ?_
          refine ww_bipush C (13 : Int32) dX6_unwinds_51 (by decide) 53 rfl ?_
          refine ww_icmp_eq C 62 dX6_unwinds_53 (by decide) h 56 rfl (fun h => ?_) (fun h => ?_)
          · refine ww_iconst C (1 : Int32) dX6_unwinds_62 (by decide) 63 rfl ?_
            refine ww_goto C 67 dX6_unwinds_63 (by decide) ?_
            refine ww_isub C dX6_unwinds_67 68 rfl ?_
            refine ww_putI C cl_X6 (obM hn) 27 (by decide) rfl tyX6 tyX6_ok nmX6 rfl rfl rfl w_874 dX6_unwinds_68 h 71 rfl (fun u31 h => ?_)
            refine ww_aload_n C 1 dX6_unwinds_71 rfl rfl 72 rfl ?_
            refine ww_iload_n C 0 dX6_unwinds_72 rfl rfl 73 rfl ?_
            refine ww_callVv C (As := [.int v30]) (st := []) h cl_X6.1 (obM hn) (fun _ _ hF => k_X6_puts hn hF) w_820 cm_X6_puts (by decide) (by decide) rfl rfl (Nat.le_of_ble_eq_true rfl) dX6_unwinds_73 76 rfl (fun _ u32 h => ?_)
            refine ww_goto C 0 dX6_unwinds_76 (by decide) ?_
            exact ww_sub [1, 2] rfl (ih _ h)
          · refine ww_iload_n C 0 dX6_unwinds_56 rfl rfl 57 rfl ?_
            refine ww_bipush C (19 : Int32) dX6_unwinds_57 (by decide) 59 rfl ?_
            refine ww_icmp_ne C 66 dX6_unwinds_59 (by decide) h 62 rfl (fun h => ?_) (fun h => ?_)
            · refine ww_iconst C (0 : Int32) dX6_unwinds_66 (by decide) 67 rfl ?_
              refine ww_isub C dX6_unwinds_67 68 rfl ?_
              refine ww_putI C cl_X6 (obM hn) 27 (by decide) rfl tyX6 tyX6_ok nmX6 rfl rfl rfl w_874 dX6_unwinds_68 h 71 rfl (fun u34 h => ?_)
              refine ww_aload_n C 1 dX6_unwinds_71 rfl rfl 72 rfl ?_
              refine ww_iload_n C 0 dX6_unwinds_72 rfl rfl 73 rfl ?_
              refine ww_callVv C (As := [.int v30]) (st := []) h cl_X6.1 (obM hn) (fun _ _ hF => k_X6_puts hn hF) w_820 cm_X6_puts (by decide) (by decide) rfl rfl (Nat.le_of_ble_eq_true rfl) dX6_unwinds_73 76 rfl (fun _ u35 h => ?_)
              refine ww_goto C 0 dX6_unwinds_76 (by decide) ?_
              exact ww_sub [1, 2] rfl (ih _ h)
            · refine ww_iconst C (1 : Int32) dX6_unwinds_62 (by decide) 63 rfl ?_
              refine ww_goto C 67 dX6_unwinds_63 (by decide) ?_
              refine ww_isub C dX6_unwinds_67 68 rfl ?_
              refine ww_putI C cl_X6 (obM hn) 27 (by decide) rfl tyX6 tyX6_ok nmX6 rfl rfl rfl w_874 dX6_unwinds_68 h 71 rfl (fun u37 h => ?_)
              refine ww_aload_n C 1 dX6_unwinds_71 rfl rfl 72 rfl ?_
              refine ww_iload_n C 0 dX6_unwinds_72 rfl rfl 73 rfl ?_
              refine ww_callVv C (As := [.int v30]) (st := []) h cl_X6.1 (obM hn) (fun _ _ hF => k_X6_puts hn hF) w_820 cm_X6_puts (by decide) (by decide) rfl rfl (Nat.le_of_ble_eq_true rfl) dX6_unwinds_73 76 rfl (fun _ u38 h => ?_)
              refine ww_goto C 0 dX6_unwinds_76 (by decide) ?_
              exact ww_sub [1, 2] rfl (ih _ h)
  rw [X6_unwinds] at h
  exact ww_sub [0, 1] rfl (L0h N _ h)

set_option maxRecDepth 100000 in
set_option maxHeartbeats 4000000 in
theorem k_X6_holds {l : Launch} {D : va_G} {ad : Nat → Nat} {cA : Nat → ClassId} {tys : List (ClassId × FieldType)} {n : Nat} {sa : Nat → Nat} (hn : 20 ≤ n) {N : Nat} {g : Mem} {a1 : Int32} {r : Int32} {g1 : Mem} (h : X6_holds N a1 g = some (r, g1)) : CTv l yX6_holds (wsm yX6_holds cX6_holds 2 none) 1 D YM ad cA tys n sa g [.ref (ad 0), .int a1] g1 := by
  refine ct_of RX6 rfl (by decide +kernel) (Nat.le_of_ble_eq_true rfl) rfl (fun sz => PBv D YM ad cA n g1 sz) ?_
  intro p e R s m args below meth c C hr
  rw [X6_holds] at h
  refine ww_aload_n C 0 dX6_holds_0 rfl rfl 1 rfl ?_
  refine ww_getS C cl_X6 (obM hn) 25 (by decide) rfl 16 rfl w_872 dX6_holds_1 4 rfl ?_
  refine ww_aload_n C 0 dX6_holds_4 rfl rfl 5 rfl ?_
  refine ww_getI C cl_X6 (obM hn) 26 (by decide) rfl w_873 dX6_holds_5 8 rfl ?_
  refine ww_iload_n C 1 dX6_holds_8 rfl rfl 9 rfl ?_
  refine ww_iast C (iaM hn 16 200 (by decide) (by decide) rfl) dX6_holds_9 h 10 rfl (fun u3 h => ?_)
  refine ww_aload_n C 0 dX6_holds_10 rfl rfl 11 rfl ?_
  refine ww_dup C dX6_holds_11 rfl 12 rfl ?_
  refine ww_getI C cl_X6 (obM hn) 26 (by decide) rfl w_873 dX6_holds_12 15 rfl ?_
  refine ww_iconst C (1 : Int32) dX6_holds_15 (by decide) 16 rfl ?_
  refine ww_iadd C dX6_holds_16 17 rfl ?_
  refine ww_putI C cl_X6 (obM hn) 26 (by decide) rfl tyX6 tyX6_ok nmX6 rfl rfl rfl w_873 dX6_holds_17 h 20 rfl (fun u4 h => ?_)
  exact ww_vret C dX6_holds_20 hr h

set_option maxRecDepth 100000 in
set_option maxHeartbeats 4000000 in
theorem k_X6_opensOne {l : Launch} {D : va_G} {ad : Nat → Nat} {cA : Nat → ClassId} {tys : List (ClassId × FieldType)} {n : Nat} {sa : Nat → Nat} (hn : 20 ≤ n) {N : Nat} {g : Mem} {a1 : Int32} {r : Int32} {g1 : Mem} (h : X6_opensOne N a1 g = some (r, g1)) : CTi l yX6_opensOne (wsm yX6_opensOne cX6_opensOne 2 (some .boolean)) 2 D YM ad cA tys n sa g [.ref (ad 0), .int a1] r g1 := by
  refine ct_of RX6 rfl (by decide +kernel) (Nat.le_of_ble_eq_true rfl) rfl (fun sz => PBi D YM ad cA n r g1 sz) ?_
  intro p e R s m args below meth c C hr
  rw [X6_opensOne] at h
  refine ww_aload_n C 0 dX6_opensOne_0 rfl rfl 1 rfl ?_
  refine ww_getI C cl_X6 (obM hn) 27 (by decide) rfl w_874 dX6_opensOne_1 4 rfl ?_
  refine ww_iconst C (5 : Int32) dX6_opensOne_4 (by decide) 5 rfl ?_
  refine ww_icmp_ne C 10 dX6_opensOne_5 (by decide) h 8 rfl (fun h => ?_) (fun h => ?_)
  · refine ww_aload_n C 0 dX6_opensOne_10 rfl rfl 11 rfl ?_
    refine ww_dup C dX6_opensOne_11 rfl 12 rfl ?_
    refine ww_getI C cl_X6 (obM hn) 27 (by decide) rfl w_874 dX6_opensOne_12 15 rfl ?_
    refine ww_iconst C (1 : Int32) dX6_opensOne_15 (by decide) 16 rfl ?_
    refine ww_iadd C dX6_opensOne_16 17 rfl ?_
    refine ww_putI C cl_X6 (obM hn) 27 (by decide) rfl tyX6 tyX6_ok nmX6 rfl rfl rfl w_874 dX6_opensOne_17 h 20 rfl (fun u4 h => ?_)
    refine ww_aload_n C 0 dX6_opensOne_20 rfl rfl 21 rfl ?_
    refine ww_iload_n C 1 dX6_opensOne_21 rfl rfl 22 rfl ?_
    refine ww_callVv C (As := [.int a1]) (st := []) h cl_X6.1 (obM hn) (fun _ _ hF => k_X6_holds hn hF) w_835 cm_X6_holds (by decide) (by decide) rfl rfl (Nat.le_of_ble_eq_true rfl) dX6_opensOne_22 25 rfl (fun _ u5 h => ?_)
    refine ww_iconst C (1 : Int32) dX6_opensOne_25 (by decide) 26 rfl ?_
    exact ww_zret C dX6_opensOne_26 hr rfl h
  · refine ww_iconst C (0 : Int32) dX6_opensOne_8 (by decide) 9 rfl ?_
    exact ww_zret C dX6_opensOne_9 hr rfl h

set_option maxRecDepth 100000 in
set_option maxHeartbeats 4000000 in
theorem k_X6_between {l : Launch} {D : va_G} {ad : Nat → Nat} {cA : Nat → ClassId} {tys : List (ClassId × FieldType)} {n : Nat} {sa : Nat → Nat} (hn : 20 ≤ n) {N : Nat} {g : Mem} {a1 : Int32} {r : Int32} {g1 : Mem} (h : X6_between N a1 g = some (r, g1)) : CTi l yX6_between (wsm yX6_between cX6_between 2 (some .boolean)) 3 D YM ad cA tys n sa g [.ref (ad 0), .int a1] r g1 := by
  refine ct_of RX6 rfl (by decide +kernel) (Nat.le_of_ble_eq_true rfl) rfl (fun sz => PBi D YM ad cA n r g1 sz) ?_
  intro p e R s m args below meth c C hr
  rw [X6_between] at h
  refine ww_aload_n C 0 dX6_between_0 rfl rfl 1 rfl ?_
  refine ww_iload_n C 1 dX6_between_1 rfl rfl 2 rfl ?_
  refine ww_callSi C (As := [.int a1]) (st := [.ref (ad 0)]) h (fun _ _ hF => k_X6_rank hn hF) w_828 cm_X6_rank (by decide) (by decide) rfl rfl (Nat.le_of_ble_eq_true rfl) dX6_between_2 5 rfl (fun v30 u29 h => ?_)
  refine ww_iconst C (4 : Int32) dX6_between_5 (by decide) 6 rfl ?_
  refine ww_icmp_ne C 13 dX6_between_6 (by decide) h 9 rfl (fun h => ?_) (fun h => ?_)
  · refine ww_iload_n C 1 dX6_between_13 rfl rfl 14 rfl ?_
    refine ww_callSi C (As := [.int a1]) (st := [.ref (ad 0)]) h (fun _ _ hF => k_X6_rank hn hF) w_828 cm_X6_rank (by decide) (by decide) rfl rfl (Nat.le_of_ble_eq_true rfl) dX6_between_14 17 rfl (fun v32 u31 h => ?_)
    refine ww_callVv C (As := [.int v32]) (st := []) h cl_X6.1 (obM hn) (fun _ _ hF => k_X6_unwinds hn hF) w_824 cm_X6_unwinds (by decide) (by decide) rfl rfl (Nat.le_of_ble_eq_true rfl) dX6_between_17 20 rfl (fun _ u33 h => ?_)
    refine ww_iload_n C 1 dX6_between_20 rfl rfl 21 rfl ?_
    refine ww_callSi C (As := [.int a1]) (st := []) h (fun _ _ hF => k_X6_rank hn hF) w_828 cm_X6_rank (by decide) (by decide) rfl rfl (Nat.le_of_ble_eq_true rfl) dX6_between_21 24 rfl (fun v36 u35 h => ?_)
    refine ww_iconst C (4 : Int32) dX6_between_24 (by decide) 25 rfl ?_
    refine ww_icmp_ne C 55 dX6_between_25 (by decide) h 28 rfl (fun h => ?_) (fun h => ?_)
    · refine ww_aload_n C 0 dX6_between_55 rfl rfl 56 rfl ?_
      refine ww_iload_n C 1 dX6_between_56 rfl rfl 57 rfl ?_
      refine ww_callVv C (As := [.int a1]) (st := []) h cl_X6.1 (obM hn) (fun _ _ hF => k_X6_holds hn hF) w_835 cm_X6_holds (by decide) (by decide) rfl rfl (Nat.le_of_ble_eq_true rfl) dX6_between_57 60 rfl (fun _ u37 h => ?_)
      refine ww_iconst C (1 : Int32) dX6_between_60 (by decide) 61 rfl ?_
      exact ww_zret C dX6_between_61 hr rfl h
    · refine ww_aload_n C 0 dX6_between_28 rfl rfl 29 rfl ?_
      refine ww_getI C cl_X6 (obM hn) 26 (by decide) rfl w_873 dX6_between_29 32 rfl ?_
      refine ww_if_le C 55 dX6_between_32 (by decide) h 35 rfl (fun h => ?_) (fun h => ?_)
      · refine ww_aload_n C 0 dX6_between_55 rfl rfl 56 rfl ?_
        refine ww_iload_n C 1 dX6_between_56 rfl rfl 57 rfl ?_
        refine ww_callVv C (As := [.int a1]) (st := []) h cl_X6.1 (obM hn) (fun _ _ hF => k_X6_holds hn hF) w_835 cm_X6_holds (by decide) (by decide) rfl rfl (Nat.le_of_ble_eq_true rfl) dX6_between_57 60 rfl (fun _ u39 h => ?_)
        refine ww_iconst C (1 : Int32) dX6_between_60 (by decide) 61 rfl ?_
        exact ww_zret C dX6_between_61 hr rfl h
      · refine ww_aload_n C 0 dX6_between_35 rfl rfl 36 rfl ?_
        refine ww_getS C cl_X6 (obM hn) 25 (by decide) rfl 16 rfl w_872 dX6_between_36 39 rfl ?_
        refine ww_aload_n C 0 dX6_between_39 rfl rfl 40 rfl ?_
        refine ww_getI C cl_X6 (obM hn) 26 (by decide) rfl w_873 dX6_between_40 43 rfl ?_
        refine ww_iconst C (1 : Int32) dX6_between_43 (by decide) 44 rfl ?_
        refine ww_isub C dX6_between_44 45 rfl ?_
        refine ww_iald C (iaM hn 16 200 (by decide) (by decide) rfl) dX6_between_45 h 46 rfl (fun h => ?_)
        refine ww_callSi C (As := [.int (u35.1 16 ((u35.1 0 26) - (1 : Int32)).toNatClampNeg)]) (st := []) h (fun _ _ hF => k_X6_rank hn hF) w_828 cm_X6_rank (by decide) (by decide) rfl rfl (Nat.le_of_ble_eq_true rfl) dX6_between_46 49 rfl (fun v42 u41 h => ?_)
        refine ww_iconst C (4 : Int32) dX6_between_49 (by decide) 50 rfl ?_
        refine ww_icmp_ne C 55 dX6_between_50 (by decide) h 53 rfl (fun h => ?_) (fun h => ?_)
        · refine ww_aload_n C 0 dX6_between_55 rfl rfl 56 rfl ?_
          refine ww_iload_n C 1 dX6_between_56 rfl rfl 57 rfl ?_
          refine ww_callVv C (As := [.int a1]) (st := []) h cl_X6.1 (obM hn) (fun _ _ hF => k_X6_holds hn hF) w_835 cm_X6_holds (by decide) (by decide) rfl rfl (Nat.le_of_ble_eq_true rfl) dX6_between_57 60 rfl (fun _ u43 h => ?_)
          refine ww_iconst C (1 : Int32) dX6_between_60 (by decide) 61 rfl ?_
          exact ww_zret C dX6_between_61 hr rfl h
        · refine ww_iconst C (0 : Int32) dX6_between_53 (by decide) 54 rfl ?_
          exact ww_zret C dX6_between_54 hr rfl h
  · refine ww_iconst C (5 : Int32) dX6_between_9 (by decide) 10 rfl ?_
    refine ww_goto C 17 dX6_between_10 (by decide) ?_
    refine ww_callVv C (As := [.int (5 : Int32)]) (st := []) h cl_X6.1 (obM hn) (fun _ _ hF => k_X6_unwinds hn hF) w_824 cm_X6_unwinds (by decide) (by decide) rfl rfl (Nat.le_of_ble_eq_true rfl) dX6_between_17 20 rfl (fun _ u45 h => ?_)
    refine ww_iload_n C 1 dX6_between_20 rfl rfl 21 rfl ?_
    refine ww_callSi C (As := [.int a1]) (st := []) h (fun _ _ hF => k_X6_rank hn hF) w_828 cm_X6_rank (by decide) (by decide) rfl rfl (Nat.le_of_ble_eq_true rfl) dX6_between_21 24 rfl (fun v48 u47 h => ?_)
    refine ww_iconst C (4 : Int32) dX6_between_24 (by decide) 25 rfl ?_
    refine ww_icmp_ne C 55 dX6_between_25 (by decide) h 28 rfl (fun h => ?_) (fun h => ?_)
    · refine ww_aload_n C 0 dX6_between_55 rfl rfl 56 rfl ?_
      refine ww_iload_n C 1 dX6_between_56 rfl rfl 57 rfl ?_
      refine ww_callVv C (As := [.int a1]) (st := []) h cl_X6.1 (obM hn) (fun _ _ hF => k_X6_holds hn hF) w_835 cm_X6_holds (by decide) (by decide) rfl rfl (Nat.le_of_ble_eq_true rfl) dX6_between_57 60 rfl (fun _ u49 h => ?_)
      refine ww_iconst C (1 : Int32) dX6_between_60 (by decide) 61 rfl ?_
      exact ww_zret C dX6_between_61 hr rfl h
    · refine ww_aload_n C 0 dX6_between_28 rfl rfl 29 rfl ?_
      refine ww_getI C cl_X6 (obM hn) 26 (by decide) rfl w_873 dX6_between_29 32 rfl ?_
      refine ww_if_le C 55 dX6_between_32 (by decide) h 35 rfl (fun h => ?_) (fun h => ?_)
      · refine ww_aload_n C 0 dX6_between_55 rfl rfl 56 rfl ?_
        refine ww_iload_n C 1 dX6_between_56 rfl rfl 57 rfl ?_
        refine ww_callVv C (As := [.int a1]) (st := []) h cl_X6.1 (obM hn) (fun _ _ hF => k_X6_holds hn hF) w_835 cm_X6_holds (by decide) (by decide) rfl rfl (Nat.le_of_ble_eq_true rfl) dX6_between_57 60 rfl (fun _ u51 h => ?_)
        refine ww_iconst C (1 : Int32) dX6_between_60 (by decide) 61 rfl ?_
        exact ww_zret C dX6_between_61 hr rfl h
      · refine ww_aload_n C 0 dX6_between_35 rfl rfl 36 rfl ?_
        refine ww_getS C cl_X6 (obM hn) 25 (by decide) rfl 16 rfl w_872 dX6_between_36 39 rfl ?_
        refine ww_aload_n C 0 dX6_between_39 rfl rfl 40 rfl ?_
        refine ww_getI C cl_X6 (obM hn) 26 (by decide) rfl w_873 dX6_between_40 43 rfl ?_
        refine ww_iconst C (1 : Int32) dX6_between_43 (by decide) 44 rfl ?_
        refine ww_isub C dX6_between_44 45 rfl ?_
        refine ww_iald C (iaM hn 16 200 (by decide) (by decide) rfl) dX6_between_45 h 46 rfl (fun h => ?_)
        refine ww_callSi C (As := [.int (u47.1 16 ((u47.1 0 26) - (1 : Int32)).toNatClampNeg)]) (st := []) h (fun _ _ hF => k_X6_rank hn hF) w_828 cm_X6_rank (by decide) (by decide) rfl rfl (Nat.le_of_ble_eq_true rfl) dX6_between_46 49 rfl (fun v54 u53 h => ?_)
        refine ww_iconst C (4 : Int32) dX6_between_49 (by decide) 50 rfl ?_
        refine ww_icmp_ne C 55 dX6_between_50 (by decide) h 53 rfl (fun h => ?_) (fun h => ?_)
        · refine ww_aload_n C 0 dX6_between_55 rfl rfl 56 rfl ?_
          refine ww_iload_n C 1 dX6_between_56 rfl rfl 57 rfl ?_
          refine ww_callVv C (As := [.int a1]) (st := []) h cl_X6.1 (obM hn) (fun _ _ hF => k_X6_holds hn hF) w_835 cm_X6_holds (by decide) (by decide) rfl rfl (Nat.le_of_ble_eq_true rfl) dX6_between_57 60 rfl (fun _ u55 h => ?_)
          refine ww_iconst C (1 : Int32) dX6_between_60 (by decide) 61 rfl ?_
          exact ww_zret C dX6_between_61 hr rfl h
        · refine ww_iconst C (0 : Int32) dX6_between_53 (by decide) 54 rfl ?_
          exact ww_zret C dX6_between_54 hr rfl h

set_option maxRecDepth 100000 in
set_option maxHeartbeats 4000000 in
theorem k_X6_signOf {l : Launch} {D : va_G} {ad : Nat → Nat} {cA : Nat → ClassId} {tys : List (ClassId × FieldType)} {n : Nat} {sa : Nat → Nat} (hn : 20 ≤ n) {N : Nat} {g : Mem} {r : Int32} {g1 : Mem} (h : X6_signOf N g = some (r, g1)) : CTi l yX6_signOf (wsm yX6_signOf cX6_signOf 1 (some .int)) 1 D YM ad cA tys n sa g [.ref (ad 0)] r g1 := by
  refine ct_of RX6 rfl (by decide +kernel) (Nat.le_of_ble_eq_true rfl) rfl (fun sz => PBi D YM ad cA n r g1 sz) ?_
  intro p e R s m args below meth c C hr
  rw [X6_signOf] at h
  refine ww_aload_n C 0 dX6_signOf_0 rfl rfl 1 rfl ?_
  refine ww_getI C cl_X6 (obM hn) 22 (by decide) rfl w_869 dX6_signOf_1 4 rfl ?_
  refine ww_iconst C (4 : Int32) dX6_signOf_4 (by decide) 5 rfl ?_
  refine ww_icmp_ne C 13 dX6_signOf_5 (by decide) h 8 rfl (fun h => ?_) (fun h => ?_)
  · refine ww_aload_n C 0 dX6_signOf_13 rfl rfl 14 rfl ?_
    refine ww_getI C cl_X6 (obM hn) 22 (by decide) rfl w_869 dX6_signOf_14 17 rfl ?_
    refine ww_iconst C (5 : Int32) dX6_signOf_17 (by decide) 18 rfl ?_
    refine ww_icmp_ne C 26 dX6_signOf_18 (by decide) h 21 rfl (fun h => ?_) (fun h => ?_)
    · refine ww_aload_n C 0 dX6_signOf_26 rfl rfl 27 rfl ?_
      refine ww_getI C cl_X6 (obM hn) 22 (by decide) rfl w_869 dX6_signOf_27 30 rfl ?_
      refine ww_bipush C (60 : Int32) dX6_signOf_30 (by decide) 32 rfl ?_
      refine ww_icmp_ne C 40 dX6_signOf_32 (by decide) h 35 rfl (fun h => ?_) (fun h => ?_)
      · refine ww_aload_n C 0 dX6_signOf_40 rfl rfl 41 rfl ?_
        refine ww_getI C cl_X6 (obM hn) 22 (by decide) rfl w_869 dX6_signOf_41 44 rfl ?_
        refine ww_bipush C (61 : Int32) dX6_signOf_44 (by decide) 46 rfl ?_
        refine ww_icmp_ne C 54 dX6_signOf_46 (by decide) h 49 rfl (fun h => ?_) (fun h => ?_)
        · refine ww_aload_n C 0 dX6_signOf_54 rfl rfl 55 rfl ?_
          refine ww_getI C cl_X6 (obM hn) 22 (by decide) rfl w_869 dX6_signOf_55 58 rfl ?_
          refine ww_bipush C (43 : Int32) dX6_signOf_58 (by decide) 60 rfl ?_
          refine ww_icmp_ne C 68 dX6_signOf_60 (by decide) h 63 rfl (fun h => ?_) (fun h => ?_)
          · refine ww_aload_n C 0 dX6_signOf_68 rfl rfl 69 rfl ?_
            refine ww_getI C cl_X6 (obM hn) 22 (by decide) rfl w_869 dX6_signOf_69 72 rfl ?_
            refine ww_bipush C (45 : Int32) dX6_signOf_72 (by decide) 74 rfl ?_
            refine ww_icmp_ne C 82 dX6_signOf_74 (by decide) h 77 rfl (fun h => ?_) (fun h => ?_)
            · refine ww_aload_n C 0 dX6_signOf_82 rfl rfl 83 rfl ?_
              refine ww_getI C cl_X6 (obM hn) 22 (by decide) rfl w_869 dX6_signOf_83 86 rfl ?_
              refine ww_bipush C (42 : Int32) dX6_signOf_86 (by decide) 88 rfl ?_
              refine ww_icmp_ne C 96 dX6_signOf_88 (by decide) h 91 rfl (fun h => ?_) (fun h => ?_)
              · refine ww_iconst C (-1 : Int32) dX6_signOf_96 (by decide) 97 rfl ?_
                exact ww_iret C dX6_signOf_97 hr h
              · refine ww_bipush C (18 : Int32) dX6_signOf_91 (by decide) 93 rfl ?_
                refine ww_goto C 97 dX6_signOf_93 (by decide) ?_
                exact ww_iret C dX6_signOf_97 hr h
            · refine ww_bipush C (17 : Int32) dX6_signOf_77 (by decide) 79 rfl ?_
              refine ww_goto C 97 dX6_signOf_79 (by decide) ?_
              exact ww_iret C dX6_signOf_97 hr h
          · refine ww_bipush C (16 : Int32) dX6_signOf_63 (by decide) 65 rfl ?_
            refine ww_goto C 97 dX6_signOf_65 (by decide) ?_
            exact ww_iret C dX6_signOf_97 hr h
        · refine ww_bipush C (15 : Int32) dX6_signOf_49 (by decide) 51 rfl ?_
          refine ww_goto C 97 dX6_signOf_51 (by decide) ?_
          exact ww_iret C dX6_signOf_97 hr h
      · refine ww_bipush C (14 : Int32) dX6_signOf_35 (by decide) 37 rfl ?_
        refine ww_goto C 97 dX6_signOf_37 (by decide) ?_
        exact ww_iret C dX6_signOf_97 hr h
    · refine ww_bipush C (12 : Int32) dX6_signOf_21 (by decide) 23 rfl ?_
      refine ww_goto C 97 dX6_signOf_23 (by decide) ?_
      exact ww_iret C dX6_signOf_97 hr h
  · refine ww_bipush C (11 : Int32) dX6_signOf_8 (by decide) 10 rfl ?_
    refine ww_goto C 97 dX6_signOf_10 (by decide) ?_
    exact ww_iret C dX6_signOf_97 hr h

set_option maxRecDepth 100000 in
set_option maxHeartbeats 4000000 in
theorem k_X6_eRead {l : Launch} {D : va_G} {ad : Nat → Nat} {cA : Nat → ClassId} {tys : List (ClassId × FieldType)} {n : Nat} {sa : Nat → Nat} (hn : 20 ≤ n) {N : Nat} {g : Mem} {r : Int32} {g1 : Mem} (h : X6_eRead N g = some (r, g1)) : CTi l yX6_eRead (wsm yX6_eRead cX6_eRead 4 (some .boolean)) 4 D YM ad cA tys n sa g [.ref (ad 0)] r g1 := by
  refine ct_of RX6 rfl (by decide +kernel) (Nat.le_of_ble_eq_true rfl) rfl (fun sz => PBi D YM ad cA n r g1 sz) ?_
  intro p e R s m args below meth c C hr
  have L14h : ∀ (fu : Nat), (∀ (x1 : Int32) (x2 : Int32) (g : Mem), X6_eRead_L14 N fu x1 x2 g = some (r, g1) → WW p l e R s m args below meth c 4 D YM ad cA n (MQ below (PBi D YM ad cA n r g1 s.heap.size) args s 0 0 (AA n ad s.heap.size)) g 14 [(0, .ref (ad 0)), (1, .int x1), (2, .int x2)] []) := by
    intro fu
    induction fu with
    | zero => intro x1 x2 g h; cases h
    | succ fu ih =>
      intro x1 x2 g h
      rw [X6_eRead_L14] at h
      refine ww_aload_n C 0 dX6_eRead_14 rfl rfl 15 rfl ?_
      refine ww_callVv C (As := []) (st := []) h cl_X6.1 (obM hn) (fun _ _ hF => k_X6_next hn hF) w_804 cm_X6_next (by decide) (by decide) rfl rfl (Nat.le_of_ble_eq_true rfl) dX6_eRead_15 18 rfl (fun _ u43 h => ?_)
      refine ww_iload_n C 1 dX6_eRead_18 rfl rfl 19 rfl ?_
      refine ww_if_eq C 150 dX6_eRead_19 (by decide) h 22 rfl (fun h => ?_) (fun h => ?_)
      · refine ww_aload_n C 0 dX6_eRead_150 rfl rfl 151 rfl ?_
        refine ww_getI C cl_X6 (obM hn) 22 (by decide) rfl w_869 dX6_eRead_151 154 rfl ?_
        refine ww_bipush C (59 : Int32) dX6_eRead_154 (by decide) 156 rfl ?_
        refine ww_icmp_ne C 177 dX6_eRead_156 (by decide) h 159 rfl (fun h => ?_) (fun h => ?_)
        · refine ww_aload_n C 0 dX6_eRead_177 rfl rfl 178 rfl ?_
          refine ww_getI C cl_X6 (obM hn) 22 (by decide) rfl w_869 dX6_eRead_178 181 rfl ?_
          refine ww_bipush C (41 : Int32) dX6_eRead_181 (by decide) 183 rfl ?_
          refine ww_icmp_ne C 229 dX6_eRead_183 (by decide) h 186 rfl (fun h => ?_) (fun h => ?_)
          · refine ww_aload_n C 0 dX6_eRead_229 rfl rfl 230 rfl ?_
            refine ww_callVi C (As := []) (st := []) h cl_X6.1 (obM hn) (fun _ _ hF => k_X6_signOf hn hF) w_839 cm_X6_signOf (by decide) (by decide) rfl rfl (Nat.le_of_ble_eq_true rfl) dX6_eRead_230 233 rfl (fun v46 u45 h => ?_)
            refine ww_istore_n C [(3, .int v46), (0, .ref (ad 0)), (1, .int x1), (2, .int x2)] dX6_eRead_233 rfl (by decide) rfl 234 rfl ?_
            refine ww_iload_n C 0 dX6_eRead_234 rfl rfl 235 rfl ?_
            refine ww_iconst C (-1 : Int32) dX6_eRead_235 (by decide) 236 rfl ?_
            refine ww_icmp_eq C 247 dX6_eRead_236 (by decide) h 239 rfl (fun h => ?_) (fun h => ?_)
            · refine ww_iconst C (0 : Int32) dX6_eRead_247 (by decide) 248 rfl ?_
              exact ww_zret C dX6_eRead_248 hr rfl h
            · refine ww_aload_n C 1 dX6_eRead_239 rfl rfl 240 rfl ?_
              refine ww_iload_n C 0 dX6_eRead_240 rfl rfl 241 rfl ?_
              refine ww_callVi C (As := [.int v46]) (st := []) h cl_X6.1 (obM hn) (fun _ _ hF => k_X6_between hn hF) w_843 cm_X6_between (by decide) (by decide) rfl rfl (Nat.le_of_ble_eq_true rfl) dX6_eRead_241 244 rfl (fun v48 u47 h => ?_)
              refine ww_if_ne C 249 dX6_eRead_244 (by decide) h 247 rfl (fun h => ?_) (fun h => ?_)
              · refine ww_iconst C (1 : Int32) dX6_eRead_249 (by decide) 250 rfl ?_
                refine ww_istore_n C [(1, .int (1 : Int32)), (3, .int v46), (0, .ref (ad 0)), (2, .int x2)] dX6_eRead_250 rfl (by decide) rfl 251 rfl ?_
                refine ww_iload_n C 1 dX6_eRead_251 rfl rfl 252 rfl ?_
                refine ww_bipush C (12 : Int32) dX6_eRead_252 (by decide) 254 rfl ?_
                refine ww_icmp_gt C 261 dX6_eRead_254 (by decide) h 257 rfl (fun h => ?_) (fun h => ?_)
                · refine ww_iconst C (0 : Int32) dX6_eRead_261 (by decide) 262 rfl ?_
                  refine ww_istore_n C [(2, .int (0 : Int32)), (1, .int (1 : Int32)), (3, .int v46), (0, .ref (ad 0))] dX6_eRead_262 rfl (by decide) rfl 263 rfl ?_
                  refine ww_goto C 14 dX6_eRead_263 (by decide) ?_
                  exact ww_sub [3, 1, 0] rfl (ih _ _ _ h)
                · refine ww_iconst C (1 : Int32) dX6_eRead_257 (by decide) 258 rfl ?_
                  refine ww_goto C 262 dX6_eRead_258 (by decide) ?_
                  refine ww_istore_n C [(2, .int (1 : Int32)), (1, .int (1 : Int32)), (3, .int v46), (0, .ref (ad 0))] dX6_eRead_262 rfl (by decide) rfl 263 rfl ?_
                  refine ww_goto C 14 dX6_eRead_263 (by decide) ?_
                  exact ww_sub [3, 1, 0] rfl (ih _ _ _ h)
              · refine ww_iconst C (0 : Int32) dX6_eRead_247 (by decide) 248 rfl ?_
                exact ww_zret C dX6_eRead_248 hr rfl h
          · refine ww_aload_n C 0 dX6_eRead_186 rfl rfl 187 rfl ?_
            refine ww_iconst C (1 : Int32) dX6_eRead_187 (by decide) 188 rfl ?_
            refine ww_callVv C (As := [.int (1 : Int32)]) (st := []) h cl_X6.1 (obM hn) (fun _ _ hF => k_X6_unwinds hn hF) w_824 cm_X6_unwinds (by decide) (by decide) rfl rfl (Nat.le_of_ble_eq_true rfl) dX6_eRead_188 191 rfl (fun _ u49 h => ?_)
            refine ww_aload_n C 0 dX6_eRead_191 rfl rfl 192 rfl ?_
            refine ww_getI C cl_X6 (obM hn) 26 (by decide) rfl w_873 dX6_eRead_192 195 rfl ?_
            refine ww_if_ne C 200 dX6_eRead_195 (by decide) h 198 rfl (fun h => ?_) (fun h => ?_)
            · refine ww_aload_n C 0 dX6_eRead_200 rfl rfl 201 rfl ?_
              refine ww_dup C dX6_eRead_201 rfl 202 rfl ?_
              refine ww_getI C cl_X6 (obM hn) 26 (by decide) rfl w_873 dX6_eRead_202 205 rfl ?_
              refine ww_iconst C (1 : Int32) dX6_eRead_205 (by decide) 206 rfl ?_
              refine ww_isub C dX6_eRead_206 207 rfl ?_
              refine ww_putI C cl_X6 (obM hn) 26 (by decide) rfl tyX6 tyX6_ok nmX6 rfl rfl rfl w_873 dX6_eRead_207 h 210 rfl (fun u51 h => ?_)
              refine ww_aload_n C 0 dX6_eRead_210 rfl rfl 211 rfl ?_
              refine ww_dup C dX6_eRead_211 rfl 212 rfl ?_
              refine ww_getI C cl_X6 (obM hn) 27 (by decide) rfl w_874 dX6_eRead_212 215 rfl ?_
              refine ww_iconst C (1 : Int32) dX6_eRead_215 (by decide) 216 rfl ?_
              refine ww_isub C dX6_eRead_216 217 rfl ?_
              refine ww_putI C cl_X6 (obM hn) 27 (by decide) rfl tyX6 tyX6_ok nmX6 rfl rfl rfl w_874 dX6_eRead_217 h 220 rfl (fun u52 h => ?_)
              refine ww_aload_n C 0 dX6_eRead_220 rfl rfl 221 rfl ?_
              refine ww_bipush C (7 : Int32) dX6_eRead_221 (by decide) 223 rfl ?_
              refine ww_callVv C (As := [.int (7 : Int32)]) (st := []) h cl_X6.1 (obM hn) (fun _ _ hF => k_X6_unwinds hn hF) w_824 cm_X6_unwinds (by decide) (by decide) rfl rfl (Nat.le_of_ble_eq_true rfl) dX6_eRead_223 226 rfl (fun _ u53 h => ?_)
              refine ww_goto C 14 dX6_eRead_226 (by decide) ?_
              exact ww_sub [0, 1, 2] rfl (ih _ _ _ h)
            · refine ww_iconst C (0 : Int32) dX6_eRead_198 (by decide) 199 rfl ?_
              exact ww_zret C dX6_eRead_199 hr rfl h
        · refine ww_aload_n C 0 dX6_eRead_159 rfl rfl 160 rfl ?_
          refine ww_iconst C (1 : Int32) dX6_eRead_160 (by decide) 161 rfl ?_
          refine ww_callVv C (As := [.int (1 : Int32)]) (st := []) h cl_X6.1 (obM hn) (fun _ _ hF => k_X6_unwinds hn hF) w_824 cm_X6_unwinds (by decide) (by decide) rfl rfl (Nat.le_of_ble_eq_true rfl) dX6_eRead_161 164 rfl (fun _ u55 h => ?_)
          refine ww_aload_n C 0 dX6_eRead_164 rfl rfl 165 rfl ?_
          refine ww_getI C cl_X6 (obM hn) 26 (by decide) rfl w_873 dX6_eRead_165 168 rfl ?_
          refine ww_if_ne C 175 dX6_eRead_168 (by decide) h 171 rfl (fun h => ?_) (fun h => ?_)
          · refine ww_iconst C (0 : Int32) dX6_eRead_175 (by decide) 176 rfl ?_
            exact ww_zret C dX6_eRead_176 hr rfl h
          · refine ww_iconst C (1 : Int32) dX6_eRead_171 (by decide) 172 rfl ?_
            refine ww_goto C 176 dX6_eRead_172 (by decide) ?_
            exact ww_zret C dX6_eRead_176 hr rfl h
      · refine ww_aload_n C 0 dX6_eRead_22 rfl rfl 23 rfl ?_
        refine ww_getI C cl_X6 (obM hn) 22 (by decide) rfl w_869 dX6_eRead_23 26 rfl ?_
        refine ww_iconst C (1 : Int32) dX6_eRead_26 (by decide) 27 rfl ?_
        refine ww_icmp_eq C 38 dX6_eRead_27 (by decide) h 30 rfl (fun h => ?_) (fun h => ?_)
        · refine ww_aload_n C 0 dX6_eRead_38 rfl rfl 39 rfl ?_
          refine ww_aload_n C 0 dX6_eRead_39 rfl rfl 40 rfl ?_
          refine ww_getI C cl_X6 (obM hn) 22 (by decide) rfl w_869 dX6_eRead_40 43 rfl ?_
          refine ww_iconst C (1 : Int32) dX6_eRead_43 (by decide) 44 rfl ?_
          refine ww_icmp_ne C 57 dX6_eRead_44 (by decide) h 47 rfl (fun h => ?_) (fun h => ?_)
          · refine ww_aload_n C 0 dX6_eRead_57 rfl rfl 58 rfl ?_
            refine ww_getI C cl_X6 (obM hn) 23 (by decide) rfl w_870 dX6_eRead_58 61 rfl ?_
            refine ww_callVv C (As := [.int (u43.1 0 23)]) (st := []) h cl_X6.1 (obM hn) (fun _ _ hF => k_X6_puts hn hF) w_820 cm_X6_puts (by decide) (by decide) rfl rfl (Nat.le_of_ble_eq_true rfl) dX6_eRead_61 64 rfl (fun _ u57 h => ?_)
            refine ww_aload_n C 0 dX6_eRead_64 rfl rfl 65 rfl ?_
            refine ww_bipush C (7 : Int32) dX6_eRead_65 (by decide) 67 rfl ?_
            refine ww_callVv C (As := [.int (7 : Int32)]) (st := []) h cl_X6.1 (obM hn) (fun _ _ hF => k_X6_unwinds hn hF) w_824 cm_X6_unwinds (by decide) (by decide) rfl rfl (Nat.le_of_ble_eq_true rfl) dX6_eRead_67 70 rfl (fun _ u59 h => ?_)
            refine ww_iconst C (0 : Int32) dX6_eRead_70 (by decide) 71 rfl ?_
            refine ww_istore_n C [(1, .int (0 : Int32)), (0, .ref (ad 0)), (2, .int x2)] dX6_eRead_71 rfl (by decide) rfl 72 rfl ?_
            refine ww_goto C 14 dX6_eRead_72 (by decide) ?_
            exact ww_sub [1, 0, 2] rfl (ih _ _ _ h)
          · refine ww_ldc C (100000 : Int32) w_819 dX6_eRead_47 49 rfl ?_
            refine ww_aload_n C 0 dX6_eRead_49 rfl rfl 50 rfl ?_
            refine ww_getI C cl_X6 (obM hn) 23 (by decide) rfl w_870 dX6_eRead_50 53 rfl ?_
            refine ww_iadd C dX6_eRead_53 54 rfl ?_
            refine ww_goto C 61 dX6_eRead_54 (by decide) ?_
            refine ww_callVv C (As := [.int ((100000 : Int32) + (u43.1 0 23))]) (st := []) h cl_X6.1 (obM hn) (fun _ _ hF => k_X6_puts hn hF) w_820 cm_X6_puts (by decide) (by decide) rfl rfl (Nat.le_of_ble_eq_true rfl) dX6_eRead_61 64 rfl (fun _ u61 h => ?_)
            refine ww_aload_n C 0 dX6_eRead_64 rfl rfl 65 rfl ?_
            refine ww_bipush C (7 : Int32) dX6_eRead_65 (by decide) 67 rfl ?_
            refine ww_callVv C (As := [.int (7 : Int32)]) (st := []) h cl_X6.1 (obM hn) (fun _ _ hF => k_X6_unwinds hn hF) w_824 cm_X6_unwinds (by decide) (by decide) rfl rfl (Nat.le_of_ble_eq_true rfl) dX6_eRead_67 70 rfl (fun _ u63 h => ?_)
            refine ww_iconst C (0 : Int32) dX6_eRead_70 (by decide) 71 rfl ?_
            refine ww_istore_n C [(1, .int (0 : Int32)), (0, .ref (ad 0)), (2, .int x2)] dX6_eRead_71 rfl (by decide) rfl 72 rfl ?_
            refine ww_goto C 14 dX6_eRead_72 (by decide) ?_
            exact ww_sub [1, 0, 2] rfl (ih _ _ _ h)
        · refine ww_aload_n C 0 dX6_eRead_30 rfl rfl 31 rfl ?_
          refine ww_getI C cl_X6 (obM hn) 22 (by decide) rfl w_869 dX6_eRead_31 34 rfl ?_
          refine ww_iconst C (2 : Int32) dX6_eRead_34 (by decide) 35 rfl ?_
          refine ww_icmp_ne C 75 dX6_eRead_35 (by decide) h 38 rfl (fun h => ?_) (fun h => ?_)
          · refine ww_aload_n C 0 dX6_eRead_75 rfl rfl 76 rfl ?_
            refine ww_getI C cl_X6 (obM hn) 22 (by decide) rfl w_869 dX6_eRead_76 79 rfl ?_
            refine ww_bipush C (6 : Int32) dX6_eRead_79 (by decide) 81 rfl ?_
            refine ww_icmp_ne C 99 dX6_eRead_81 (by decide) h 84 rfl (fun h => ?_) (fun h => ?_)
            · refine ww_aload_n C 0 dX6_eRead_99 rfl rfl 100 rfl ?_
              refine ww_getI C cl_X6 (obM hn) 22 (by decide) rfl w_869 dX6_eRead_100 103 rfl ?_
              refine ww_bipush C (45 : Int32) dX6_eRead_103 (by decide) 105 rfl ?_
              refine ww_icmp_ne C 124 dX6_eRead_105 (by decide) h 108 rfl (fun h => ?_) (fun h => ?_)
              · refine ww_aload_n C 0 dX6_eRead_124 rfl rfl 125 rfl ?_
                refine ww_getI C cl_X6 (obM hn) 22 (by decide) rfl w_869 dX6_eRead_125 128 rfl ?_
                refine ww_bipush C (40 : Int32) dX6_eRead_128 (by decide) 130 rfl ?_
                refine ww_icmp_ne C 148 dX6_eRead_130 (by decide) h 133 rfl (fun h => ?_) (fun h => ?_)
                · refine ww_iconst C (0 : Int32) dX6_eRead_148 (by decide) 149 rfl ?_
                  exact ww_zret C dX6_eRead_149 hr rfl h
                · refine ww_aload_n C 0 dX6_eRead_133 rfl rfl 134 rfl ?_
                  refine ww_iconst C (0 : Int32) dX6_eRead_134 (by decide) 135 rfl ?_
                  refine ww_callVi C (As := [.int (0 : Int32)]) (st := []) h cl_X6.1 (obM hn) (fun _ _ hF => k_X6_opensOne hn hF) w_831 cm_X6_opensOne (by decide) (by decide) rfl rfl (Nat.le_of_ble_eq_true rfl) dX6_eRead_135 138 rfl (fun v66 u65 h => ?_)
                  refine ww_if_ne C 143 dX6_eRead_138 (by decide) h 141 rfl (fun h => ?_) (fun h => ?_)
                  · refine ww_iconst C (1 : Int32) dX6_eRead_143 (by decide) 144 rfl ?_
                    refine ww_istore_n C [(2, .int (1 : Int32)), (0, .ref (ad 0)), (1, .int x1)] dX6_eRead_144 rfl (by decide) rfl 145 rfl ?_
                    refine ww_goto C 14 dX6_eRead_145 (by decide) ?_
                    exact ww_sub [1, 2, 0] rfl (ih _ _ _ h)
                  · refine ww_iconst C (0 : Int32) dX6_eRead_141 (by decide) 142 rfl ?_
                    exact ww_zret C dX6_eRead_142 hr rfl h
              · refine ww_aload_n C 0 dX6_eRead_108 rfl rfl 109 rfl ?_
                refine ww_bipush C (19 : Int32) dX6_eRead_109 (by decide) 111 rfl ?_
                refine ww_callVi C (As := [.int (19 : Int32)]) (st := []) h cl_X6.1 (obM hn) (fun _ _ hF => k_X6_opensOne hn hF) w_831 cm_X6_opensOne (by decide) (by decide) rfl rfl (Nat.le_of_ble_eq_true rfl) dX6_eRead_111 114 rfl (fun v68 u67 h => ?_)
                refine ww_if_ne C 119 dX6_eRead_114 (by decide) h 117 rfl (fun h => ?_) (fun h => ?_)
                · refine ww_iconst C (0 : Int32) dX6_eRead_119 (by decide) 120 rfl ?_
                  refine ww_istore_n C [(2, .int (0 : Int32)), (0, .ref (ad 0)), (1, .int x1)] dX6_eRead_120 rfl (by decide) rfl 121 rfl ?_
                  refine ww_goto C 14 dX6_eRead_121 (by decide) ?_
                  exact ww_sub [1, 2, 0] rfl (ih _ _ _ h)
                · refine ww_iconst C (0 : Int32) dX6_eRead_117 (by decide) 118 rfl ?_
                  exact ww_zret C dX6_eRead_118 hr rfl h
            · refine ww_iload_n C 2 dX6_eRead_84 rfl rfl 85 rfl ?_
              refine ww_if_eq C 99 dX6_eRead_85 (by decide) h 88 rfl (fun h => ?_) (fun h => ?_)
              · refine ww_aload_n C 0 dX6_eRead_99 rfl rfl 100 rfl ?_
                refine ww_getI C cl_X6 (obM hn) 22 (by decide) rfl w_869 dX6_eRead_100 103 rfl ?_
                refine ww_bipush C (45 : Int32) dX6_eRead_103 (by decide) 105 rfl ?_
                refine ww_icmp_ne C 124 dX6_eRead_105 (by decide) h 108 rfl (fun h => ?_) (fun h => ?_)
                · refine ww_aload_n C 0 dX6_eRead_124 rfl rfl 125 rfl ?_
                  refine ww_getI C cl_X6 (obM hn) 22 (by decide) rfl w_869 dX6_eRead_125 128 rfl ?_
                  refine ww_bipush C (40 : Int32) dX6_eRead_128 (by decide) 130 rfl ?_
                  refine ww_icmp_ne C 148 dX6_eRead_130 (by decide) h 133 rfl (fun h => ?_) (fun h => ?_)
                  · refine ww_iconst C (0 : Int32) dX6_eRead_148 (by decide) 149 rfl ?_
                    exact ww_zret C dX6_eRead_149 hr rfl h
                  · refine ww_aload_n C 0 dX6_eRead_133 rfl rfl 134 rfl ?_
                    refine ww_iconst C (0 : Int32) dX6_eRead_134 (by decide) 135 rfl ?_
                    refine ww_callVi C (As := [.int (0 : Int32)]) (st := []) h cl_X6.1 (obM hn) (fun _ _ hF => k_X6_opensOne hn hF) w_831 cm_X6_opensOne (by decide) (by decide) rfl rfl (Nat.le_of_ble_eq_true rfl) dX6_eRead_135 138 rfl (fun v70 u69 h => ?_)
                    refine ww_if_ne C 143 dX6_eRead_138 (by decide) h 141 rfl (fun h => ?_) (fun h => ?_)
                    · refine ww_iconst C (1 : Int32) dX6_eRead_143 (by decide) 144 rfl ?_
                      refine ww_istore_n C [(2, .int (1 : Int32)), (0, .ref (ad 0)), (1, .int x1)] dX6_eRead_144 rfl (by decide) rfl 145 rfl ?_
                      refine ww_goto C 14 dX6_eRead_145 (by decide) ?_
                      exact ww_sub [1, 2, 0] rfl (ih _ _ _ h)
                    · refine ww_iconst C (0 : Int32) dX6_eRead_141 (by decide) 142 rfl ?_
                      exact ww_zret C dX6_eRead_142 hr rfl h
                · refine ww_aload_n C 0 dX6_eRead_108 rfl rfl 109 rfl ?_
                  refine ww_bipush C (19 : Int32) dX6_eRead_109 (by decide) 111 rfl ?_
                  refine ww_callVi C (As := [.int (19 : Int32)]) (st := []) h cl_X6.1 (obM hn) (fun _ _ hF => k_X6_opensOne hn hF) w_831 cm_X6_opensOne (by decide) (by decide) rfl rfl (Nat.le_of_ble_eq_true rfl) dX6_eRead_111 114 rfl (fun v72 u71 h => ?_)
                  refine ww_if_ne C 119 dX6_eRead_114 (by decide) h 117 rfl (fun h => ?_) (fun h => ?_)
                  · refine ww_iconst C (0 : Int32) dX6_eRead_119 (by decide) 120 rfl ?_
                    refine ww_istore_n C [(2, .int (0 : Int32)), (0, .ref (ad 0)), (1, .int x1)] dX6_eRead_120 rfl (by decide) rfl 121 rfl ?_
                    refine ww_goto C 14 dX6_eRead_121 (by decide) ?_
                    exact ww_sub [1, 2, 0] rfl (ih _ _ _ h)
                  · refine ww_iconst C (0 : Int32) dX6_eRead_117 (by decide) 118 rfl ?_
                    exact ww_zret C dX6_eRead_118 hr rfl h
              · refine ww_aload_n C 0 dX6_eRead_88 rfl rfl 89 rfl ?_
                refine ww_bipush C (13 : Int32) dX6_eRead_89 (by decide) 91 rfl ?_
                refine ww_callVi C (As := [.int (13 : Int32)]) (st := []) h cl_X6.1 (obM hn) (fun _ _ hF => k_X6_opensOne hn hF) w_831 cm_X6_opensOne (by decide) (by decide) rfl rfl (Nat.le_of_ble_eq_true rfl) dX6_eRead_91 94 rfl (fun v74 u73 h => ?_)
                refine ww_if_ne C 14 dX6_eRead_94 (by decide) h 97 rfl (fun h => ?_) (fun h => ?_)
                · exact ww_sub [0, 1, 2] rfl (ih _ _ _ h)
                · refine ww_iconst C (0 : Int32) dX6_eRead_97 (by decide) 98 rfl ?_
                  exact ww_zret C dX6_eRead_98 hr rfl h
          · refine ww_aload_n C 0 dX6_eRead_38 rfl rfl 39 rfl ?_
            refine ww_aload_n C 0 dX6_eRead_39 rfl rfl 40 rfl ?_
            refine ww_getI C cl_X6 (obM hn) 22 (by decide) rfl w_869 dX6_eRead_40 43 rfl ?_
            refine ww_iconst C (1 : Int32) dX6_eRead_43 (by decide) 44 rfl ?_
            refine ww_icmp_ne C 57 dX6_eRead_44 (by decide) h 47 rfl (fun h => ?_) (fun h => ?_)
            · refine ww_aload_n C 0 dX6_eRead_57 rfl rfl 58 rfl ?_
              refine ww_getI C cl_X6 (obM hn) 23 (by decide) rfl w_870 dX6_eRead_58 61 rfl ?_
              refine ww_callVv C (As := [.int (u43.1 0 23)]) (st := []) h cl_X6.1 (obM hn) (fun _ _ hF => k_X6_puts hn hF) w_820 cm_X6_puts (by decide) (by decide) rfl rfl (Nat.le_of_ble_eq_true rfl) dX6_eRead_61 64 rfl (fun _ u75 h => ?_)
              refine ww_aload_n C 0 dX6_eRead_64 rfl rfl 65 rfl ?_
              refine ww_bipush C (7 : Int32) dX6_eRead_65 (by decide) 67 rfl ?_
              refine ww_callVv C (As := [.int (7 : Int32)]) (st := []) h cl_X6.1 (obM hn) (fun _ _ hF => k_X6_unwinds hn hF) w_824 cm_X6_unwinds (by decide) (by decide) rfl rfl (Nat.le_of_ble_eq_true rfl) dX6_eRead_67 70 rfl (fun _ u77 h => ?_)
              refine ww_iconst C (0 : Int32) dX6_eRead_70 (by decide) 71 rfl ?_
              refine ww_istore_n C [(1, .int (0 : Int32)), (0, .ref (ad 0)), (2, .int x2)] dX6_eRead_71 rfl (by decide) rfl 72 rfl ?_
              refine ww_goto C 14 dX6_eRead_72 (by decide) ?_
              exact ww_sub [1, 0, 2] rfl (ih _ _ _ h)
            · refine ww_ldc C (100000 : Int32) w_819 dX6_eRead_47 49 rfl ?_
              refine ww_aload_n C 0 dX6_eRead_49 rfl rfl 50 rfl ?_
              refine ww_getI C cl_X6 (obM hn) 23 (by decide) rfl w_870 dX6_eRead_50 53 rfl ?_
              refine ww_iadd C dX6_eRead_53 54 rfl ?_
              refine ww_goto C 61 dX6_eRead_54 (by decide) ?_
              refine ww_callVv C (As := [.int ((100000 : Int32) + (u43.1 0 23))]) (st := []) h cl_X6.1 (obM hn) (fun _ _ hF => k_X6_puts hn hF) w_820 cm_X6_puts (by decide) (by decide) rfl rfl (Nat.le_of_ble_eq_true rfl) dX6_eRead_61 64 rfl (fun _ u79 h => ?_)
              refine ww_aload_n C 0 dX6_eRead_64 rfl rfl 65 rfl ?_
              refine ww_bipush C (7 : Int32) dX6_eRead_65 (by decide) 67 rfl ?_
              refine ww_callVv C (As := [.int (7 : Int32)]) (st := []) h cl_X6.1 (obM hn) (fun _ _ hF => k_X6_unwinds hn hF) w_824 cm_X6_unwinds (by decide) (by decide) rfl rfl (Nat.le_of_ble_eq_true rfl) dX6_eRead_67 70 rfl (fun _ u81 h => ?_)
              refine ww_iconst C (0 : Int32) dX6_eRead_70 (by decide) 71 rfl ?_
              refine ww_istore_n C [(1, .int (0 : Int32)), (0, .ref (ad 0)), (2, .int x2)] dX6_eRead_71 rfl (by decide) rfl 72 rfl ?_
              refine ww_goto C 14 dX6_eRead_72 (by decide) ?_
              exact ww_sub [1, 0, 2] rfl (ih _ _ _ h)
  rw [X6_eRead] at h
  refine ww_aload_n C 0 dX6_eRead_0 rfl rfl 1 rfl ?_
  refine ww_iconst C (0 : Int32) dX6_eRead_1 (by decide) 2 rfl ?_
  refine ww_putI C cl_X6 (obM hn) 26 (by decide) rfl tyX6 tyX6_ok nmX6 rfl rfl rfl w_873 dX6_eRead_2 h 5 rfl (fun u83 h => ?_)
  refine ww_aload_n C 0 dX6_eRead_5 rfl rfl 6 rfl ?_
  refine ww_iconst C (0 : Int32) dX6_eRead_6 (by decide) 7 rfl ?_
  refine ww_putI C cl_X6 (obM hn) 27 (by decide) rfl tyX6 tyX6_ok nmX6 rfl rfl rfl w_874 dX6_eRead_7 h 10 rfl (fun u84 h => ?_)
  refine ww_iconst C (1 : Int32) dX6_eRead_10 (by decide) 11 rfl ?_
  refine ww_istore_n C [(1, .int (1 : Int32)), (0, .ref (ad 0))] dX6_eRead_11 rfl (by decide) rfl 12 rfl ?_
  refine ww_iconst C (1 : Int32) dX6_eRead_12 (by decide) 13 rfl ?_
  refine ww_istore_n C [(2, .int (1 : Int32)), (1, .int (1 : Int32)), (0, .ref (ad 0))] dX6_eRead_13 rfl (by decide) rfl 14 rfl ?_
  exact ww_sub [2, 1, 0] rfl (L14h N _ _ _ h)

set_option maxRecDepth 100000 in
set_option maxHeartbeats 4000000 in
theorem k_X6_text {l : Launch} {D : va_G} {ad : Nat → Nat} {cA : Nat → ClassId} {tys : List (ClassId × FieldType)} {n : Nat} {sa : Nat → Nat} (hn : 20 ≤ n) {N : Nat} {g : Mem} {r : Int32} {g1 : Mem} (h : X6_text N g = some (r, g1)) : CTi l yX6_text (wsm yX6_text cX6_text 3 (some .int)) 5 D YM ad cA tys n sa g [.ref (ad 0)] r g1 := by
  refine ct_of RX6 rfl (by decide +kernel) (Nat.le_of_ble_eq_true rfl) rfl (fun sz => PBi D YM ad cA n r g1 sz) ?_
  intro p e R s m args below meth c C hr
  have L26h : ∀ (fu : Nat), (∀ (x1 : Int32) (x2 : Int32) (g : Mem), X6_text_L26 N fu x1 x2 g = some (r, g1) → WW p l e R s m args below meth c 3 D YM ad cA n (MQ below (PBi D YM ad cA n r g1 s.heap.size) args s 0 0 (AA n ad s.heap.size)) g 26 [(0, .ref (ad 0)), (1, .int x1), (2, .int x2)] []) := by
    intro fu
    induction fu with
    | zero => intro x1 x2 g h; cases h
    | succ fu ih =>
      intro x1 x2 g h
      rw [X6_text_L26] at h
      refine ww_iload_n C 2 dX6_text_26 rfl rfl 27 rfl ?_
      refine ww_iconst C (3 : Int32) dX6_text_27 (by decide) 28 rfl ?_
      refine ww_icmp_ge C 101 dX6_text_28 (by decide) h 31 rfl (fun h => ?_) (fun h => ?_)
      · refine ww_iload_n C 1 dX6_text_101 rfl rfl 102 rfl ?_
        refine ww_if_eq C 122 dX6_text_102 (by decide) h 105 rfl (fun h => ?_) (fun h => ?_)
        · refine ww_aload_n C 0 dX6_text_122 rfl rfl 123 rfl ?_
          refine ww_getS C cl_X6 (obM hn) 10 (by decide) rfl 8 rfl w_857 dX6_text_123 126 rfl ?_
          refine ww_iconst C (4 : Int32) dX6_text_126 (by decide) 127 rfl ?_
          refine ww_aload_n C 0 dX6_text_127 rfl rfl 128 rfl ?_
          refine ww_getI C cl_X6 (obM hn) 11 (by decide) rfl w_858 dX6_text_128 131 rfl ?_
          refine ww_imul C dX6_text_131 132 rfl ?_
          refine ww_iconst C (3 : Int32) dX6_text_132 (by decide) 133 rfl ?_
          refine ww_iadd C dX6_text_133 134 rfl ?_
          refine ww_aload_n C 0 dX6_text_134 rfl rfl 135 rfl ?_
          refine ww_getI C cl_X6 (obM hn) 28 (by decide) rfl w_875 dX6_text_135 138 rfl ?_
          refine ww_iast C (iaM hn 8 24 (by decide) (by decide) rfl) dX6_text_138 h 139 rfl (fun u45 h => ?_)
          refine ww_aload_n C 0 dX6_text_139 rfl rfl 140 rfl ?_
          refine ww_iconst C (0 : Int32) dX6_text_140 (by decide) 141 rfl ?_
          refine ww_putI C cl_X6 (obM hn) 8 (by decide) rfl tyX6 tyX6_ok nmX6 rfl rfl rfl w_855 dX6_text_141 h 144 rfl (fun u46 h => ?_)
          refine ww_iload_n C 1 dX6_text_144 rfl rfl 145 rfl ?_
          refine ww_if_ne C 156 dX6_text_145 (by decide) h 148 rfl (fun h => ?_) (fun h => ?_)
          · refine ww_aload_n C 0 dX6_text_156 rfl rfl 157 rfl ?_
            refine ww_dup C dX6_text_157 rfl 158 rfl ?_
            refine ww_getI C cl_X6 (obM hn) 11 (by decide) rfl w_858 dX6_text_158 161 rfl ?_
            refine ww_iconst C (1 : Int32) dX6_text_161 (by decide) 162 rfl ?_
            refine ww_iadd C dX6_text_162 163 rfl ?_
            refine ww_putI C cl_X6 (obM hn) 11 (by decide) rfl tyX6 tyX6_ok nmX6 rfl rfl rfl w_858 dX6_text_163 h 166 rfl (fun u47 h => ?_)
            refine ww_aload_n C 0 dX6_text_166 rfl rfl 167 rfl ?_
            refine ww_getI C cl_X6 (obM hn) 11 (by decide) rfl w_858 dX6_text_167 170 rfl ?_
            refine ww_iconst C (1 : Int32) dX6_text_170 (by decide) 171 rfl ?_
            refine ww_isub C dX6_text_171 172 rfl ?_
            exact ww_iret C dX6_text_172 hr h
          · refine ww_bipush C (-100 : Int32) dX6_text_148 (by decide) 150 rfl ?_
            refine ww_aload_n C 0 dX6_text_150 rfl rfl 151 rfl ?_
            refine ww_getI C cl_X6 (obM hn) 21 (by decide) rfl w_868 dX6_text_151 154 rfl ?_
            refine ww_isub C dX6_text_154 155 rfl ?_
            exact ww_iret C dX6_text_155 hr h
        · refine ww_aload_n C 0 dX6_text_105 rfl rfl 106 rfl ?_
          refine ww_callVv C (As := []) (st := []) h cl_X6.1 (obM hn) (fun _ _ hF => k_X6_next hn hF) w_804 cm_X6_next (by decide) (by decide) rfl rfl (Nat.le_of_ble_eq_true rfl) dX6_text_106 109 rfl (fun _ u48 h => ?_)
          refine ww_aload_n C 0 dX6_text_109 rfl rfl 110 rfl ?_
          refine ww_getI C cl_X6 (obM hn) 22 (by decide) rfl w_869 dX6_text_110 113 rfl ?_
          refine ww_if_ne C 120 dX6_text_113 (by decide) h 116 rfl (fun h => ?_) (fun h => ?_)
          · refine ww_iconst C (0 : Int32) dX6_text_120 (by decide) 121 rfl ?_
            refine ww_istore_n C [(1, .int (0 : Int32)), (0, .ref (ad 0)), (2, .int x2)] dX6_text_121 rfl (by decide) rfl 122 rfl ?_
            refine ww_aload_n C 1 dX6_text_122 rfl rfl 123 rfl ?_
            refine ww_getS C cl_X6 (obM hn) 10 (by decide) rfl 8 rfl w_857 dX6_text_123 126 rfl ?_
            refine ww_iconst C (4 : Int32) dX6_text_126 (by decide) 127 rfl ?_
            refine ww_aload_n C 1 dX6_text_127 rfl rfl 128 rfl ?_
            refine ww_getI C cl_X6 (obM hn) 11 (by decide) rfl w_858 dX6_text_128 131 rfl ?_
            refine ww_imul C dX6_text_131 132 rfl ?_
            refine ww_iconst C (3 : Int32) dX6_text_132 (by decide) 133 rfl ?_
            refine ww_iadd C dX6_text_133 134 rfl ?_
            refine ww_aload_n C 1 dX6_text_134 rfl rfl 135 rfl ?_
            refine ww_getI C cl_X6 (obM hn) 28 (by decide) rfl w_875 dX6_text_135 138 rfl ?_
            refine ww_iast C (iaM hn 8 24 (by decide) (by decide) rfl) dX6_text_138 h 139 rfl (fun u50 h => ?_)
            refine ww_aload_n C 1 dX6_text_139 rfl rfl 140 rfl ?_
            refine ww_iconst C (0 : Int32) dX6_text_140 (by decide) 141 rfl ?_
            refine ww_putI C cl_X6 (obM hn) 8 (by decide) rfl tyX6 tyX6_ok nmX6 rfl rfl rfl w_855 dX6_text_141 h 144 rfl (fun u51 h => ?_)
            refine ww_iload_n C 0 dX6_text_144 rfl rfl 145 rfl ?_
            refine ww_if_ne C 156 dX6_text_145 (by decide) h 148 rfl (fun h => ?_) (fun h => ?_)
            · refine ww_aload_n C 1 dX6_text_156 rfl rfl 157 rfl ?_
              refine ww_dup C dX6_text_157 rfl 158 rfl ?_
              refine ww_getI C cl_X6 (obM hn) 11 (by decide) rfl w_858 dX6_text_158 161 rfl ?_
              refine ww_iconst C (1 : Int32) dX6_text_161 (by decide) 162 rfl ?_
              refine ww_iadd C dX6_text_162 163 rfl ?_
              refine ww_putI C cl_X6 (obM hn) 11 (by decide) rfl tyX6 tyX6_ok nmX6 rfl rfl rfl w_858 dX6_text_163 h 166 rfl (fun u52 h => ?_)
              refine ww_aload_n C 1 dX6_text_166 rfl rfl 167 rfl ?_
              refine ww_getI C cl_X6 (obM hn) 11 (by decide) rfl w_858 dX6_text_167 170 rfl ?_
              refine ww_iconst C (1 : Int32) dX6_text_170 (by decide) 171 rfl ?_
              refine ww_isub C dX6_text_171 172 rfl ?_
              exact ww_iret C dX6_text_172 hr h
            · refine ww_bipush C (-100 : Int32) dX6_text_148 (by decide) 150 rfl ?_
              refine ww_aload_n C 1 dX6_text_150 rfl rfl 151 rfl ?_
              refine ww_getI C cl_X6 (obM hn) 21 (by decide) rfl w_868 dX6_text_151 154 rfl ?_
              refine ww_isub C dX6_text_154 155 rfl ?_
              exact ww_iret C dX6_text_155 hr h
          · refine ww_iconst C (1 : Int32) dX6_text_116 (by decide) 117 rfl ?_
            refine ww_goto C 121 dX6_text_117 (by decide) ?_
            refine ww_istore_n C [(1, .int (1 : Int32)), (0, .ref (ad 0)), (2, .int x2)] dX6_text_121 rfl (by decide) rfl 122 rfl ?_
            refine ww_aload_n C 1 dX6_text_122 rfl rfl 123 rfl ?_
            refine ww_getS C cl_X6 (obM hn) 10 (by decide) rfl 8 rfl w_857 dX6_text_123 126 rfl ?_
            refine ww_iconst C (4 : Int32) dX6_text_126 (by decide) 127 rfl ?_
            refine ww_aload_n C 1 dX6_text_127 rfl rfl 128 rfl ?_
            refine ww_getI C cl_X6 (obM hn) 11 (by decide) rfl w_858 dX6_text_128 131 rfl ?_
            refine ww_imul C dX6_text_131 132 rfl ?_
            refine ww_iconst C (3 : Int32) dX6_text_132 (by decide) 133 rfl ?_
            refine ww_iadd C dX6_text_133 134 rfl ?_
            refine ww_aload_n C 1 dX6_text_134 rfl rfl 135 rfl ?_
            refine ww_getI C cl_X6 (obM hn) 28 (by decide) rfl w_875 dX6_text_135 138 rfl ?_
            refine ww_iast C (iaM hn 8 24 (by decide) (by decide) rfl) dX6_text_138 h 139 rfl (fun u53 h => ?_)
            refine ww_aload_n C 1 dX6_text_139 rfl rfl 140 rfl ?_
            refine ww_iconst C (0 : Int32) dX6_text_140 (by decide) 141 rfl ?_
            refine ww_putI C cl_X6 (obM hn) 8 (by decide) rfl tyX6 tyX6_ok nmX6 rfl rfl rfl w_855 dX6_text_141 h 144 rfl (fun u54 h => ?_)
            refine ww_iload_n C 0 dX6_text_144 rfl rfl 145 rfl ?_
            refine ww_if_ne C 156 dX6_text_145 (by decide) h 148 rfl (fun h => ?_) (fun h => ?_)
            · refine ww_aload_n C 1 dX6_text_156 rfl rfl 157 rfl ?_
              refine ww_dup C dX6_text_157 rfl 158 rfl ?_
              refine ww_getI C cl_X6 (obM hn) 11 (by decide) rfl w_858 dX6_text_158 161 rfl ?_
              refine ww_iconst C (1 : Int32) dX6_text_161 (by decide) 162 rfl ?_
              refine ww_iadd C dX6_text_162 163 rfl ?_
              refine ww_putI C cl_X6 (obM hn) 11 (by decide) rfl tyX6 tyX6_ok nmX6 rfl rfl rfl w_858 dX6_text_163 h 166 rfl (fun u55 h => ?_)
              refine ww_aload_n C 1 dX6_text_166 rfl rfl 167 rfl ?_
              refine ww_getI C cl_X6 (obM hn) 11 (by decide) rfl w_858 dX6_text_167 170 rfl ?_
              refine ww_iconst C (1 : Int32) dX6_text_170 (by decide) 171 rfl ?_
              refine ww_isub C dX6_text_171 172 rfl ?_
              exact ww_iret C dX6_text_172 hr h
            · refine ww_bipush C (-100 : Int32) dX6_text_148 (by decide) 150 rfl ?_
              refine ww_aload_n C 1 dX6_text_150 rfl rfl 151 rfl ?_
              refine ww_getI C cl_X6 (obM hn) 21 (by decide) rfl w_868 dX6_text_151 154 rfl ?_
              refine ww_isub C dX6_text_154 155 rfl ?_
              exact ww_iret C dX6_text_155 hr h
      · refine ww_iload_n C 1 dX6_text_31 rfl rfl 32 rfl ?_
        refine ww_if_eq C 101 dX6_text_32 (by decide) h 35 rfl (fun h => ?_) (fun h => ?_)
        · refine ww_iload_n C 1 dX6_text_101 rfl rfl 102 rfl ?_
          refine ww_if_eq C 122 dX6_text_102 (by decide) h 105 rfl (fun h => ?_) (fun h => ?_)
          · refine ww_aload_n C 0 dX6_text_122 rfl rfl 123 rfl ?_
            refine ww_getS C cl_X6 (obM hn) 10 (by decide) rfl 8 rfl w_857 dX6_text_123 126 rfl ?_
            refine ww_iconst C (4 : Int32) dX6_text_126 (by decide) 127 rfl ?_
            refine ww_aload_n C 0 dX6_text_127 rfl rfl 128 rfl ?_
            refine ww_getI C cl_X6 (obM hn) 11 (by decide) rfl w_858 dX6_text_128 131 rfl ?_
            refine ww_imul C dX6_text_131 132 rfl ?_
            refine ww_iconst C (3 : Int32) dX6_text_132 (by decide) 133 rfl ?_
            refine ww_iadd C dX6_text_133 134 rfl ?_
            refine ww_aload_n C 0 dX6_text_134 rfl rfl 135 rfl ?_
            refine ww_getI C cl_X6 (obM hn) 28 (by decide) rfl w_875 dX6_text_135 138 rfl ?_
            refine ww_iast C (iaM hn 8 24 (by decide) (by decide) rfl) dX6_text_138 h 139 rfl (fun u56 h => ?_)
            refine ww_aload_n C 0 dX6_text_139 rfl rfl 140 rfl ?_
            refine ww_iconst C (0 : Int32) dX6_text_140 (by decide) 141 rfl ?_
            refine ww_putI C cl_X6 (obM hn) 8 (by decide) rfl tyX6 tyX6_ok nmX6 rfl rfl rfl w_855 dX6_text_141 h 144 rfl (fun u57 h => ?_)
            refine ww_iload_n C 1 dX6_text_144 rfl rfl 145 rfl ?_
            refine ww_if_ne C 156 dX6_text_145 (by decide) h 148 rfl (fun h => ?_) (fun h => ?_)
            · refine ww_aload_n C 0 dX6_text_156 rfl rfl 157 rfl ?_
              refine ww_dup C dX6_text_157 rfl 158 rfl ?_
              refine ww_getI C cl_X6 (obM hn) 11 (by decide) rfl w_858 dX6_text_158 161 rfl ?_
              refine ww_iconst C (1 : Int32) dX6_text_161 (by decide) 162 rfl ?_
              refine ww_iadd C dX6_text_162 163 rfl ?_
              refine ww_putI C cl_X6 (obM hn) 11 (by decide) rfl tyX6 tyX6_ok nmX6 rfl rfl rfl w_858 dX6_text_163 h 166 rfl (fun u58 h => ?_)
              refine ww_aload_n C 0 dX6_text_166 rfl rfl 167 rfl ?_
              refine ww_getI C cl_X6 (obM hn) 11 (by decide) rfl w_858 dX6_text_167 170 rfl ?_
              refine ww_iconst C (1 : Int32) dX6_text_170 (by decide) 171 rfl ?_
              refine ww_isub C dX6_text_171 172 rfl ?_
              exact ww_iret C dX6_text_172 hr h
            · refine ww_bipush C (-100 : Int32) dX6_text_148 (by decide) 150 rfl ?_
              refine ww_aload_n C 0 dX6_text_150 rfl rfl 151 rfl ?_
              refine ww_getI C cl_X6 (obM hn) 21 (by decide) rfl w_868 dX6_text_151 154 rfl ?_
              refine ww_isub C dX6_text_154 155 rfl ?_
              exact ww_iret C dX6_text_155 hr h
          · refine ww_aload_n C 0 dX6_text_105 rfl rfl 106 rfl ?_
            refine ww_callVv C (As := []) (st := []) h cl_X6.1 (obM hn) (fun _ _ hF => k_X6_next hn hF) w_804 cm_X6_next (by decide) (by decide) rfl rfl (Nat.le_of_ble_eq_true rfl) dX6_text_106 109 rfl (fun _ u59 h => ?_)
            refine ww_aload_n C 0 dX6_text_109 rfl rfl 110 rfl ?_
            refine ww_getI C cl_X6 (obM hn) 22 (by decide) rfl w_869 dX6_text_110 113 rfl ?_
            refine ww_if_ne C 120 dX6_text_113 (by decide) h 116 rfl (fun h => ?_) (fun h => ?_)
            · refine ww_iconst C (0 : Int32) dX6_text_120 (by decide) 121 rfl ?_
              refine ww_istore_n C [(1, .int (0 : Int32)), (0, .ref (ad 0)), (2, .int x2)] dX6_text_121 rfl (by decide) rfl 122 rfl ?_
              refine ww_aload_n C 1 dX6_text_122 rfl rfl 123 rfl ?_
              refine ww_getS C cl_X6 (obM hn) 10 (by decide) rfl 8 rfl w_857 dX6_text_123 126 rfl ?_
              refine ww_iconst C (4 : Int32) dX6_text_126 (by decide) 127 rfl ?_
              refine ww_aload_n C 1 dX6_text_127 rfl rfl 128 rfl ?_
              refine ww_getI C cl_X6 (obM hn) 11 (by decide) rfl w_858 dX6_text_128 131 rfl ?_
              refine ww_imul C dX6_text_131 132 rfl ?_
              refine ww_iconst C (3 : Int32) dX6_text_132 (by decide) 133 rfl ?_
              refine ww_iadd C dX6_text_133 134 rfl ?_
              refine ww_aload_n C 1 dX6_text_134 rfl rfl 135 rfl ?_
              refine ww_getI C cl_X6 (obM hn) 28 (by decide) rfl w_875 dX6_text_135 138 rfl ?_
              refine ww_iast C (iaM hn 8 24 (by decide) (by decide) rfl) dX6_text_138 h 139 rfl (fun u61 h => ?_)
              refine ww_aload_n C 1 dX6_text_139 rfl rfl 140 rfl ?_
              refine ww_iconst C (0 : Int32) dX6_text_140 (by decide) 141 rfl ?_
              refine ww_putI C cl_X6 (obM hn) 8 (by decide) rfl tyX6 tyX6_ok nmX6 rfl rfl rfl w_855 dX6_text_141 h 144 rfl (fun u62 h => ?_)
              refine ww_iload_n C 0 dX6_text_144 rfl rfl 145 rfl ?_
              refine ww_if_ne C 156 dX6_text_145 (by decide) h 148 rfl (fun h => ?_) (fun h => ?_)
              · refine ww_aload_n C 1 dX6_text_156 rfl rfl 157 rfl ?_
                refine ww_dup C dX6_text_157 rfl 158 rfl ?_
                refine ww_getI C cl_X6 (obM hn) 11 (by decide) rfl w_858 dX6_text_158 161 rfl ?_
                refine ww_iconst C (1 : Int32) dX6_text_161 (by decide) 162 rfl ?_
                refine ww_iadd C dX6_text_162 163 rfl ?_
                refine ww_putI C cl_X6 (obM hn) 11 (by decide) rfl tyX6 tyX6_ok nmX6 rfl rfl rfl w_858 dX6_text_163 h 166 rfl (fun u63 h => ?_)
                refine ww_aload_n C 1 dX6_text_166 rfl rfl 167 rfl ?_
                refine ww_getI C cl_X6 (obM hn) 11 (by decide) rfl w_858 dX6_text_167 170 rfl ?_
                refine ww_iconst C (1 : Int32) dX6_text_170 (by decide) 171 rfl ?_
                refine ww_isub C dX6_text_171 172 rfl ?_
                exact ww_iret C dX6_text_172 hr h
              · refine ww_bipush C (-100 : Int32) dX6_text_148 (by decide) 150 rfl ?_
                refine ww_aload_n C 1 dX6_text_150 rfl rfl 151 rfl ?_
                refine ww_getI C cl_X6 (obM hn) 21 (by decide) rfl w_868 dX6_text_151 154 rfl ?_
                refine ww_isub C dX6_text_154 155 rfl ?_
                exact ww_iret C dX6_text_155 hr h
            · refine ww_iconst C (1 : Int32) dX6_text_116 (by decide) 117 rfl ?_
              refine ww_goto C 121 dX6_text_117 (by decide) ?_
              refine ww_istore_n C [(1, .int (1 : Int32)), (0, .ref (ad 0)), (2, .int x2)] dX6_text_121 rfl (by decide) rfl 122 rfl ?_
              refine ww_aload_n C 1 dX6_text_122 rfl rfl 123 rfl ?_
              refine ww_getS C cl_X6 (obM hn) 10 (by decide) rfl 8 rfl w_857 dX6_text_123 126 rfl ?_
              refine ww_iconst C (4 : Int32) dX6_text_126 (by decide) 127 rfl ?_
              refine ww_aload_n C 1 dX6_text_127 rfl rfl 128 rfl ?_
              refine ww_getI C cl_X6 (obM hn) 11 (by decide) rfl w_858 dX6_text_128 131 rfl ?_
              refine ww_imul C dX6_text_131 132 rfl ?_
              refine ww_iconst C (3 : Int32) dX6_text_132 (by decide) 133 rfl ?_
              refine ww_iadd C dX6_text_133 134 rfl ?_
              refine ww_aload_n C 1 dX6_text_134 rfl rfl 135 rfl ?_
              refine ww_getI C cl_X6 (obM hn) 28 (by decide) rfl w_875 dX6_text_135 138 rfl ?_
              refine ww_iast C (iaM hn 8 24 (by decide) (by decide) rfl) dX6_text_138 h 139 rfl (fun u64 h => ?_)
              refine ww_aload_n C 1 dX6_text_139 rfl rfl 140 rfl ?_
              refine ww_iconst C (0 : Int32) dX6_text_140 (by decide) 141 rfl ?_
              refine ww_putI C cl_X6 (obM hn) 8 (by decide) rfl tyX6 tyX6_ok nmX6 rfl rfl rfl w_855 dX6_text_141 h 144 rfl (fun u65 h => ?_)
              refine ww_iload_n C 0 dX6_text_144 rfl rfl 145 rfl ?_
              refine ww_if_ne C 156 dX6_text_145 (by decide) h 148 rfl (fun h => ?_) (fun h => ?_)
              · refine ww_aload_n C 1 dX6_text_156 rfl rfl 157 rfl ?_
                refine ww_dup C dX6_text_157 rfl 158 rfl ?_
                refine ww_getI C cl_X6 (obM hn) 11 (by decide) rfl w_858 dX6_text_158 161 rfl ?_
                refine ww_iconst C (1 : Int32) dX6_text_161 (by decide) 162 rfl ?_
                refine ww_iadd C dX6_text_162 163 rfl ?_
                refine ww_putI C cl_X6 (obM hn) 11 (by decide) rfl tyX6 tyX6_ok nmX6 rfl rfl rfl w_858 dX6_text_163 h 166 rfl (fun u66 h => ?_)
                refine ww_aload_n C 1 dX6_text_166 rfl rfl 167 rfl ?_
                refine ww_getI C cl_X6 (obM hn) 11 (by decide) rfl w_858 dX6_text_167 170 rfl ?_
                refine ww_iconst C (1 : Int32) dX6_text_170 (by decide) 171 rfl ?_
                refine ww_isub C dX6_text_171 172 rfl ?_
                exact ww_iret C dX6_text_172 hr h
              · refine ww_bipush C (-100 : Int32) dX6_text_148 (by decide) 150 rfl ?_
                refine ww_aload_n C 1 dX6_text_150 rfl rfl 151 rfl ?_
                refine ww_getI C cl_X6 (obM hn) 21 (by decide) rfl w_868 dX6_text_151 154 rfl ?_
                refine ww_isub C dX6_text_154 155 rfl ?_
                exact ww_iret C dX6_text_155 hr h
        · refine ww_aload_n C 0 dX6_text_35 rfl rfl 36 rfl ?_
          refine ww_callVv C (As := []) (st := []) h cl_X6.1 (obM hn) (fun _ _ hF => k_X6_next hn hF) w_804 cm_X6_next (by decide) (by decide) rfl rfl (Nat.le_of_ble_eq_true rfl) dX6_text_36 39 rfl (fun _ u67 h => ?_)
          refine ww_aload_n C 0 dX6_text_39 rfl rfl 40 rfl ?_
          refine ww_getI C cl_X6 (obM hn) 22 (by decide) rfl w_869 dX6_text_40 43 rfl ?_
          refine ww_iconst C (3 : Int32) dX6_text_43 (by decide) 44 rfl ?_
          refine ww_icmp_ne C 59 dX6_text_44 (by decide) h 47 rfl (fun h => ?_) (fun h => ?_)
          · refine ww_iconst C (0 : Int32) dX6_text_59 (by decide) 60 rfl ?_
            refine ww_istore_n C [(1, .int (0 : Int32)), (0, .ref (ad 0)), (2, .int x2)] dX6_text_60 rfl (by decide) rfl 61 rfl ?_
            refine ww_aload_n C 1 dX6_text_61 rfl rfl 62 rfl ?_
            refine ww_getS C cl_X6 (obM hn) 10 (by decide) rfl 8 rfl w_857 dX6_text_62 65 rfl ?_
            refine ww_iconst C (4 : Int32) dX6_text_65 (by decide) 66 rfl ?_
            refine ww_aload_n C 1 dX6_text_66 rfl rfl 67 rfl ?_
            refine ww_getI C cl_X6 (obM hn) 11 (by decide) rfl w_858 dX6_text_67 70 rfl ?_
            refine ww_imul C dX6_text_70 71 rfl ?_
            refine ww_iload_n C 2 dX6_text_71 rfl rfl 72 rfl ?_
            refine ww_iadd C dX6_text_72 73 rfl ?_
            refine ww_aload_n C 1 dX6_text_73 rfl rfl 74 rfl ?_
            refine ww_getI C cl_X6 (obM hn) 28 (by decide) rfl w_875 dX6_text_74 77 rfl ?_
            refine ww_iast C (iaM hn 8 24 (by decide) (by decide) rfl) dX6_text_77 h 78 rfl (fun u69 h => ?_)
            refine ww_iload_n C 0 dX6_text_78 rfl rfl 79 rfl ?_
            refine ww_if_eq C 93 dX6_text_79 (by decide) h 82 rfl (fun h => ?_) (fun h => ?_)
            · refine ww_iconst C (0 : Int32) dX6_text_93 (by decide) 94 rfl ?_
              refine ww_istore_n C [(1, .int (0 : Int32)), (0, .ref (ad 0)), (2, .int x2)] dX6_text_94 rfl (by decide) rfl 95 rfl ?_
              refine ww_iinc C 2 (1 : Int32) (by decide) (fun v70 => [(2, .int v70), (1, .int (0 : Int32)), (0, .ref (ad 0))]) dX6_text_95 rfl (by decide) (fun _ => rfl) h 98 rfl (fun v70 h => ?_)
              refine ww_goto C 26 dX6_text_98 (by decide) ?_
              exact ww_sub [2, 1, 0] rfl (ih _ _ _ h)
            · refine ww_aload_n C 1 dX6_text_82 rfl rfl 83 rfl ?_
              refine ww_callVi C (As := []) (st := []) h cl_X6.1 (obM hn) (fun _ _ hF => k_X6_eRead hn hF) w_815 cm_X6_eRead (by decide) (by decide) rfl rfl (Nat.le_of_ble_eq_true rfl) dX6_text_83 86 rfl (fun v72 u71 h => ?_)
              refine ww_if_eq C 93 dX6_text_86 (by decide) h 89 rfl (fun h => ?_) (fun h => ?_)
              · refine ww_iconst C (0 : Int32) dX6_text_93 (by decide) 94 rfl ?_
                refine ww_istore_n C [(1, .int (0 : Int32)), (0, .ref (ad 0)), (2, .int x2)] dX6_text_94 rfl (by decide) rfl 95 rfl ?_
                refine ww_iinc C 2 (1 : Int32) (by decide) (fun v73 => [(2, .int v73), (1, .int (0 : Int32)), (0, .ref (ad 0))]) dX6_text_95 rfl (by decide) (fun _ => rfl) h 98 rfl (fun v73 h => ?_)
                refine ww_goto C 26 dX6_text_98 (by decide) ?_
                exact ww_sub [2, 1, 0] rfl (ih _ _ _ h)
              · refine ww_iconst C (1 : Int32) dX6_text_89 (by decide) 90 rfl ?_
                refine ww_goto C 94 dX6_text_90 (by decide) ?_
                refine ww_istore_n C [(1, .int (1 : Int32)), (0, .ref (ad 0)), (2, .int x2)] dX6_text_94 rfl (by decide) rfl 95 rfl ?_
                refine ww_iinc C 2 (1 : Int32) (by decide) (fun v74 => [(2, .int v74), (1, .int (1 : Int32)), (0, .ref (ad 0))]) dX6_text_95 rfl (by decide) (fun _ => rfl) h 98 rfl (fun v74 h => ?_)
                refine ww_goto C 26 dX6_text_98 (by decide) ?_
                exact ww_sub [2, 1, 0] rfl (ih _ _ _ h)
          · refine ww_aload_n C 0 dX6_text_47 rfl rfl 48 rfl ?_
            refine ww_getI C cl_X6 (obM hn) 23 (by decide) rfl w_870 dX6_text_48 51 rfl ?_
            refine ww_iload_n C 2 dX6_text_51 rfl rfl 52 rfl ?_
            refine ww_icmp_ne C 59 dX6_text_52 (by decide) h 55 rfl (fun h => ?_) (fun h => ?_)
            · refine ww_iconst C (0 : Int32) dX6_text_59 (by decide) 60 rfl ?_
              refine ww_istore_n C [(1, .int (0 : Int32)), (0, .ref (ad 0)), (2, .int x2)] dX6_text_60 rfl (by decide) rfl 61 rfl ?_
              refine ww_aload_n C 1 dX6_text_61 rfl rfl 62 rfl ?_
              refine ww_getS C cl_X6 (obM hn) 10 (by decide) rfl 8 rfl w_857 dX6_text_62 65 rfl ?_
              refine ww_iconst C (4 : Int32) dX6_text_65 (by decide) 66 rfl ?_
              refine ww_aload_n C 1 dX6_text_66 rfl rfl 67 rfl ?_
              refine ww_getI C cl_X6 (obM hn) 11 (by decide) rfl w_858 dX6_text_67 70 rfl ?_
              refine ww_imul C dX6_text_70 71 rfl ?_
              refine ww_iload_n C 2 dX6_text_71 rfl rfl 72 rfl ?_
              refine ww_iadd C dX6_text_72 73 rfl ?_
              refine ww_aload_n C 1 dX6_text_73 rfl rfl 74 rfl ?_
              refine ww_getI C cl_X6 (obM hn) 28 (by decide) rfl w_875 dX6_text_74 77 rfl ?_
              refine ww_iast C (iaM hn 8 24 (by decide) (by decide) rfl) dX6_text_77 h 78 rfl (fun u75 h => ?_)
              refine ww_iload_n C 0 dX6_text_78 rfl rfl 79 rfl ?_
              refine ww_if_eq C 93 dX6_text_79 (by decide) h 82 rfl (fun h => ?_) (fun h => ?_)
              · refine ww_iconst C (0 : Int32) dX6_text_93 (by decide) 94 rfl ?_
                refine ww_istore_n C [(1, .int (0 : Int32)), (0, .ref (ad 0)), (2, .int x2)] dX6_text_94 rfl (by decide) rfl 95 rfl ?_
                refine ww_iinc C 2 (1 : Int32) (by decide) (fun v76 => [(2, .int v76), (1, .int (0 : Int32)), (0, .ref (ad 0))]) dX6_text_95 rfl (by decide) (fun _ => rfl) h 98 rfl (fun v76 h => ?_)
                refine ww_goto C 26 dX6_text_98 (by decide) ?_
                exact ww_sub [2, 1, 0] rfl (ih _ _ _ h)
              · refine ww_aload_n C 1 dX6_text_82 rfl rfl 83 rfl ?_
                refine ww_callVi C (As := []) (st := []) h cl_X6.1 (obM hn) (fun _ _ hF => k_X6_eRead hn hF) w_815 cm_X6_eRead (by decide) (by decide) rfl rfl (Nat.le_of_ble_eq_true rfl) dX6_text_83 86 rfl (fun v78 u77 h => ?_)
                refine ww_if_eq C 93 dX6_text_86 (by decide) h 89 rfl (fun h => ?_) (fun h => ?_)
                · refine ww_iconst C (0 : Int32) dX6_text_93 (by decide) 94 rfl ?_
                  refine ww_istore_n C [(1, .int (0 : Int32)), (0, .ref (ad 0)), (2, .int x2)] dX6_text_94 rfl (by decide) rfl 95 rfl ?_
                  refine ww_iinc C 2 (1 : Int32) (by decide) (fun v79 => [(2, .int v79), (1, .int (0 : Int32)), (0, .ref (ad 0))]) dX6_text_95 rfl (by decide) (fun _ => rfl) h 98 rfl (fun v79 h => ?_)
                  refine ww_goto C 26 dX6_text_98 (by decide) ?_
                  exact ww_sub [2, 1, 0] rfl (ih _ _ _ h)
                · refine ww_iconst C (1 : Int32) dX6_text_89 (by decide) 90 rfl ?_
                  refine ww_goto C 94 dX6_text_90 (by decide) ?_
                  refine ww_istore_n C [(1, .int (1 : Int32)), (0, .ref (ad 0)), (2, .int x2)] dX6_text_94 rfl (by decide) rfl 95 rfl ?_
                  refine ww_iinc C 2 (1 : Int32) (by decide) (fun v80 => [(2, .int v80), (1, .int (1 : Int32)), (0, .ref (ad 0))]) dX6_text_95 rfl (by decide) (fun _ => rfl) h 98 rfl (fun v80 h => ?_)
                  refine ww_goto C 26 dX6_text_98 (by decide) ?_
                  exact ww_sub [2, 1, 0] rfl (ih _ _ _ h)
            · refine ww_iconst C (1 : Int32) dX6_text_55 (by decide) 56 rfl ?_
              refine ww_goto C 60 dX6_text_56 (by decide) ?_
              refine ww_istore_n C [(1, .int (1 : Int32)), (0, .ref (ad 0)), (2, .int x2)] dX6_text_60 rfl (by decide) rfl 61 rfl ?_
              refine ww_aload_n C 1 dX6_text_61 rfl rfl 62 rfl ?_
              refine ww_getS C cl_X6 (obM hn) 10 (by decide) rfl 8 rfl w_857 dX6_text_62 65 rfl ?_
              refine ww_iconst C (4 : Int32) dX6_text_65 (by decide) 66 rfl ?_
              refine ww_aload_n C 1 dX6_text_66 rfl rfl 67 rfl ?_
              refine ww_getI C cl_X6 (obM hn) 11 (by decide) rfl w_858 dX6_text_67 70 rfl ?_
              refine ww_imul C dX6_text_70 71 rfl ?_
              refine ww_iload_n C 2 dX6_text_71 rfl rfl 72 rfl ?_
              refine ww_iadd C dX6_text_72 73 rfl ?_
              refine ww_aload_n C 1 dX6_text_73 rfl rfl 74 rfl ?_
              refine ww_getI C cl_X6 (obM hn) 28 (by decide) rfl w_875 dX6_text_74 77 rfl ?_
              refine ww_iast C (iaM hn 8 24 (by decide) (by decide) rfl) dX6_text_77 h 78 rfl (fun u81 h => ?_)
              refine ww_iload_n C 0 dX6_text_78 rfl rfl 79 rfl ?_
              refine ww_if_eq C 93 dX6_text_79 (by decide) h 82 rfl (fun h => ?_) (fun h => ?_)
              · refine ww_iconst C (0 : Int32) dX6_text_93 (by decide) 94 rfl ?_
                refine ww_istore_n C [(1, .int (0 : Int32)), (0, .ref (ad 0)), (2, .int x2)] dX6_text_94 rfl (by decide) rfl 95 rfl ?_
                refine ww_iinc C 2 (1 : Int32) (by decide) (fun v82 => [(2, .int v82), (1, .int (0 : Int32)), (0, .ref (ad 0))]) dX6_text_95 rfl (by decide) (fun _ => rfl) h 98 rfl (fun v82 h => ?_)
                refine ww_goto C 26 dX6_text_98 (by decide) ?_
                exact ww_sub [2, 1, 0] rfl (ih _ _ _ h)
              · refine ww_aload_n C 1 dX6_text_82 rfl rfl 83 rfl ?_
                refine ww_callVi C (As := []) (st := []) h cl_X6.1 (obM hn) (fun _ _ hF => k_X6_eRead hn hF) w_815 cm_X6_eRead (by decide) (by decide) rfl rfl (Nat.le_of_ble_eq_true rfl) dX6_text_83 86 rfl (fun v84 u83 h => ?_)
                refine ww_if_eq C 93 dX6_text_86 (by decide) h 89 rfl (fun h => ?_) (fun h => ?_)
                · refine ww_iconst C (0 : Int32) dX6_text_93 (by decide) 94 rfl ?_
                  refine ww_istore_n C [(1, .int (0 : Int32)), (0, .ref (ad 0)), (2, .int x2)] dX6_text_94 rfl (by decide) rfl 95 rfl ?_
                  refine ww_iinc C 2 (1 : Int32) (by decide) (fun v85 => [(2, .int v85), (1, .int (0 : Int32)), (0, .ref (ad 0))]) dX6_text_95 rfl (by decide) (fun _ => rfl) h 98 rfl (fun v85 h => ?_)
                  refine ww_goto C 26 dX6_text_98 (by decide) ?_
                  exact ww_sub [2, 1, 0] rfl (ih _ _ _ h)
                · refine ww_iconst C (1 : Int32) dX6_text_89 (by decide) 90 rfl ?_
                  refine ww_goto C 94 dX6_text_90 (by decide) ?_
                  refine ww_istore_n C [(1, .int (1 : Int32)), (0, .ref (ad 0)), (2, .int x2)] dX6_text_94 rfl (by decide) rfl 95 rfl ?_
                  refine ww_iinc C 2 (1 : Int32) (by decide) (fun v86 => [(2, .int v86), (1, .int (1 : Int32)), (0, .ref (ad 0))]) dX6_text_95 rfl (by decide) (fun _ => rfl) h 98 rfl (fun v86 h => ?_)
                  refine ww_goto C 26 dX6_text_98 (by decide) ?_
                  exact ww_sub [2, 1, 0] rfl (ih _ _ _ h)
  rw [X6_text] at h
  refine ww_aload_n C 0 dX6_text_0 rfl rfl 1 rfl ?_
  refine ww_getI C cl_X6 (obM hn) 11 (by decide) rfl w_858 dX6_text_1 4 rfl ?_
  refine ww_bipush C (6 : Int32) dX6_text_4 (by decide) 6 rfl ?_
  refine ww_icmp_ne C 12 dX6_text_6 (by decide) h 9 rfl (fun h => ?_) (fun h => ?_)
  · refine ww_aload_n C 0 dX6_text_12 rfl rfl 13 rfl ?_
    refine ww_iconst C (0 : Int32) dX6_text_13 (by decide) 14 rfl ?_
    refine ww_putI C cl_X6 (obM hn) 20 (by decide) rfl tyX6 tyX6_ok nmX6 rfl rfl rfl w_867 dX6_text_14 h 17 rfl (fun u87 h => ?_)
    refine ww_aload_n C 0 dX6_text_17 rfl rfl 18 rfl ?_
    refine ww_iconst C (0 : Int32) dX6_text_18 (by decide) 19 rfl ?_
    refine ww_putI C cl_X6 (obM hn) 28 (by decide) rfl tyX6 tyX6_ok nmX6 rfl rfl rfl w_875 dX6_text_19 h 22 rfl (fun u88 h => ?_)
    refine ww_iconst C (1 : Int32) dX6_text_22 (by decide) 23 rfl ?_
    refine ww_istore_n C [(1, .int (1 : Int32)), (0, .ref (ad 0))] dX6_text_23 rfl (by decide) rfl 24 rfl ?_
    refine ww_iconst C (0 : Int32) dX6_text_24 (by decide) 25 rfl ?_
    refine ww_istore_n C [(2, .int (0 : Int32)), (1, .int (1 : Int32)), (0, .ref (ad 0))] dX6_text_25 rfl (by decide) rfl 26 rfl ?_
    exact ww_sub [2, 1, 0] rfl (L26h N _ _ _ h)
  · refine ww_bipush C (-4 : Int32) dX6_text_9 (by decide) 11 rfl ?_
    exact ww_iret C dX6_text_11 hr h

set_option maxRecDepth 100000 in
set_option maxHeartbeats 4000000 in
theorem k_X6_two {l : Launch} {D : va_G} {ad : Nat → Nat} {cA : Nat → ClassId} {tys : List (ClassId × FieldType)} {n : Nat} {sa : Nat → Nat} (hn : 20 ≤ n) {N : Nat} {g : Mem} {a1 : Int32} {a2 : Int32} {a3 : Int32} {r : Int32} {g1 : Mem} (h : X6_two N a1 a2 a3 g = some (r, g1)) : CTi l yX6_two (wsm yX6_two cX6_two 3 (some .int)) 1 D YM ad cA tys n sa g [.int a1, .int a2, .int a3] r g1 := by
  refine ct_of RX6 rfl (by decide +kernel) (Nat.le_of_ble_eq_true rfl) rfl (fun sz => PBi D YM ad cA n r g1 sz) ?_
  intro p e R s m args below meth c C hr
  rw [X6_two] at h
  refine ww_iload_n C 0 dX6_two_0 rfl rfl 1 rfl ?_
  refine sw_1 h (fun e15 h => ?_) (fun n16 h => ?_)
  · refine ww_tin C (v := (11 : Int32)) e15 44 dX6_two_1 (by decide) (by decide) rfl (by decide) ?_
    refine ww_iload_n C 1 dX6_two_44 rfl rfl 45 rfl ?_
    refine ww_if_ne C 52 dX6_two_45 (by decide) h 48 rfl (fun h => ?_) (fun h => ?_)
    · refine ww_iconst C (1 : Int32) dX6_two_52 (by decide) 53 rfl ?_
      refine ww_goto C 57 dX6_two_53 (by decide) ?_
      exact ww_iret C dX6_two_57 hr h
    · refine ww_iload_n C 2 dX6_two_48 rfl rfl 49 rfl ?_
      refine ww_if_eq C 56 dX6_two_49 (by decide) h 52 rfl (fun h => ?_) (fun h => ?_)
      · refine ww_iconst C (0 : Int32) dX6_two_56 (by decide) 57 rfl ?_
        exact ww_iret C dX6_two_57 hr h
      · refine ww_iconst C (1 : Int32) dX6_two_52 (by decide) 53 rfl ?_
        refine ww_goto C 57 dX6_two_53 (by decide) ?_
        exact ww_iret C dX6_two_57 hr h
  refine sw_1 h (fun e17 h => ?_) (fun n18 h => ?_)
  · refine ww_tin C (v := (12 : Int32)) e17 58 dX6_two_1 (by decide) (by decide) rfl (by decide) ?_
    refine ww_iload_n C 1 dX6_two_58 rfl rfl 59 rfl ?_
    refine ww_if_eq C 70 dX6_two_59 (by decide) h 62 rfl (fun h => ?_) (fun h => ?_)
    · refine ww_iconst C (0 : Int32) dX6_two_70 (by decide) 71 rfl ?_
      exact ww_iret C dX6_two_71 hr h
    · refine ww_iload_n C 2 dX6_two_62 rfl rfl 63 rfl ?_
      refine ww_if_eq C 70 dX6_two_63 (by decide) h 66 rfl (fun h => ?_) (fun h => ?_)
      · refine ww_iconst C (0 : Int32) dX6_two_70 (by decide) 71 rfl ?_
        exact ww_iret C dX6_two_71 hr h
      · refine ww_iconst C (1 : Int32) dX6_two_66 (by decide) 67 rfl ?_
        refine ww_goto C 71 dX6_two_67 (by decide) ?_
        exact ww_iret C dX6_two_71 hr h
  refine sw_1 h (fun e19 h => ?_) (fun n20 h => ?_)
  · refine ww_tin C (v := (13 : Int32)) e19 102 dX6_two_1 (by decide) (by decide) rfl (by decide) ?_
    refine ww_iload_n C 1 dX6_two_102 rfl rfl 103 rfl ?_
    refine ww_iload_n C 2 dX6_two_103 rfl rfl 104 rfl ?_
    refine ww_imul C dX6_two_104 105 rfl ?_
    exact ww_iret C dX6_two_105 hr h
  refine sw_1 h (fun e21 h => ?_) (fun n22 h => ?_)
  · refine ww_tin C (v := (14 : Int32)) e21 72 dX6_two_1 (by decide) (by decide) rfl (by decide) ?_
    refine ww_iload_n C 1 dX6_two_72 rfl rfl 73 rfl ?_
    refine ww_iload_n C 2 dX6_two_73 rfl rfl 74 rfl ?_
    refine ww_icmp_ge C 81 dX6_two_74 (by decide) h 77 rfl (fun h => ?_) (fun h => ?_)
    · refine ww_iconst C (0 : Int32) dX6_two_81 (by decide) 82 rfl ?_
      exact ww_iret C dX6_two_82 hr h
    · refine ww_iconst C (1 : Int32) dX6_two_77 (by decide) 78 rfl ?_
      refine ww_goto C 82 dX6_two_78 (by decide) ?_
      exact ww_iret C dX6_two_82 hr h
  refine sw_1 h (fun e23 h => ?_) (fun n24 h => ?_)
  · refine ww_tin C (v := (15 : Int32)) e23 83 dX6_two_1 (by decide) (by decide) rfl (by decide) ?_
    refine ww_iload_n C 1 dX6_two_83 rfl rfl 84 rfl ?_
    refine ww_iload_n C 2 dX6_two_84 rfl rfl 85 rfl ?_
    refine ww_icmp_ne C 92 dX6_two_85 (by decide) h 88 rfl (fun h => ?_) (fun h => ?_)
    · refine ww_iconst C (0 : Int32) dX6_two_92 (by decide) 93 rfl ?_
      exact ww_iret C dX6_two_93 hr h
    · refine ww_iconst C (1 : Int32) dX6_two_88 (by decide) 89 rfl ?_
      refine ww_goto C 93 dX6_two_89 (by decide) ?_
      exact ww_iret C dX6_two_93 hr h
  refine sw_1 h (fun e25 h => ?_) (fun n26 h => ?_)
  · refine ww_tin C (v := (16 : Int32)) e25 94 dX6_two_1 (by decide) (by decide) rfl (by decide) ?_
    refine ww_iload_n C 1 dX6_two_94 rfl rfl 95 rfl ?_
    refine ww_iload_n C 2 dX6_two_95 rfl rfl 96 rfl ?_
    refine ww_iadd C dX6_two_96 97 rfl ?_
    exact ww_iret C dX6_two_97 hr h
  refine sw_1 h (fun e27 h => ?_) (fun n28 h => ?_)
  · refine ww_tin C (v := (17 : Int32)) e27 98 dX6_two_1 (by decide) (by decide) rfl (by decide) ?_
    refine ww_iload_n C 1 dX6_two_98 rfl rfl 99 rfl ?_
    refine ww_iload_n C 2 dX6_two_99 rfl rfl 100 rfl ?_
    refine ww_isub C dX6_two_100 101 rfl ?_
    exact ww_iret C dX6_two_101 hr h
  refine ww_tout C 102 dX6_two_1 (by have q0 := sw_ne (z := 11) n16 rfl; have q1 := sw_ne (z := 12) n18 rfl; have q2 := sw_ne (z := 13) n20 rfl; have q3 := sw_ne (z := 14) n22 rfl; have q4 := sw_ne (z := 15) n24 rfl; have q5 := sw_ne (z := 16) n26 rfl; have q6 := sw_ne (z := 17) n28 rfl; omega) (by decide) ?_
  refine ww_iload_n C 1 dX6_two_102 rfl rfl 103 rfl ?_
  refine ww_iload_n C 2 dX6_two_103 rfl rfl 104 rfl ?_
  refine ww_imul C dX6_two_104 105 rfl ?_
  exact ww_iret C dX6_two_105 hr h

set_option maxRecDepth 100000 in
set_option maxHeartbeats 4000000 in
theorem k_X6_says {l : Launch} {D : va_G} {ad : Nat → Nat} {cA : Nat → ClassId} {tys : List (ClassId × FieldType)} {n : Nat} {sa : Nat → Nat} (hn : 20 ≤ n) {N : Nat} {g : Mem} {a1 : Int32} {r : Int32} {g1 : Mem} (h : X6_says N a1 g = some (r, g1)) : CTi l yX6_says (wsm yX6_says cX6_says 5 (some .int)) 2 D YM ad cA tys n sa g [.ref (ad 0), .int a1] r g1 := by
  refine ct_of RX6 rfl (by decide +kernel) (Nat.le_of_ble_eq_true rfl) rfl (fun sz => PBi D YM ad cA n r g1 sz) ?_
  intro p e R s m args below meth c C hr
  have L16h : ∀ (fu : Nat), (∀ (x2 : Int32) (x3 : Int32) (g : Mem), X6_says_L16 N a1 fu x2 x3 g = some (r, g1) → WW p l e R s m args below meth c 5 D YM ad cA n (MQ below (PBi D YM ad cA n r g1 s.heap.size) args s 0 0 (AA n ad s.heap.size)) g 16 [(0, .ref (ad 0)), (1, .int a1), (2, .int x2), (3, .int x3)] []) := by
    intro fu
    induction fu with
    | zero => intro x2 x3 g h; cases h
    | succ fu ih =>
      intro x2 x3 g h
      rw [X6_says_L16] at h
      refine ww_iload_n C 3 dX6_says_16 rfl rfl 17 rfl ?_
      refine ww_aload_n C 0 dX6_says_17 rfl rfl 18 rfl ?_
      refine ww_getS C cl_X6 (obM hn) 10 (by decide) rfl 8 rfl w_857 dX6_says_18 21 rfl ?_
      refine ww_iconst C (4 : Int32) dX6_says_21 (by decide) 22 rfl ?_
      refine ww_aload_n C 0 dX6_says_22 rfl rfl 23 rfl ?_
      refine ww_getI C cl_X6 (obM hn) 12 (by decide) rfl w_859 dX6_says_23 26 rfl ?_
      refine ww_imul C dX6_says_26 27 rfl ?_
      refine ww_iload_n C 1 dX6_says_27 rfl rfl 28 rfl ?_
      refine ww_iadd C dX6_says_28 29 rfl ?_
      refine ww_iconst C (1 : Int32) dX6_says_29 (by decide) 30 rfl ?_
      refine ww_iadd C dX6_says_30 31 rfl ?_
      refine ww_iald C (iaM hn 8 24 (by decide) (by decide) rfl) dX6_says_31 h 32 rfl (fun h => ?_)
      refine ww_icmp_ge C 197 dX6_says_32 (by decide) h 35 rfl (fun h => ?_) (fun h => ?_)
      · refine ww_aload_n C 0 dX6_says_197 rfl rfl 198 rfl ?_
        refine ww_getS C cl_X6 (obM hn) 29 (by decide) rfl 17 rfl w_876 dX6_says_198 201 rfl ?_
        refine ww_iconst C (0 : Int32) dX6_says_201 (by decide) 202 rfl ?_
        refine ww_iald C (iaM hn 17 200 (by decide) (by decide) rfl) dX6_says_202 h 203 rfl (fun h => ?_)
        exact ww_iret C dX6_says_203 hr h
      · refine ww_aload_n C 0 dX6_says_35 rfl rfl 36 rfl ?_
        refine ww_getS C cl_X6 (obM hn) 9 (by decide) rfl 7 rfl w_856 dX6_says_36 39 rfl ?_
        refine ww_sipush C (200 : Int32) dX6_says_39 (by decide) 42 rfl ?_
        refine ww_aload_n C 0 dX6_says_42 rfl rfl 43 rfl ?_
        refine ww_getI C cl_X6 (obM hn) 12 (by decide) rfl w_859 dX6_says_43 46 rfl ?_
        refine ww_imul C dX6_says_46 47 rfl ?_
        refine ww_iload_n C 3 dX6_says_47 rfl rfl 48 rfl ?_
        refine ww_iadd C dX6_says_48 49 rfl ?_
        refine ww_iald C (iaM hn 7 1200 (by decide) (by decide) rfl) dX6_says_49 h 50 rfl (fun h => ?_)
        refine ww_bi h (fun v26 h => ?_)
        refine ww_istore C [(4, .int v26), (0, .ref (ad 0)), (1, .int a1), (2, .int x2), (3, .int x3)] dX6_says_50 (by decide) rfl 52 rfl ?_
        refine ww_iload C 0 dX6_says_52 rfl 54 rfl ?_
        refine ww_ldc C (100000 : Int32) w_819 dX6_says_54 56 rfl ?_
        refine ww_icmp_ge C 66 dX6_says_56 (by decide) h 59 rfl (fun h => ?_) (fun h => ?_)
        · refine ww_aload_n C 1 dX6_says_66 rfl rfl 67 rfl ?_
          refine ww_getS C cl_X6 (obM hn) 29 (by decide) rfl 17 rfl w_876 dX6_says_67 70 rfl ?_
          refine ww_iload_n C 3 dX6_says_70 rfl rfl 71 rfl ?_
          refine ww_iload C 0 dX6_says_71 rfl 73 rfl ?_
          refine ww_bipush C (11 : Int32) dX6_says_73 (by decide) 75 rfl ?_
          refine ww_icmp_ge C 88 dX6_says_75 (by decide) h 78 rfl (fun h => ?_) (fun h => ?_)
          · refine ww_iload C 0 dX6_says_88 rfl 90 rfl ?_
            refine ww_ldc C (100000 : Int32) w_819 dX6_says_90 92 rfl ?_
            refine ww_isub C dX6_says_92 93 rfl ?_
            refine ww_iast C (iaM hn 17 200 (by decide) (by decide) rfl) dX6_says_93 h 94 rfl (fun u27 h => ?_)
            refine ww_iinc C 3 (1 : Int32) (by decide) (fun v28 => [(2, .int v28), (4, .int v26), (0, .ref (ad 0)), (1, .int a1), (3, .int x3)]) dX6_says_94 rfl (by decide) (fun _ => rfl) h 97 rfl (fun v28 h => ?_)
            refine ww_goto C 191 dX6_says_97 (by decide) ?_
            refine ww_iinc C 4 (1 : Int32) (by decide) (fun v29 => [(3, .int v29), (2, .int v28), (4, .int v26), (0, .ref (ad 0)), (1, .int a1)]) dX6_says_191 rfl (by decide) (fun _ => rfl) h 194 rfl (fun v29 h => ?_)
            refine ww_goto C 16 dX6_says_194 (by decide) ?_
            exact ww_sub [3, 4, 1, 0] rfl (ih _ _ _ h)
          · refine ww_aload_n C 1 dX6_says_78 rfl rfl 79 rfl ?_
            refine ww_getS C cl_X6 (obM hn) 30 (by decide) rfl 18 rfl w_877 dX6_says_79 82 rfl ?_
            refine ww_iload C 0 dX6_says_82 rfl 84 rfl ?_
            refine ww_iald C (iaM hn 18 6 (by decide) (by decide) rfl) dX6_says_84 h 85 rfl (fun h => ?_)
            refine ww_goto C 93 dX6_says_85 (by decide) ?_
            refine ww_iast C (iaM hn 17 200 (by decide) (by decide) rfl) dX6_says_93 h 94 rfl (fun u30 h => ?_)
            refine ww_iinc C 3 (1 : Int32) (by decide) (fun v31 => [(2, .int v31), (4, .int v26), (0, .ref (ad 0)), (1, .int a1), (3, .int x3)]) dX6_says_94 rfl (by decide) (fun _ => rfl) h 97 rfl (fun v31 h => ?_)
            refine ww_goto C 191 dX6_says_97 (by decide) ?_
            refine ww_iinc C 4 (1 : Int32) (by decide) (fun v32 => [(3, .int v32), (2, .int v31), (4, .int v26), (0, .ref (ad 0)), (1, .int a1)]) dX6_says_191 rfl (by decide) (fun _ => rfl) h 194 rfl (fun v32 h => ?_)
            refine ww_goto C 16 dX6_says_194 (by decide) ?_
            exact ww_sub [3, 4, 1, 0] rfl (ih _ _ _ h)
        · refine ww_iload C 0 dX6_says_59 rfl 61 rfl ?_
          refine ww_bipush C (11 : Int32) dX6_says_61 (by decide) 63 rfl ?_
          refine ww_icmp_ge C 100 dX6_says_63 (by decide) h 66 rfl (fun h => ?_) (fun h => ?_)
          · refine ww_iload C 0 dX6_says_100 rfl 102 rfl ?_
            refine ww_bipush C (13 : Int32) dX6_says_102 (by decide) 104 rfl ?_
            refine ww_icmp_ne C 134 dX6_says_104 (by decide) h 107 rfl (fun h => ?_) (fun h => ?_)
            · refine ww_iload C 0 dX6_says_134 rfl 136 rfl ?_
              refine ww_bipush C (19 : Int32) dX6_says_136 (by decide) 138 rfl ?_
              refine ww_icmp_ne C 161 dX6_says_138 (by decide) h 141 rfl (fun h => ?_) (fun h => ?_)
              · refine ww_iinc C 3 (-1 : Int32) (by decide) (fun v33 => [(2, .int v33), (4, .int v26), (0, .ref (ad 0)), (1, .int a1), (3, .int x3)]) dX6_says_161 rfl (by decide) (fun _ => rfl) h 164 rfl (fun v33 h => ?_)
                refine ww_aload_n C 2 dX6_says_164 rfl rfl 165 rfl ?_
                refine ww_getS C cl_X6 (obM hn) 29 (by decide) rfl 17 rfl w_876 dX6_says_165 168 rfl ?_
                refine ww_iload_n C 0 dX6_says_168 rfl rfl 169 rfl ?_
                refine ww_iconst C (1 : Int32) dX6_says_169 (by decide) 170 rfl ?_
                refine ww_isub C dX6_says_170 171 rfl ?_
                refine ww_iload C 1 dX6_says_171 rfl 173 rfl ?_
                refine ww_aload_n C 2 dX6_says_173 rfl rfl 174 rfl ?_
                refine ww_getS C cl_X6 (obM hn) 29 (by decide) rfl 17 rfl w_876 dX6_says_174 177 rfl ?_
                refine ww_iload_n C 0 dX6_says_177 rfl rfl 178 rfl ?_
                refine ww_iconst C (1 : Int32) dX6_says_178 (by decide) 179 rfl ?_
                refine ww_isub C dX6_says_179 180 rfl ?_
                refine ww_iald C (iaM hn 17 200 (by decide) (by decide) rfl) dX6_says_180 h 181 rfl (fun h => ?_)
                refine ww_aload_n C 2 dX6_says_181 rfl rfl 182 rfl ?_
                refine ww_getS C cl_X6 (obM hn) 29 (by decide) rfl 17 rfl w_876 dX6_says_182 185 rfl ?_
                refine ww_iload_n C 0 dX6_says_185 rfl rfl 186 rfl ?_
                refine ww_iald C (iaM hn 17 200 (by decide) (by decide) rfl) dX6_says_186 h 187 rfl (fun h => ?_)
                refine ww_callSi C (As := [.int v26, .int (g.1 17 (v33 - (1 : Int32)).toNatClampNeg), .int (g.1 17 (v33).toNatClampNeg)]) (st := [.int (v33 - (1 : Int32)), .ref (ad 17)]) h (fun _ _ hF => k_X6_two hn hF) w_1007 cm_X6_two (by decide) (by decide) rfl rfl (Nat.le_of_ble_eq_true rfl) dX6_says_187 190 rfl (fun v35 u34 h => ?_)
                refine ww_iast C (iaM hn 17 200 (by decide) (by decide) rfl) dX6_says_190 h 191 rfl (fun u36 h => ?_)
                refine ww_iinc C 4 (1 : Int32) (by decide) (fun v37 => [(3, .int v37), (2, .int v33), (4, .int v26), (0, .ref (ad 0)), (1, .int a1)]) dX6_says_191 rfl (by decide) (fun _ => rfl) h 194 rfl (fun v37 h => ?_)
                refine ww_goto C 16 dX6_says_194 (by decide) ?_
                exact ww_sub [3, 4, 1, 0] rfl (ih _ _ _ h)
              · refine ww_aload_n C 1 dX6_says_141 rfl rfl 142 rfl ?_
                refine ww_getS C cl_X6 (obM hn) 29 (by decide) rfl 17 rfl w_876 dX6_says_142 145 rfl ?_
                refine ww_iload_n C 3 dX6_says_145 rfl rfl 146 rfl ?_
                refine ww_iconst C (1 : Int32) dX6_says_146 (by decide) 147 rfl ?_
                refine ww_isub C dX6_says_147 148 rfl ?_
                refine ww_aload_n C 1 dX6_says_148 rfl rfl 149 rfl ?_
                refine ww_getS C cl_X6 (obM hn) 29 (by decide) rfl 17 rfl w_876 dX6_says_149 152 rfl ?_
                refine ww_iload_n C 3 dX6_says_152 rfl rfl 153 rfl ?_
                refine ww_iconst C (1 : Int32) dX6_says_153 (by decide) 154 rfl ?_
                refine ww_isub C dX6_says_154 155 rfl ?_
                refine ww_iald C (iaM hn 17 200 (by decide) (by decide) rfl) dX6_says_155 h 156 rfl (fun h => ?_)
                refine ww_ineg C dX6_says_156 157 rfl ?_
                refine ww_iast C (iaM hn 17 200 (by decide) (by decide) rfl) dX6_says_157 h 158 rfl (fun u38 h => ?_)
                refine ww_goto C 191 dX6_says_158 (by decide) ?_
                refine ww_iinc C 4 (1 : Int32) (by decide) (fun v39 => [(3, .int v39), (4, .int v26), (0, .ref (ad 0)), (1, .int a1), (2, .int x2)]) dX6_says_191 rfl (by decide) (fun _ => rfl) h 194 rfl (fun v39 h => ?_)
                refine ww_goto C 16 dX6_says_194 (by decide) ?_
                exact ww_sub [2, 3, 4, 0] rfl (ih _ _ _ h)
            · refine ww_aload_n C 1 dX6_says_107 rfl rfl 108 rfl ?_
              refine ww_getS C cl_X6 (obM hn) 29 (by decide) rfl 17 rfl w_876 dX6_says_108 111 rfl ?_
              refine ww_iload_n C 3 dX6_says_111 rfl rfl 112 rfl ?_
              refine ww_iconst C (1 : Int32) dX6_says_112 (by decide) 113 rfl ?_
              refine ww_isub C dX6_says_113 114 rfl ?_
              refine ww_aload_n C 1 dX6_says_114 rfl rfl 115 rfl ?_
              refine ww_getS C cl_X6 (obM hn) 29 (by decide) rfl 17 rfl w_876 dX6_says_115 118 rfl ?_
              refine ww_iload_n C 3 dX6_says_118 rfl rfl 119 rfl ?_
              refine ww_iconst C (1 : Int32) dX6_says_119 (by decide) 120 rfl ?_
              refine ww_isub C dX6_says_120 121 rfl ?_
              refine ww_iald C (iaM hn 17 200 (by decide) (by decide) rfl) dX6_says_121 h 122 rfl (fun h => ?_)
              refine ww_if_ne C 129 dX6_says_122 (by decide) h 125 rfl (fun h => ?_) (fun h => ?_)
              · refine ww_iconst C (0 : Int32) dX6_says_129 (by decide) 130 rfl ?_
                refine ww_iast C (iaM hn 17 200 (by decide) (by decide) rfl) dX6_says_130 h 131 rfl (fun u40 h => ?_)
                refine ww_goto C 191 dX6_says_131 (by decide) ?_
                refine ww_iinc C 4 (1 : Int32) (by decide) (fun v41 => [(3, .int v41), (4, .int v26), (0, .ref (ad 0)), (1, .int a1), (2, .int x2)]) dX6_says_191 rfl (by decide) (fun _ => rfl) h 194 rfl (fun v41 h => ?_)
                refine ww_goto C 16 dX6_says_194 (by decide) ?_
                exact ww_sub [2, 3, 4, 0] rfl (ih _ _ _ h)
              · refine ww_iconst C (1 : Int32) dX6_says_125 (by decide) 126 rfl ?_
                refine ww_goto C 130 dX6_says_126 (by decide) ?_
                refine ww_iast C (iaM hn 17 200 (by decide) (by decide) rfl) dX6_says_130 h 131 rfl (fun u42 h => ?_)
                refine ww_goto C 191 dX6_says_131 (by decide) ?_
                refine ww_iinc C 4 (1 : Int32) (by decide) (fun v43 => [(3, .int v43), (4, .int v26), (0, .ref (ad 0)), (1, .int a1), (2, .int x2)]) dX6_says_191 rfl (by decide) (fun _ => rfl) h 194 rfl (fun v43 h => ?_)
                refine ww_goto C 16 dX6_says_194 (by decide) ?_
                exact ww_sub [2, 3, 4, 0] rfl (ih _ _ _ h)
          · refine ww_aload_n C 1 dX6_says_66 rfl rfl 67 rfl ?_
            refine ww_getS C cl_X6 (obM hn) 29 (by decide) rfl 17 rfl w_876 dX6_says_67 70 rfl ?_
            refine ww_iload_n C 3 dX6_says_70 rfl rfl 71 rfl ?_
            refine ww_iload C 0 dX6_says_71 rfl 73 rfl ?_
            refine ww_bipush C (11 : Int32) dX6_says_73 (by decide) 75 rfl ?_
            refine ww_icmp_ge C 88 dX6_says_75 (by decide) h 78 rfl (fun h => ?_) (fun h => ?_)
            · refine ww_iload C 0 dX6_says_88 rfl 90 rfl ?_
              refine ww_ldc C (100000 : Int32) w_819 dX6_says_90 92 rfl ?_
              refine ww_isub C dX6_says_92 93 rfl ?_
              refine ww_iast C (iaM hn 17 200 (by decide) (by decide) rfl) dX6_says_93 h 94 rfl (fun u44 h => ?_)
              refine ww_iinc C 3 (1 : Int32) (by decide) (fun v45 => [(2, .int v45), (4, .int v26), (0, .ref (ad 0)), (1, .int a1), (3, .int x3)]) dX6_says_94 rfl (by decide) (fun _ => rfl) h 97 rfl (fun v45 h => ?_)
              refine ww_goto C 191 dX6_says_97 (by decide) ?_
              refine ww_iinc C 4 (1 : Int32) (by decide) (fun v46 => [(3, .int v46), (2, .int v45), (4, .int v26), (0, .ref (ad 0)), (1, .int a1)]) dX6_says_191 rfl (by decide) (fun _ => rfl) h 194 rfl (fun v46 h => ?_)
              refine ww_goto C 16 dX6_says_194 (by decide) ?_
              exact ww_sub [3, 4, 1, 0] rfl (ih _ _ _ h)
            · refine ww_aload_n C 1 dX6_says_78 rfl rfl 79 rfl ?_
              refine ww_getS C cl_X6 (obM hn) 30 (by decide) rfl 18 rfl w_877 dX6_says_79 82 rfl ?_
              refine ww_iload C 0 dX6_says_82 rfl 84 rfl ?_
              refine ww_iald C (iaM hn 18 6 (by decide) (by decide) rfl) dX6_says_84 h 85 rfl (fun h => ?_)
              refine ww_goto C 93 dX6_says_85 (by decide) ?_
              refine ww_iast C (iaM hn 17 200 (by decide) (by decide) rfl) dX6_says_93 h 94 rfl (fun u47 h => ?_)
              refine ww_iinc C 3 (1 : Int32) (by decide) (fun v48 => [(2, .int v48), (4, .int v26), (0, .ref (ad 0)), (1, .int a1), (3, .int x3)]) dX6_says_94 rfl (by decide) (fun _ => rfl) h 97 rfl (fun v48 h => ?_)
              refine ww_goto C 191 dX6_says_97 (by decide) ?_
              refine ww_iinc C 4 (1 : Int32) (by decide) (fun v49 => [(3, .int v49), (2, .int v48), (4, .int v26), (0, .ref (ad 0)), (1, .int a1)]) dX6_says_191 rfl (by decide) (fun _ => rfl) h 194 rfl (fun v49 h => ?_)
              refine ww_goto C 16 dX6_says_194 (by decide) ?_
              exact ww_sub [3, 4, 1, 0] rfl (ih _ _ _ h)
  rw [X6_says] at h
  refine ww_iconst C (0 : Int32) dX6_says_0 (by decide) 1 rfl ?_
  refine ww_istore_n C [(2, .int (0 : Int32)), (0, .ref (ad 0)), (1, .int a1)] dX6_says_1 rfl (by decide) rfl 2 rfl ?_
  refine ww_aload_n C 1 dX6_says_2 rfl rfl 3 rfl ?_
  refine ww_getS C cl_X6 (obM hn) 10 (by decide) rfl 8 rfl w_857 dX6_says_3 6 rfl ?_
  refine ww_iconst C (4 : Int32) dX6_says_6 (by decide) 7 rfl ?_
  refine ww_aload_n C 1 dX6_says_7 rfl rfl 8 rfl ?_
  refine ww_getI C cl_X6 (obM hn) 12 (by decide) rfl w_859 dX6_says_8 11 rfl ?_
  refine ww_imul C dX6_says_11 12 rfl ?_
  refine ww_iload_n C 2 dX6_says_12 rfl rfl 13 rfl ?_
  refine ww_iadd C dX6_says_13 14 rfl ?_
  refine ww_iald C (iaM hn 8 24 (by decide) (by decide) rfl) dX6_says_14 h 15 rfl (fun h => ?_)
  refine ww_bi h (fun v50 h => ?_)
  refine ww_istore_n C [(3, .int v50), (2, .int (0 : Int32)), (0, .ref (ad 0)), (1, .int a1)] dX6_says_15 rfl (by decide) rfl 16 rfl ?_
  exact ww_sub [2, 3, 1, 0] rfl (L16h N _ _ _ h)

set_option maxRecDepth 100000 in
set_option maxHeartbeats 4000000 in
theorem k_X6_force {l : Launch} {D : va_G} {ad : Nat → Nat} {cA : Nat → ClassId} {tys : List (ClassId × FieldType)} {n : Nat} {sa : Nat → Nat} (hn : 20 ≤ n) {N : Nat} {g : Mem} {a1 : Int32} {r : Int32} {g1 : Mem} (h : X6_force N a1 g = some (r, g1)) : CTi l yX6_force (wsm yX6_force cX6_force 3 (some .int)) 2 D YM ad cA tys n sa g [.ref (ad 0), .int a1] r g1 := by
  refine ct_of RX6 rfl (by decide +kernel) (Nat.le_of_ble_eq_true rfl) rfl (fun sz => PBi D YM ad cA n r g1 sz) ?_
  intro p e R s m args below meth c C hr
  rw [X6_force] at h
  refine ww_iload_n C 1 dX6_force_0 rfl rfl 1 rfl ?_
  refine ww_iconst C (0 : Int32) dX6_force_1 (by decide) 2 rfl ?_
  refine ww_aload_n C 0 dX6_force_2 rfl rfl 3 rfl ?_
  refine ww_getI C cl_X6 (obM hn) 11 (by decide) rfl w_858 dX6_force_3 6 rfl ?_
  refine ww_iconst C (1 : Int32) dX6_force_6 (by decide) 7 rfl ?_
  refine ww_isub C dX6_force_7 8 rfl ?_
  refine ww_callSi C (As := [.int a1, .int (0 : Int32), .int ((g.1 0 11) - (1 : Int32))]) (st := []) h (fun _ _ hF => k_X6_in hn hF) w_808 cm_X6_in (by decide) (by decide) rfl rfl (Nat.le_of_ble_eq_true rfl) dX6_force_8 11 rfl (fun v6 u5 h => ?_)
  refine ww_if_ne C 17 dX6_force_11 (by decide) h 14 rfl (fun h => ?_) (fun h => ?_)
  · refine ww_aload_n C 0 dX6_force_17 rfl rfl 18 rfl ?_
    refine ww_getI C cl_X6 (obM hn) 12 (by decide) rfl w_859 dX6_force_18 21 rfl ?_
    refine ww_bi h (fun v7 h => ?_)
    refine ww_istore_n C [(2, .int v7), (0, .ref (ad 0)), (1, .int a1)] dX6_force_21 rfl (by decide) rfl 22 rfl ?_
    refine ww_aload_n C 1 dX6_force_22 rfl rfl 23 rfl ?_
    refine ww_iload_n C 2 dX6_force_23 rfl rfl 24 rfl ?_
    refine ww_putI C cl_X6 (obM hn) 12 (by decide) rfl tyX6 tyX6_ok nmX6 rfl rfl rfl w_859 dX6_force_24 h 27 rfl (fun u8 h => ?_)
    refine ww_iload_n C 0 dX6_force_27 rfl rfl 28 rfl ?_
    exact ww_iret C dX6_force_28 hr h
  · refine ww_bipush C (-2 : Int32) dX6_force_14 (by decide) 16 rfl ?_
    exact ww_iret C dX6_force_16 hr h

set_option maxRecDepth 100000 in
set_option maxHeartbeats 4000000 in
theorem k_X6_asksOf {l : Launch} {D : va_G} {ad : Nat → Nat} {cA : Nat → ClassId} {tys : List (ClassId × FieldType)} {n : Nat} {sa : Nat → Nat} (hn : 20 ≤ n) {N : Nat} {g : Mem} {a1 : Int32} {a2 : Int32} {a3 : Int32} {r : Int32} {g1 : Mem} (h : X6_asksOf N a1 a2 a3 g = some (r, g1)) : CTi l yX6_asksOf (wsm yX6_asksOf cX6_asksOf 4 (some .int)) 3 D YM ad cA tys n sa g [.ref (ad 0), .int a1, .int a2, .int a3] r g1 := by
  refine ct_of RX6 rfl (by decide +kernel) (Nat.le_of_ble_eq_true rfl) rfl (fun sz => PBi D YM ad cA n r g1 sz) ?_
  intro p e R s m args below meth c C hr
  rw [X6_asksOf] at h
  refine ww_iload_n C 1 dX6_asksOf_0 rfl rfl 1 rfl ?_
  refine ww_iconst C (2 : Int32) dX6_asksOf_1 (by decide) 2 rfl ?_
  refine ww_icmp_ne C 48 dX6_asksOf_2 (by decide) h 5 rfl (fun h => ?_) (fun h => ?_)
  · refine ww_aload_n C 0 dX6_asksOf_48 rfl rfl 49 rfl ?_
    refine ww_getS C cl_X6 (obM hn) 30 (by decide) rfl 18 rfl w_877 dX6_asksOf_49 52 rfl ?_
    refine ww_iconst C (0 : Int32) dX6_asksOf_52 (by decide) 53 rfl ?_
    refine ww_aload_n C 0 dX6_asksOf_53 rfl rfl 54 rfl ?_
    refine ww_getS C cl_X6 (obM hn) 3 (by decide) rfl 3 rfl w_850 dX6_asksOf_54 57 rfl ?_
    refine ww_iconst C (2 : Int32) dX6_asksOf_57 (by decide) 58 rfl ?_
    refine ww_iload_n C 2 dX6_asksOf_58 rfl rfl 59 rfl ?_
    refine ww_imul C dX6_asksOf_59 60 rfl ?_
    refine ww_iald C (iaM hn 3 12 (by decide) (by decide) rfl) dX6_asksOf_60 h 61 rfl (fun h => ?_)
    refine ww_iast C (iaM hn 18 6 (by decide) (by decide) rfl) dX6_asksOf_61 h 62 rfl (fun u21 h => ?_)
    refine ww_aload_n C 0 dX6_asksOf_62 rfl rfl 63 rfl ?_
    refine ww_getS C cl_X6 (obM hn) 30 (by decide) rfl 18 rfl w_877 dX6_asksOf_63 66 rfl ?_
    refine ww_iconst C (1 : Int32) dX6_asksOf_66 (by decide) 67 rfl ?_
    refine ww_aload_n C 0 dX6_asksOf_67 rfl rfl 68 rfl ?_
    refine ww_getS C cl_X6 (obM hn) 4 (by decide) rfl 4 rfl w_851 dX6_asksOf_68 71 rfl ?_
    refine ww_iconst C (4 : Int32) dX6_asksOf_71 (by decide) 72 rfl ?_
    refine ww_iload_n C 3 dX6_asksOf_72 rfl rfl 73 rfl ?_
    refine ww_imul C dX6_asksOf_73 74 rfl ?_
    refine ww_iconst C (2 : Int32) dX6_asksOf_74 (by decide) 75 rfl ?_
    refine ww_iadd C dX6_asksOf_75 76 rfl ?_
    refine ww_iald C (iaM hn 4 48 (by decide) (by decide) rfl) dX6_asksOf_76 h 77 rfl (fun h => ?_)
    refine ww_iast C (iaM hn 18 6 (by decide) (by decide) rfl) dX6_asksOf_77 h 78 rfl (fun u22 h => ?_)
    refine ww_aload_n C 0 dX6_asksOf_78 rfl rfl 79 rfl ?_
    refine ww_getS C cl_X6 (obM hn) 30 (by decide) rfl 18 rfl w_877 dX6_asksOf_79 82 rfl ?_
    refine ww_iconst C (2 : Int32) dX6_asksOf_82 (by decide) 83 rfl ?_
    refine ww_aload_n C 0 dX6_asksOf_83 rfl rfl 84 rfl ?_
    refine ww_getS C cl_X6 (obM hn) 4 (by decide) rfl 4 rfl w_851 dX6_asksOf_84 87 rfl ?_
    refine ww_iconst C (4 : Int32) dX6_asksOf_87 (by decide) 88 rfl ?_
    refine ww_iload_n C 3 dX6_asksOf_88 rfl rfl 89 rfl ?_
    refine ww_imul C dX6_asksOf_89 90 rfl ?_
    refine ww_iconst C (1 : Int32) dX6_asksOf_90 (by decide) 91 rfl ?_
    refine ww_iadd C dX6_asksOf_91 92 rfl ?_
    refine ww_iald C (iaM hn 4 48 (by decide) (by decide) rfl) dX6_asksOf_92 h 93 rfl (fun h => ?_)
    refine ww_iast C (iaM hn 18 6 (by decide) (by decide) rfl) dX6_asksOf_93 h 94 rfl (fun u23 h => ?_)
    refine ww_aload_n C 0 dX6_asksOf_94 rfl rfl 95 rfl ?_
    refine ww_getS C cl_X6 (obM hn) 30 (by decide) rfl 18 rfl w_877 dX6_asksOf_95 98 rfl ?_
    refine ww_iconst C (3 : Int32) dX6_asksOf_98 (by decide) 99 rfl ?_
    refine ww_aload_n C 0 dX6_asksOf_99 rfl rfl 100 rfl ?_
    refine ww_getS C cl_X6 (obM hn) 4 (by decide) rfl 4 rfl w_851 dX6_asksOf_100 103 rfl ?_
    refine ww_iconst C (4 : Int32) dX6_asksOf_103 (by decide) 104 rfl ?_
    refine ww_iload_n C 3 dX6_asksOf_104 rfl rfl 105 rfl ?_
    refine ww_imul C dX6_asksOf_105 106 rfl ?_
    refine ww_iald C (iaM hn 4 48 (by decide) (by decide) rfl) dX6_asksOf_106 h 107 rfl (fun h => ?_)
    refine ww_iast C (iaM hn 18 6 (by decide) (by decide) rfl) dX6_asksOf_107 h 108 rfl (fun u24 h => ?_)
    refine ww_aload_n C 0 dX6_asksOf_108 rfl rfl 109 rfl ?_
    refine ww_getS C cl_X6 (obM hn) 30 (by decide) rfl 18 rfl w_877 dX6_asksOf_109 112 rfl ?_
    refine ww_iconst C (5 : Int32) dX6_asksOf_112 (by decide) 113 rfl ?_
    refine ww_aload_n C 0 dX6_asksOf_113 rfl rfl 114 rfl ?_
    refine ww_getS C cl_X6 (obM hn) 2 (by decide) rfl 2 rfl w_849 dX6_asksOf_114 117 rfl ?_
    refine ww_iload_n C 2 dX6_asksOf_117 rfl rfl 118 rfl ?_
    refine ww_iald C (iaM hn 2 6 (by decide) (by decide) rfl) dX6_asksOf_118 h 119 rfl (fun h => ?_)
    refine ww_iast C (iaM hn 18 6 (by decide) (by decide) rfl) dX6_asksOf_119 h 120 rfl (fun u25 h => ?_)
    refine ww_aload_n C 0 dX6_asksOf_120 rfl rfl 121 rfl ?_
    refine ww_getS C cl_X6 (obM hn) 30 (by decide) rfl 18 rfl w_877 dX6_asksOf_121 124 rfl ?_
    refine ww_iconst C (4 : Int32) dX6_asksOf_124 (by decide) 125 rfl ?_
    refine ww_aload_n C 0 dX6_asksOf_125 rfl rfl 126 rfl ?_
    refine ww_getI C cl_X6 (obM hn) 6 (by decide) rfl w_853 dX6_asksOf_126 129 rfl ?_
    refine ww_iast C (iaM hn 18 6 (by decide) (by decide) rfl) dX6_asksOf_129 h 130 rfl (fun u26 h => ?_)
    refine ww_aload_n C 0 dX6_asksOf_130 rfl rfl 131 rfl ?_
    refine ww_iload_n C 1 dX6_asksOf_131 rfl rfl 132 rfl ?_
    refine ww_callVi C (As := [.int a1]) (st := []) h cl_X6.1 (obM hn) (fun _ _ hF => k_X6_says hn hF) w_1003 cm_X6_says (by decide) (by decide) rfl rfl (Nat.le_of_ble_eq_true rfl) dX6_asksOf_132 135 rfl (fun v28 u27 h => ?_)
    refine ww_iconst C (0 : Int32) dX6_asksOf_135 (by decide) 136 rfl ?_
    refine ww_bipush C (99 : Int32) dX6_asksOf_136 (by decide) 138 rfl ?_
    refine ww_callSi C (As := [.int v28, .int (0 : Int32), .int (99 : Int32)]) (st := []) h (fun _ _ hF => k_X6_within hn hF) w_1010 cm_X6_within (by decide) (by decide) rfl rfl (Nat.le_of_ble_eq_true rfl) dX6_asksOf_138 141 rfl (fun v30 u29 h => ?_)
    exact ww_iret C dX6_asksOf_141 hr h
  · refine ww_aload_n C 0 dX6_asksOf_5 rfl rfl 6 rfl ?_
    refine ww_getS C cl_X6 (obM hn) 30 (by decide) rfl 18 rfl w_877 dX6_asksOf_6 9 rfl ?_
    refine ww_iconst C (0 : Int32) dX6_asksOf_9 (by decide) 10 rfl ?_
    refine ww_iconst C (0 : Int32) dX6_asksOf_10 (by decide) 11 rfl ?_
    refine ww_iast C (iaM hn 18 6 (by decide) (by decide) rfl) dX6_asksOf_11 h 12 rfl (fun u31 h => ?_)
    refine ww_aload_n C 0 dX6_asksOf_12 rfl rfl 13 rfl ?_
    refine ww_getS C cl_X6 (obM hn) 30 (by decide) rfl 18 rfl w_877 dX6_asksOf_13 16 rfl ?_
    refine ww_iconst C (1 : Int32) dX6_asksOf_16 (by decide) 17 rfl ?_
    refine ww_iconst C (0 : Int32) dX6_asksOf_17 (by decide) 18 rfl ?_
    refine ww_iast C (iaM hn 18 6 (by decide) (by decide) rfl) dX6_asksOf_18 h 19 rfl (fun u32 h => ?_)
    refine ww_aload_n C 0 dX6_asksOf_19 rfl rfl 20 rfl ?_
    refine ww_getS C cl_X6 (obM hn) 30 (by decide) rfl 18 rfl w_877 dX6_asksOf_20 23 rfl ?_
    refine ww_iconst C (2 : Int32) dX6_asksOf_23 (by decide) 24 rfl ?_
    refine ww_aload_n C 0 dX6_asksOf_24 rfl rfl 25 rfl ?_
    refine ww_getS C cl_X6 (obM hn) 5 (by decide) rfl 5 rfl w_852 dX6_asksOf_25 28 rfl ?_
    refine ww_iload_n C 3 dX6_asksOf_28 rfl rfl 29 rfl ?_
    refine ww_iald C (iaM hn 5 6 (by decide) (by decide) rfl) dX6_asksOf_29 h 30 rfl (fun h => ?_)
    refine ww_iast C (iaM hn 18 6 (by decide) (by decide) rfl) dX6_asksOf_30 h 31 rfl (fun u33 h => ?_)
    refine ww_aload_n C 0 dX6_asksOf_31 rfl rfl 32 rfl ?_
    refine ww_getS C cl_X6 (obM hn) 30 (by decide) rfl 18 rfl w_877 dX6_asksOf_32 35 rfl ?_
    refine ww_iconst C (3 : Int32) dX6_asksOf_35 (by decide) 36 rfl ?_
    refine ww_iload_n C 3 dX6_asksOf_36 rfl rfl 37 rfl ?_
    refine ww_iast C (iaM hn 18 6 (by decide) (by decide) rfl) dX6_asksOf_37 h 38 rfl (fun u34 h => ?_)
    refine ww_aload_n C 0 dX6_asksOf_38 rfl rfl 39 rfl ?_
    refine ww_getS C cl_X6 (obM hn) 30 (by decide) rfl 18 rfl w_877 dX6_asksOf_39 42 rfl ?_
    refine ww_iconst C (5 : Int32) dX6_asksOf_42 (by decide) 43 rfl ?_
    refine ww_iconst C (0 : Int32) dX6_asksOf_43 (by decide) 44 rfl ?_
    refine ww_iast C (iaM hn 18 6 (by decide) (by decide) rfl) dX6_asksOf_44 h 45 rfl (fun u35 h => ?_)
    refine ww_goto C 120 dX6_asksOf_45 (by decide) ?_
    refine ww_aload_n C 0 dX6_asksOf_120 rfl rfl 121 rfl ?_
    refine ww_getS C cl_X6 (obM hn) 30 (by decide) rfl 18 rfl w_877 dX6_asksOf_121 124 rfl ?_
    refine ww_iconst C (4 : Int32) dX6_asksOf_124 (by decide) 125 rfl ?_
    refine ww_aload_n C 0 dX6_asksOf_125 rfl rfl 126 rfl ?_
    refine ww_getI C cl_X6 (obM hn) 6 (by decide) rfl w_853 dX6_asksOf_126 129 rfl ?_
    refine ww_iast C (iaM hn 18 6 (by decide) (by decide) rfl) dX6_asksOf_129 h 130 rfl (fun u36 h => ?_)
    refine ww_aload_n C 0 dX6_asksOf_130 rfl rfl 131 rfl ?_
    refine ww_iload_n C 1 dX6_asksOf_131 rfl rfl 132 rfl ?_
    refine ww_callVi C (As := [.int a1]) (st := []) h cl_X6.1 (obM hn) (fun _ _ hF => k_X6_says hn hF) w_1003 cm_X6_says (by decide) (by decide) rfl rfl (Nat.le_of_ble_eq_true rfl) dX6_asksOf_132 135 rfl (fun v38 u37 h => ?_)
    refine ww_iconst C (0 : Int32) dX6_asksOf_135 (by decide) 136 rfl ?_
    refine ww_bipush C (99 : Int32) dX6_asksOf_136 (by decide) 138 rfl ?_
    refine ww_callSi C (As := [.int v38, .int (0 : Int32), .int (99 : Int32)]) (st := []) h (fun _ _ hF => k_X6_within hn hF) w_1010 cm_X6_within (by decide) (by decide) rfl rfl (Nat.le_of_ble_eq_true rfl) dX6_asksOf_138 141 rfl (fun v40 u39 h => ?_)
    exact ww_iret C dX6_asksOf_141 hr h

set_option maxRecDepth 100000 in
set_option maxHeartbeats 4000000 in
theorem k_X6_asks {l : Launch} {D : va_G} {ad : Nat → Nat} {cA : Nat → ClassId} {tys : List (ClassId × FieldType)} {n : Nat} {sa : Nat → Nat} (hn : 20 ≤ n) {N : Nat} {g : Mem} {a1 : Int32} {a2 : Int32} {a3 : Int32} {r : Int32} {g1 : Mem} (h : X6_asks N a1 a2 a3 g = some (r, g1)) : CTi l yX6_asks (wsm yX6_asks cX6_asks 5 (some .int)) 4 D YM ad cA tys n sa g [.ref (ad 0), .int a1, .int a2, .int a3] r g1 := by
  refine ct_of RX6 rfl (by decide +kernel) (Nat.le_of_ble_eq_true rfl) rfl (fun sz => PBi D YM ad cA n r g1 sz) ?_
  intro p e R s m args below meth c C hr
  rw [X6_asks] at h
  refine ww_iload_n C 1 dX6_asks_0 rfl rfl 1 rfl ?_
  refine ww_iconst C (2 : Int32) dX6_asks_1 (by decide) 2 rfl ?_
  refine ww_icmp_ne C 12 dX6_asks_2 (by decide) h 5 rfl (fun h => ?_) (fun h => ?_)
  · refine ww_iload_n C 1 dX6_asks_12 rfl rfl 13 rfl ?_
    refine ww_iconst C (0 : Int32) dX6_asks_13 (by decide) 14 rfl ?_
    refine ww_iconst C (1 : Int32) dX6_asks_14 (by decide) 15 rfl ?_
    refine ww_callSi C (As := [.int a1, .int (0 : Int32), .int (1 : Int32)]) (st := []) h (fun _ _ hF => k_X6_in hn hF) w_808 cm_X6_in (by decide) (by decide) rfl rfl (Nat.le_of_ble_eq_true rfl) dX6_asks_15 18 rfl (fun v20 u19 h => ?_)
    refine ww_if_eq C 40 dX6_asks_18 (by decide) h 21 rfl (fun h => ?_) (fun h => ?_)
    · refine ww_iconst C (0 : Int32) dX6_asks_40 (by decide) 41 rfl ?_
      refine ww_istore C [(4, .int (0 : Int32)), (0, .ref (ad 0)), (1, .int a1), (2, .int a2), (3, .int a3)] dX6_asks_41 (by decide) rfl 43 rfl ?_
      refine ww_iload C 0 dX6_asks_43 rfl 45 rfl ?_
      refine ww_if_eq C 58 dX6_asks_45 (by decide) h 48 rfl (fun h => ?_) (fun h => ?_)
      · refine ww_sipush C (-1000 : Int32) dX6_asks_58 (by decide) 61 rfl ?_
        exact ww_iret C dX6_asks_61 hr h
      · refine ww_aload_n C 1 dX6_asks_48 rfl rfl 49 rfl ?_
        refine ww_iload_n C 2 dX6_asks_49 rfl rfl 50 rfl ?_
        refine ww_iload_n C 3 dX6_asks_50 rfl rfl 51 rfl ?_
        refine ww_iload_n C 4 dX6_asks_51 rfl rfl 52 rfl ?_
        refine ww_callVi C (As := [.int a1, .int a2, .int a3]) (st := []) h cl_X6.1 (obM hn) (fun _ _ hF => k_X6_asksOf hn hF) w_999 cm_X6_asksOf (by decide) (by decide) rfl rfl (Nat.le_of_ble_eq_true rfl) dX6_asks_52 55 rfl (fun v22 u21 h => ?_)
        refine ww_goto C 61 dX6_asks_55 (by decide) ?_
        exact ww_iret C dX6_asks_61 hr h
    · refine ww_aload_n C 0 dX6_asks_21 rfl rfl 22 rfl ?_
      refine ww_iload_n C 2 dX6_asks_22 rfl rfl 23 rfl ?_
      refine ww_callVi C (As := [.int a2]) (st := []) h cl_X6.1 (obM hn) (fun _ _ hF => k_X6_isOne hn hF) w_995 cm_X6_isOne (by decide) (by decide) rfl rfl (Nat.le_of_ble_eq_true rfl) dX6_asks_23 26 rfl (fun v24 u23 h => ?_)
      refine ww_if_eq C 40 dX6_asks_26 (by decide) h 29 rfl (fun h => ?_) (fun h => ?_)
      · refine ww_iconst C (0 : Int32) dX6_asks_40 (by decide) 41 rfl ?_
        refine ww_istore C [(4, .int (0 : Int32)), (0, .ref (ad 0)), (1, .int a1), (2, .int a2), (3, .int a3)] dX6_asks_41 (by decide) rfl 43 rfl ?_
        refine ww_iload C 0 dX6_asks_43 rfl 45 rfl ?_
        refine ww_if_eq C 58 dX6_asks_45 (by decide) h 48 rfl (fun h => ?_) (fun h => ?_)
        · refine ww_sipush C (-1000 : Int32) dX6_asks_58 (by decide) 61 rfl ?_
          exact ww_iret C dX6_asks_61 hr h
        · refine ww_aload_n C 1 dX6_asks_48 rfl rfl 49 rfl ?_
          refine ww_iload_n C 2 dX6_asks_49 rfl rfl 50 rfl ?_
          refine ww_iload_n C 3 dX6_asks_50 rfl rfl 51 rfl ?_
          refine ww_iload_n C 4 dX6_asks_51 rfl rfl 52 rfl ?_
          refine ww_callVi C (As := [.int a1, .int a2, .int a3]) (st := []) h cl_X6.1 (obM hn) (fun _ _ hF => k_X6_asksOf hn hF) w_999 cm_X6_asksOf (by decide) (by decide) rfl rfl (Nat.le_of_ble_eq_true rfl) dX6_asks_52 55 rfl (fun v26 u25 h => ?_)
          refine ww_goto C 61 dX6_asks_55 (by decide) ?_
          exact ww_iret C dX6_asks_61 hr h
      · refine ww_iload_n C 3 dX6_asks_29 rfl rfl 30 rfl ?_
        refine ww_callSi C (As := [.int a3]) (st := []) h (fun _ _ hF => k_X6_isCask hn hF) w_965 cm_X6_isCask (by decide) (by decide) rfl rfl (Nat.le_of_ble_eq_true rfl) dX6_asks_30 33 rfl (fun v28 u27 h => ?_)
        refine ww_if_eq C 40 dX6_asks_33 (by decide) h 36 rfl (fun h => ?_) (fun h => ?_)
        · refine ww_iconst C (0 : Int32) dX6_asks_40 (by decide) 41 rfl ?_
          refine ww_istore C [(4, .int (0 : Int32)), (0, .ref (ad 0)), (1, .int a1), (2, .int a2), (3, .int a3)] dX6_asks_41 (by decide) rfl 43 rfl ?_
          refine ww_iload C 0 dX6_asks_43 rfl 45 rfl ?_
          refine ww_if_eq C 58 dX6_asks_45 (by decide) h 48 rfl (fun h => ?_) (fun h => ?_)
          · refine ww_sipush C (-1000 : Int32) dX6_asks_58 (by decide) 61 rfl ?_
            exact ww_iret C dX6_asks_61 hr h
          · refine ww_aload_n C 1 dX6_asks_48 rfl rfl 49 rfl ?_
            refine ww_iload_n C 2 dX6_asks_49 rfl rfl 50 rfl ?_
            refine ww_iload_n C 3 dX6_asks_50 rfl rfl 51 rfl ?_
            refine ww_iload_n C 4 dX6_asks_51 rfl rfl 52 rfl ?_
            refine ww_callVi C (As := [.int a1, .int a2, .int a3]) (st := []) h cl_X6.1 (obM hn) (fun _ _ hF => k_X6_asksOf hn hF) w_999 cm_X6_asksOf (by decide) (by decide) rfl rfl (Nat.le_of_ble_eq_true rfl) dX6_asks_52 55 rfl (fun v30 u29 h => ?_)
            refine ww_goto C 61 dX6_asks_55 (by decide) ?_
            exact ww_iret C dX6_asks_61 hr h
        · refine ww_iconst C (1 : Int32) dX6_asks_36 (by decide) 37 rfl ?_
          refine ww_goto C 41 dX6_asks_37 (by decide) ?_
          refine ww_istore C [(4, .int (1 : Int32)), (0, .ref (ad 0)), (1, .int a1), (2, .int a2), (3, .int a3)] dX6_asks_41 (by decide) rfl 43 rfl ?_
          refine ww_iload C 0 dX6_asks_43 rfl 45 rfl ?_
          refine ww_if_eq C 58 dX6_asks_45 (by decide) h 48 rfl (fun h => ?_) (fun h => ?_)
          · refine ww_sipush C (-1000 : Int32) dX6_asks_58 (by decide) 61 rfl ?_
            exact ww_iret C dX6_asks_61 hr h
          · refine ww_aload_n C 1 dX6_asks_48 rfl rfl 49 rfl ?_
            refine ww_iload_n C 2 dX6_asks_49 rfl rfl 50 rfl ?_
            refine ww_iload_n C 3 dX6_asks_50 rfl rfl 51 rfl ?_
            refine ww_iload_n C 4 dX6_asks_51 rfl rfl 52 rfl ?_
            refine ww_callVi C (As := [.int a1, .int a2, .int a3]) (st := []) h cl_X6.1 (obM hn) (fun _ _ hF => k_X6_asksOf hn hF) w_999 cm_X6_asksOf (by decide) (by decide) rfl rfl (Nat.le_of_ble_eq_true rfl) dX6_asks_52 55 rfl (fun v32 u31 h => ?_)
            refine ww_goto C 61 dX6_asks_55 (by decide) ?_
            exact ww_iret C dX6_asks_61 hr h
  · refine ww_iload_n C 3 dX6_asks_5 rfl rfl 6 rfl ?_
    refine ww_callSi C (As := [.int a3]) (st := []) h (fun _ _ hF => k_X6_isSky hn hF) w_992 cm_X6_isSky (by decide) (by decide) rfl rfl (Nat.le_of_ble_eq_true rfl) dX6_asks_6 9 rfl (fun v34 u33 h => ?_)
    refine ww_goto C 41 dX6_asks_9 (by decide) ?_
    refine ww_istore C [(4, .int v34), (0, .ref (ad 0)), (1, .int a1), (2, .int a2), (3, .int a3)] dX6_asks_41 (by decide) rfl 43 rfl ?_
    refine ww_iload C 0 dX6_asks_43 rfl 45 rfl ?_
    refine ww_if_eq C 58 dX6_asks_45 (by decide) h 48 rfl (fun h => ?_) (fun h => ?_)
    · refine ww_sipush C (-1000 : Int32) dX6_asks_58 (by decide) 61 rfl ?_
      exact ww_iret C dX6_asks_61 hr h
    · refine ww_aload_n C 1 dX6_asks_48 rfl rfl 49 rfl ?_
      refine ww_iload_n C 2 dX6_asks_49 rfl rfl 50 rfl ?_
      refine ww_iload_n C 3 dX6_asks_50 rfl rfl 51 rfl ?_
      refine ww_iload_n C 4 dX6_asks_51 rfl rfl 52 rfl ?_
      refine ww_callVi C (As := [.int a1, .int a2, .int a3]) (st := []) h cl_X6.1 (obM hn) (fun _ _ hF => k_X6_asksOf hn hF) w_999 cm_X6_asksOf (by decide) (by decide) rfl rfl (Nat.le_of_ble_eq_true rfl) dX6_asks_52 55 rfl (fun v36 u35 h => ?_)
      refine ww_goto C 61 dX6_asks_55 (by decide) ?_
      exact ww_iret C dX6_asks_61 hr h

set_option maxRecDepth 100000 in
set_option maxHeartbeats 4000000 in
theorem k_X6_diver {l : Launch} {D : va_G} {ad : Nat → Nat} {cA : Nat → ClassId} {tys : List (ClassId × FieldType)} {n : Nat} {sa : Nat → Nat} (hn : 20 ≤ n) {N : Nat} {g : Mem} {a1 : Int32} {a2 : Int32} {r : Int32} {g1 : Mem} (h : X6_diver N a1 a2 g = some (r, g1)) : CTi l yX6_diver (wsm yX6_diver cX6_diver 3 (some .int)) 2 D YM ad cA tys n sa g [.ref (ad 0), .int a1, .int a2] r g1 := by
  refine ct_of RX6 rfl (by decide +kernel) (Nat.le_of_ble_eq_true rfl) rfl (fun sz => PBi D YM ad cA n r g1 sz) ?_
  intro p e R s m args below meth c C hr
  rw [X6_diver] at h
  refine ww_iload_n C 1 dX6_diver_0 rfl rfl 1 rfl ?_
  refine ww_iconst C (0 : Int32) dX6_diver_1 (by decide) 2 rfl ?_
  refine ww_bipush C (59 : Int32) dX6_diver_2 (by decide) 4 rfl ?_
  refine ww_callSi C (As := [.int a1, .int (0 : Int32), .int (59 : Int32)]) (st := []) h (fun _ _ hF => k_X6_in hn hF) w_808 cm_X6_in (by decide) (by decide) rfl rfl (Nat.le_of_ble_eq_true rfl) dX6_diver_4 7 rfl (fun v11 u10 h => ?_)
  refine ww_if_eq C 20 dX6_diver_7 (by decide) h 10 rfl (fun h => ?_) (fun h => ?_)
  · refine ww_bipush C (-2 : Int32) dX6_diver_20 (by decide) 22 rfl ?_
    exact ww_iret C dX6_diver_22 hr h
  · refine ww_iload_n C 2 dX6_diver_10 rfl rfl 11 rfl ?_
    refine ww_iconst C (0 : Int32) dX6_diver_11 (by decide) 12 rfl ?_
    refine ww_bipush C (99 : Int32) dX6_diver_12 (by decide) 14 rfl ?_
    refine ww_callSi C (As := [.int a2, .int (0 : Int32), .int (99 : Int32)]) (st := []) h (fun _ _ hF => k_X6_in hn hF) w_808 cm_X6_in (by decide) (by decide) rfl rfl (Nat.le_of_ble_eq_true rfl) dX6_diver_14 17 rfl (fun v13 u12 h => ?_)
    refine ww_if_ne C 23 dX6_diver_17 (by decide) h 20 rfl (fun h => ?_) (fun h => ?_)
    · refine ww_aload_n C 0 dX6_diver_23 rfl rfl 24 rfl ?_
      refine ww_getI C cl_X6 (obM hn) 0 (by decide) rfl w_847 dX6_diver_24 27 rfl ?_
      refine ww_bipush C (6 : Int32) dX6_diver_27 (by decide) 29 rfl ?_
      refine ww_icmp_ne C 35 dX6_diver_29 (by decide) h 32 rfl (fun h => ?_) (fun h => ?_)
      · refine ww_aload_n C 0 dX6_diver_35 rfl rfl 36 rfl ?_
        refine ww_getS C cl_X6 (obM hn) 1 (by decide) rfl 1 rfl w_848 dX6_diver_36 39 rfl ?_
        refine ww_aload_n C 0 dX6_diver_39 rfl rfl 40 rfl ?_
        refine ww_getI C cl_X6 (obM hn) 0 (by decide) rfl w_847 dX6_diver_40 43 rfl ?_
        refine ww_iload_n C 1 dX6_diver_43 rfl rfl 44 rfl ?_
        refine ww_bipush C (10 : Int32) dX6_diver_44 (by decide) 46 rfl ?_
        refine ww_idiv C dX6_diver_46 h 47 rfl (fun h => ?_)
        refine ww_iast C (iaM hn 1 6 (by decide) (by decide) rfl) dX6_diver_47 h 48 rfl (fun u14 h => ?_)
        refine ww_aload_n C 0 dX6_diver_48 rfl rfl 49 rfl ?_
        refine ww_getS C cl_X6 (obM hn) 2 (by decide) rfl 2 rfl w_849 dX6_diver_49 52 rfl ?_
        refine ww_aload_n C 0 dX6_diver_52 rfl rfl 53 rfl ?_
        refine ww_getI C cl_X6 (obM hn) 0 (by decide) rfl w_847 dX6_diver_53 56 rfl ?_
        refine ww_iload_n C 1 dX6_diver_56 rfl rfl 57 rfl ?_
        refine ww_bipush C (10 : Int32) dX6_diver_57 (by decide) 59 rfl ?_
        refine ww_irem C dX6_diver_59 h 60 rfl (fun h => ?_)
        refine ww_iast C (iaM hn 2 6 (by decide) (by decide) rfl) dX6_diver_60 h 61 rfl (fun u15 h => ?_)
        refine ww_aload_n C 0 dX6_diver_61 rfl rfl 62 rfl ?_
        refine ww_getS C cl_X6 (obM hn) 3 (by decide) rfl 3 rfl w_850 dX6_diver_62 65 rfl ?_
        refine ww_iconst C (2 : Int32) dX6_diver_65 (by decide) 66 rfl ?_
        refine ww_aload_n C 0 dX6_diver_66 rfl rfl 67 rfl ?_
        refine ww_getI C cl_X6 (obM hn) 0 (by decide) rfl w_847 dX6_diver_67 70 rfl ?_
        refine ww_imul C dX6_diver_70 71 rfl ?_
        refine ww_iload_n C 2 dX6_diver_71 rfl rfl 72 rfl ?_
        refine ww_iast C (iaM hn 3 12 (by decide) (by decide) rfl) dX6_diver_72 h 73 rfl (fun u16 h => ?_)
        refine ww_aload_n C 0 dX6_diver_73 rfl rfl 74 rfl ?_
        refine ww_getS C cl_X6 (obM hn) 3 (by decide) rfl 3 rfl w_850 dX6_diver_74 77 rfl ?_
        refine ww_iconst C (2 : Int32) dX6_diver_77 (by decide) 78 rfl ?_
        refine ww_aload_n C 0 dX6_diver_78 rfl rfl 79 rfl ?_
        refine ww_getI C cl_X6 (obM hn) 0 (by decide) rfl w_847 dX6_diver_79 82 rfl ?_
        refine ww_imul C dX6_diver_82 83 rfl ?_
        refine ww_iconst C (1 : Int32) dX6_diver_83 (by decide) 84 rfl ?_
        refine ww_iadd C dX6_diver_84 85 rfl ?_
        refine ww_iconst C (0 : Int32) dX6_diver_85 (by decide) 86 rfl ?_
        refine ww_iast C (iaM hn 3 12 (by decide) (by decide) rfl) dX6_diver_86 h 87 rfl (fun u17 h => ?_)
        refine ww_aload_n C 0 dX6_diver_87 rfl rfl 88 rfl ?_
        refine ww_dup C dX6_diver_88 rfl 89 rfl ?_
        refine ww_getI C cl_X6 (obM hn) 0 (by decide) rfl w_847 dX6_diver_89 92 rfl ?_
        refine ww_iconst C (1 : Int32) dX6_diver_92 (by decide) 93 rfl ?_
        refine ww_iadd C dX6_diver_93 94 rfl ?_
        refine ww_putI C cl_X6 (obM hn) 0 (by decide) rfl tyX6 tyX6_ok nmX6 rfl rfl rfl w_847 dX6_diver_94 h 97 rfl (fun u18 h => ?_)
        refine ww_aload_n C 0 dX6_diver_97 rfl rfl 98 rfl ?_
        refine ww_getI C cl_X6 (obM hn) 0 (by decide) rfl w_847 dX6_diver_98 101 rfl ?_
        refine ww_iconst C (1 : Int32) dX6_diver_101 (by decide) 102 rfl ?_
        refine ww_isub C dX6_diver_102 103 rfl ?_
        exact ww_iret C dX6_diver_103 hr h
      · refine ww_bipush C (-4 : Int32) dX6_diver_32 (by decide) 34 rfl ?_
        exact ww_iret C dX6_diver_34 hr h
    · refine ww_bipush C (-2 : Int32) dX6_diver_20 (by decide) 22 rfl ?_
      exact ww_iret C dX6_diver_22 hr h

set_option maxRecDepth 100000 in
set_option maxHeartbeats 4000000 in
theorem k_X6_put {l : Launch} {D : va_G} {ad : Nat → Nat} {cA : Nat → ClassId} {tys : List (ClassId × FieldType)} {n : Nat} {sa : Nat → Nat} (hn : 20 ≤ n) {N : Nat} {g : Mem} {a1 : Int32} {a2 : Int32} {r : Int32} {g1 : Mem} (h : X6_put N a1 a2 g = some (r, g1)) : CTi l yX6_put (wsm yX6_put cX6_put 4 (some .int)) 3 D YM ad cA tys n sa g [.ref (ad 0), .int a1, .int a2] r g1 := by
  refine ct_of RX6 rfl (by decide +kernel) (Nat.le_of_ble_eq_true rfl) rfl (fun sz => PBi D YM ad cA n r g1 sz) ?_
  intro p e R s m args below meth c C hr
  rw [X6_put] at h
  refine ww_aload_n C 0 dX6_put_0 rfl rfl 1 rfl ?_
  refine ww_iload_n C 1 dX6_put_1 rfl rfl 2 rfl ?_
  refine ww_callVi C (As := [.int a1]) (st := []) h cl_X6.1 (obM hn) (fun _ _ hF => k_X6_isOne hn hF) w_995 cm_X6_isOne (by decide) (by decide) rfl rfl (Nat.le_of_ble_eq_true rfl) dX6_put_2 5 rfl (fun v8 u7 h => ?_)
  refine ww_if_ne C 11 dX6_put_5 (by decide) h 8 rfl (fun h => ?_) (fun h => ?_)
  · refine ww_iload_n C 2 dX6_put_11 rfl rfl 12 rfl ?_
    refine ww_iconst C (0 : Int32) dX6_put_12 (by decide) 13 rfl ?_
    refine ww_bipush C (99 : Int32) dX6_put_13 (by decide) 15 rfl ?_
    refine ww_callSi C (As := [.int a2, .int (0 : Int32), .int (99 : Int32)]) (st := []) h (fun _ _ hF => k_X6_in hn hF) w_808 cm_X6_in (by decide) (by decide) rfl rfl (Nat.le_of_ble_eq_true rfl) dX6_put_15 18 rfl (fun v10 u9 h => ?_)
    refine ww_if_ne C 24 dX6_put_18 (by decide) h 21 rfl (fun h => ?_) (fun h => ?_)
    · refine ww_aload_n C 0 dX6_put_24 rfl rfl 25 rfl ?_
      refine ww_getS C cl_X6 (obM hn) 3 (by decide) rfl 3 rfl w_850 dX6_put_25 28 rfl ?_
      refine ww_iconst C (2 : Int32) dX6_put_28 (by decide) 29 rfl ?_
      refine ww_iload_n C 1 dX6_put_29 rfl rfl 30 rfl ?_
      refine ww_imul C dX6_put_30 31 rfl ?_
      refine ww_iald C (iaM hn 3 12 (by decide) (by decide) rfl) dX6_put_31 h 32 rfl (fun h => ?_)
      refine ww_bi h (fun v11 h => ?_)
      refine ww_istore_n C [(3, .int v11), (0, .ref (ad 0)), (1, .int a1), (2, .int a2)] dX6_put_32 rfl (by decide) rfl 33 rfl ?_
      refine ww_aload_n C 1 dX6_put_33 rfl rfl 34 rfl ?_
      refine ww_getS C cl_X6 (obM hn) 3 (by decide) rfl 3 rfl w_850 dX6_put_34 37 rfl ?_
      refine ww_iconst C (2 : Int32) dX6_put_37 (by decide) 38 rfl ?_
      refine ww_iload_n C 2 dX6_put_38 rfl rfl 39 rfl ?_
      refine ww_imul C dX6_put_39 40 rfl ?_
      refine ww_iload_n C 3 dX6_put_40 rfl rfl 41 rfl ?_
      refine ww_iast C (iaM hn 3 12 (by decide) (by decide) rfl) dX6_put_41 h 42 rfl (fun u12 h => ?_)
      refine ww_iload_n C 0 dX6_put_42 rfl rfl 43 rfl ?_
      exact ww_iret C dX6_put_43 hr h
    · refine ww_bipush C (-7 : Int32) dX6_put_21 (by decide) 23 rfl ?_
      exact ww_iret C dX6_put_23 hr h
  · refine ww_bipush C (-5 : Int32) dX6_put_8 (by decide) 10 rfl ?_
    exact ww_iret C dX6_put_10 hr h

set_option maxRecDepth 100000 in
set_option maxHeartbeats 4000000 in
theorem k_X6_reachesOf {l : Launch} {D : va_G} {ad : Nat → Nat} {cA : Nat → ClassId} {tys : List (ClassId × FieldType)} {n : Nat} {sa : Nat → Nat} (hn : 20 ≤ n) {N : Nat} {g : Mem} {a1 : Int32} {a2 : Int32} {r : Int32} {g1 : Mem} (h : X6_reachesOf N a1 a2 g = some (r, g1)) : CTi l yX6_reachesOf (wsm yX6_reachesOf cX6_reachesOf 5 (some .int)) 4 D YM ad cA tys n sa g [.ref (ad 0), .int a1, .int a2] r g1 := by
  refine ct_of RX6 rfl (by decide +kernel) (Nat.le_of_ble_eq_true rfl) rfl (fun sz => PBi D YM ad cA n r g1 sz) ?_
  intro p e R s m args below meth c C hr
  rw [X6_reachesOf] at h
  refine ww_aload_n C 0 dX6_reachesOf_0 rfl rfl 1 rfl ?_
  refine ww_getS C cl_X6 (obM hn) 1 (by decide) rfl 1 rfl w_848 dX6_reachesOf_1 4 rfl ?_
  refine ww_iload_n C 1 dX6_reachesOf_4 rfl rfl 5 rfl ?_
  refine ww_iald C (iaM hn 1 6 (by decide) (by decide) rfl) dX6_reachesOf_5 h 6 rfl (fun h => ?_)
  refine ww_iconst C (5 : Int32) dX6_reachesOf_6 (by decide) 7 rfl ?_
  refine ww_icmp_ne C 13 dX6_reachesOf_7 (by decide) h 10 rfl (fun h => ?_) (fun h => ?_)
  · refine ww_aload_n C 0 dX6_reachesOf_13 rfl rfl 14 rfl ?_
    refine ww_iconst C (0 : Int32) dX6_reachesOf_14 (by decide) 15 rfl ?_
    refine ww_iload_n C 1 dX6_reachesOf_15 rfl rfl 16 rfl ?_
    refine ww_iload_n C 2 dX6_reachesOf_16 rfl rfl 17 rfl ?_
    refine ww_callVi C (As := [.int (0 : Int32), .int a1, .int a2]) (st := []) h cl_X6.1 (obM hn) (fun _ _ hF => k_X6_asksOf hn hF) w_999 cm_X6_asksOf (by decide) (by decide) rfl rfl (Nat.le_of_ble_eq_true rfl) dX6_reachesOf_17 20 rfl (fun v14 u13 h => ?_)
    refine ww_istore_n C [(3, .int v14), (0, .ref (ad 0)), (1, .int a1), (2, .int a2)] dX6_reachesOf_20 rfl (by decide) rfl 21 rfl ?_
    refine ww_iload_n C 0 dX6_reachesOf_21 rfl rfl 22 rfl ?_
    refine ww_iconst C (2 : Int32) dX6_reachesOf_22 (by decide) 23 rfl ?_
    refine ww_idiv C dX6_reachesOf_23 h 24 rfl (fun h => ?_)
    refine ww_aload_n C 1 dX6_reachesOf_24 rfl rfl 25 rfl ?_
    refine ww_getS C cl_X6 (obM hn) 2 (by decide) rfl 2 rfl w_849 dX6_reachesOf_25 28 rfl ?_
    refine ww_iload_n C 2 dX6_reachesOf_28 rfl rfl 29 rfl ?_
    refine ww_iald C (iaM hn 2 6 (by decide) (by decide) rfl) dX6_reachesOf_29 h 30 rfl (fun h => ?_)
    refine ww_iadd C dX6_reachesOf_30 31 rfl ?_
    refine ww_bi h (fun v15 h => ?_)
    refine ww_istore C [(4, .int v15), (3, .int v14), (0, .ref (ad 0)), (1, .int a1), (2, .int a2)] dX6_reachesOf_31 (by decide) rfl 33 rfl ?_
    refine ww_aload_n C 2 dX6_reachesOf_33 rfl rfl 34 rfl ?_
    refine ww_getS C cl_X6 (obM hn) 1 (by decide) rfl 1 rfl w_848 dX6_reachesOf_34 37 rfl ?_
    refine ww_iload_n C 3 dX6_reachesOf_37 rfl rfl 38 rfl ?_
    refine ww_iald C (iaM hn 1 6 (by decide) (by decide) rfl) dX6_reachesOf_38 h 39 rfl (fun h => ?_)
    refine ww_bi h (fun v16 h => ?_)
    refine sw_1 h (fun e17 h => ?_) (fun n18 h => ?_)
    · refine ww_tin C (v := (1 : Int32)) e17 68 dX6_reachesOf_39 (by decide) (by decide) rfl (by decide) ?_
      refine ww_iload C 0 dX6_reachesOf_68 rfl 70 rfl ?_
      exact ww_iret C dX6_reachesOf_70 hr h
    refine sw_1 h (fun e19 h => ?_) (fun n20 h => ?_)
    · refine ww_tin C (v := (2 : Int32)) e19 71 dX6_reachesOf_39 (by decide) (by decide) rfl (by decide) ?_
      refine ww_iload_n C 1 dX6_reachesOf_71 rfl rfl 72 rfl ?_
      refine ww_bipush C (10 : Int32) dX6_reachesOf_72 (by decide) 74 rfl ?_
      refine ww_iadd C dX6_reachesOf_74 75 rfl ?_
      exact ww_iret C dX6_reachesOf_75 hr h
    refine sw_1 h (fun e21 h => ?_) (fun n22 h => ?_)
    · refine ww_tin C (v := (3 : Int32)) e21 76 dX6_reachesOf_39 (by decide) (by decide) rfl (by decide) ?_
      refine ww_iload C 0 dX6_reachesOf_76 rfl 78 rfl ?_
      refine ww_aload_n C 2 dX6_reachesOf_78 rfl rfl 79 rfl ?_
      refine ww_getS C cl_X6 (obM hn) 2 (by decide) rfl 2 rfl w_849 dX6_reachesOf_79 82 rfl ?_
      refine ww_iload_n C 3 dX6_reachesOf_82 rfl rfl 83 rfl ?_
      refine ww_iald C (iaM hn 2 6 (by decide) (by decide) rfl) dX6_reachesOf_83 h 84 rfl (fun h => ?_)
      refine ww_iadd C dX6_reachesOf_84 85 rfl ?_
      exact ww_iret C dX6_reachesOf_85 hr h
    refine sw_1 h (fun e23 h => ?_) (fun n24 h => ?_)
    · refine ww_tin C (v := (4 : Int32)) e23 86 dX6_reachesOf_39 (by decide) (by decide) rfl (by decide) ?_
      refine ww_aload_n C 2 dX6_reachesOf_86 rfl rfl 87 rfl ?_
      refine ww_getS C cl_X6 (obM hn) 2 (by decide) rfl 2 rfl w_849 dX6_reachesOf_87 90 rfl ?_
      refine ww_iload_n C 3 dX6_reachesOf_90 rfl rfl 91 rfl ?_
      refine ww_iald C (iaM hn 2 6 (by decide) (by decide) rfl) dX6_reachesOf_91 h 92 rfl (fun h => ?_)
      exact ww_iret C dX6_reachesOf_92 hr h
    refine ww_tout C 93 dX6_reachesOf_39 (by have q0 := sw_ne (z := 1) n18 rfl; have q1 := sw_ne (z := 2) n20 rfl; have q2 := sw_ne (z := 3) n22 rfl; have q3 := sw_ne (z := 4) n24 rfl; omega) (by decide) ?_
    refine ww_iload_n C 1 dX6_reachesOf_93 rfl rfl 94 rfl ?_
    exact ww_iret C dX6_reachesOf_94 hr h
  · refine ww_bipush C (99 : Int32) dX6_reachesOf_10 (by decide) 12 rfl ?_
    exact ww_iret C dX6_reachesOf_12 hr h

set_option maxRecDepth 100000 in
set_option maxHeartbeats 4000000 in
theorem k_X6_costsOf {l : Launch} {D : va_G} {ad : Nat → Nat} {cA : Nat → ClassId} {tys : List (ClassId × FieldType)} {n : Nat} {sa : Nat → Nat} (hn : 20 ≤ n) {N : Nat} {g : Mem} {a1 : Int32} {a2 : Int32} {r : Int32} {g1 : Mem} (h : X6_costsOf N a1 a2 g = some (r, g1)) : CTi l yX6_costsOf (wsm yX6_costsOf cX6_costsOf 4 (some .int)) 4 D YM ad cA tys n sa g [.ref (ad 0), .int a1, .int a2] r g1 := by
  refine ct_of RX6 rfl (by decide +kernel) (Nat.le_of_ble_eq_true rfl) rfl (fun sz => PBi D YM ad cA n r g1 sz) ?_
  intro p e R s m args below meth c C hr
  rw [X6_costsOf] at h
  refine ww_aload_n C 0 dX6_costsOf_0 rfl rfl 1 rfl ?_
  refine ww_iconst C (1 : Int32) dX6_costsOf_1 (by decide) 2 rfl ?_
  refine ww_iload_n C 1 dX6_costsOf_2 rfl rfl 3 rfl ?_
  refine ww_iload_n C 2 dX6_costsOf_3 rfl rfl 4 rfl ?_
  refine ww_callVi C (As := [.int (1 : Int32), .int a1, .int a2]) (st := []) h cl_X6.1 (obM hn) (fun _ _ hF => k_X6_asksOf hn hF) w_999 cm_X6_asksOf (by decide) (by decide) rfl rfl (Nat.le_of_ble_eq_true rfl) dX6_costsOf_4 7 rfl (fun v11 u10 h => ?_)
  refine ww_istore_n C [(3, .int v11), (0, .ref (ad 0)), (1, .int a1), (2, .int a2)] dX6_costsOf_7 rfl (by decide) rfl 8 rfl ?_
  refine ww_aload_n C 1 dX6_costsOf_8 rfl rfl 9 rfl ?_
  refine ww_getS C cl_X6 (obM hn) 1 (by decide) rfl 1 rfl w_848 dX6_costsOf_9 12 rfl ?_
  refine ww_iload_n C 2 dX6_costsOf_12 rfl rfl 13 rfl ?_
  refine ww_iald C (iaM hn 1 6 (by decide) (by decide) rfl) dX6_costsOf_13 h 14 rfl (fun h => ?_)
  refine ww_bi h (fun v12 h => ?_)
  refine sw_1 h (fun e13 h => ?_) (fun n14 h => ?_)
  · refine ww_tin C (v := (2 : Int32)) e13 40 dX6_costsOf_14 (by decide) (by decide) rfl (by decide) ?_
    refine ww_aload_n C 1 dX6_costsOf_40 rfl rfl 41 rfl ?_
    refine ww_getS C cl_X6 (obM hn) 4 (by decide) rfl 4 rfl w_851 dX6_costsOf_41 44 rfl ?_
    refine ww_iconst C (4 : Int32) dX6_costsOf_44 (by decide) 45 rfl ?_
    refine ww_iload_n C 3 dX6_costsOf_45 rfl rfl 46 rfl ?_
    refine ww_imul C dX6_costsOf_46 47 rfl ?_
    refine ww_iald C (iaM hn 4 48 (by decide) (by decide) rfl) dX6_costsOf_47 h 48 rfl (fun h => ?_)
    refine ww_if_ne C 57 dX6_costsOf_48 (by decide) h 51 rfl (fun h => ?_) (fun h => ?_)
    · refine ww_iload_n C 0 dX6_costsOf_57 rfl rfl 58 rfl ?_
      refine ww_aload_n C 1 dX6_costsOf_58 rfl rfl 59 rfl ?_
      refine ww_getS C cl_X6 (obM hn) 2 (by decide) rfl 2 rfl w_849 dX6_costsOf_59 62 rfl ?_
      refine ww_iload_n C 2 dX6_costsOf_62 rfl rfl 63 rfl ?_
      refine ww_iald C (iaM hn 2 6 (by decide) (by decide) rfl) dX6_costsOf_63 h 64 rfl (fun h => ?_)
      refine ww_iadd C dX6_costsOf_64 65 rfl ?_
      exact ww_iret C dX6_costsOf_65 hr h
    · refine ww_iload_n C 0 dX6_costsOf_51 rfl rfl 52 rfl ?_
      refine ww_iconst C (2 : Int32) dX6_costsOf_52 (by decide) 53 rfl ?_
      refine ww_idiv C dX6_costsOf_53 h 54 rfl (fun h => ?_)
      refine ww_goto C 65 dX6_costsOf_54 (by decide) ?_
      exact ww_iret C dX6_costsOf_65 hr h
  refine sw_1 h (fun e15 h => ?_) (fun n16 h => ?_)
  · refine ww_tin C (v := (3 : Int32)) e15 66 dX6_costsOf_14 (by decide) (by decide) rfl (by decide) ?_
    refine ww_aload_n C 1 dX6_costsOf_66 rfl rfl 67 rfl ?_
    refine ww_getI C cl_X6 (obM hn) 6 (by decide) rfl w_853 dX6_costsOf_67 70 rfl ?_
    refine ww_iconst C (4 : Int32) dX6_costsOf_70 (by decide) 71 rfl ?_
    refine ww_irem C dX6_costsOf_71 h 72 rfl (fun h => ?_)
    refine ww_if_ne C 79 dX6_costsOf_72 (by decide) h 75 rfl (fun h => ?_) (fun h => ?_)
    · refine ww_iload_n C 0 dX6_costsOf_79 rfl rfl 80 rfl ?_
      exact ww_iret C dX6_costsOf_80 hr h
    · refine ww_iconst C (0 : Int32) dX6_costsOf_75 (by decide) 76 rfl ?_
      refine ww_goto C 80 dX6_costsOf_76 (by decide) ?_
      exact ww_iret C dX6_costsOf_80 hr h
  refine sw_1 h (fun e17 h => ?_) (fun n18 h => ?_)
  · refine ww_tin C (v := (4 : Int32)) e17 40 dX6_costsOf_14 (by decide) (by decide) rfl (by decide) ?_
    refine ww_aload_n C 1 dX6_costsOf_40 rfl rfl 41 rfl ?_
    refine ww_getS C cl_X6 (obM hn) 4 (by decide) rfl 4 rfl w_851 dX6_costsOf_41 44 rfl ?_
    refine ww_iconst C (4 : Int32) dX6_costsOf_44 (by decide) 45 rfl ?_
    refine ww_iload_n C 3 dX6_costsOf_45 rfl rfl 46 rfl ?_
    refine ww_imul C dX6_costsOf_46 47 rfl ?_
    refine ww_iald C (iaM hn 4 48 (by decide) (by decide) rfl) dX6_costsOf_47 h 48 rfl (fun h => ?_)
    refine ww_if_ne C 57 dX6_costsOf_48 (by decide) h 51 rfl (fun h => ?_) (fun h => ?_)
    · refine ww_iload_n C 0 dX6_costsOf_57 rfl rfl 58 rfl ?_
      refine ww_aload_n C 1 dX6_costsOf_58 rfl rfl 59 rfl ?_
      refine ww_getS C cl_X6 (obM hn) 2 (by decide) rfl 2 rfl w_849 dX6_costsOf_59 62 rfl ?_
      refine ww_iload_n C 2 dX6_costsOf_62 rfl rfl 63 rfl ?_
      refine ww_iald C (iaM hn 2 6 (by decide) (by decide) rfl) dX6_costsOf_63 h 64 rfl (fun h => ?_)
      refine ww_iadd C dX6_costsOf_64 65 rfl ?_
      exact ww_iret C dX6_costsOf_65 hr h
    · refine ww_iload_n C 0 dX6_costsOf_51 rfl rfl 52 rfl ?_
      refine ww_iconst C (2 : Int32) dX6_costsOf_52 (by decide) 53 rfl ?_
      refine ww_idiv C dX6_costsOf_53 h 54 rfl (fun h => ?_)
      refine ww_goto C 65 dX6_costsOf_54 (by decide) ?_
      exact ww_iret C dX6_costsOf_65 hr h
  refine ww_tout C 81 dX6_costsOf_14 (by have q0 := sw_ne (z := 2) n14 rfl; have q1 := sw_ne (z := 3) n16 rfl; have q2 := sw_ne (z := 4) n18 rfl; omega) (by decide) ?_
  refine ww_iload_n C 0 dX6_costsOf_81 rfl rfl 82 rfl ?_
  exact ww_iret C dX6_costsOf_82 hr h

set_option maxRecDepth 100000 in
set_option maxHeartbeats 4000000 in
theorem k_X6_breathesOf {l : Launch} {D : va_G} {ad : Nat → Nat} {cA : Nat → ClassId} {tys : List (ClassId × FieldType)} {n : Nat} {sa : Nat → Nat} (hn : 20 ≤ n) {N : Nat} {g : Mem} {a1 : Int32} {r : Int32} {g1 : Mem} (h : X6_breathesOf N a1 g = some (r, g1)) : CTi l yX6_breathesOf (wsm yX6_breathesOf cX6_breathesOf 2 (some .int)) 1 D YM ad cA tys n sa g [.ref (ad 0), .int a1] r g1 := by
  refine ct_of RX6 rfl (by decide +kernel) (Nat.le_of_ble_eq_true rfl) rfl (fun sz => PBi D YM ad cA n r g1 sz) ?_
  intro p e R s m args below meth c C hr
  rw [X6_breathesOf] at h
  refine ww_aload_n C 0 dX6_breathesOf_0 rfl rfl 1 rfl ?_
  refine ww_getS C cl_X6 (obM hn) 1 (by decide) rfl 1 rfl w_848 dX6_breathesOf_1 4 rfl ?_
  refine ww_iload_n C 1 dX6_breathesOf_4 rfl rfl 5 rfl ?_
  refine ww_iald C (iaM hn 1 6 (by decide) (by decide) rfl) dX6_breathesOf_5 h 6 rfl (fun h => ?_)
  refine ww_bi h (fun v12 h => ?_)
  refine sw_1 h (fun e13 h => ?_) (fun n14 h => ?_)
  · refine ww_tin C (v := (1 : Int32)) e13 40 dX6_breathesOf_6 (by decide) (by decide) rfl (by decide) ?_
    refine ww_bipush C (10 : Int32) dX6_breathesOf_40 (by decide) 42 rfl ?_
    exact ww_iret C dX6_breathesOf_42 hr h
  refine sw_1 h (fun e15 h => ?_) (fun n16 h => ?_)
  · refine ww_tin C (v := (2 : Int32)) e15 54 dX6_breathesOf_6 (by decide) (by decide) rfl (by decide) ?_
    refine ww_iconst C (5 : Int32) dX6_breathesOf_54 (by decide) 55 rfl ?_
    exact ww_iret C dX6_breathesOf_55 hr h
  refine sw_1 h (fun e17 h => ?_) (fun n18 h => ?_)
  · refine ww_tin C (v := (3 : Int32)) e17 40 dX6_breathesOf_6 (by decide) (by decide) rfl (by decide) ?_
    refine ww_bipush C (10 : Int32) dX6_breathesOf_40 (by decide) 42 rfl ?_
    exact ww_iret C dX6_breathesOf_42 hr h
  refine sw_1 h (fun e19 h => ?_) (fun n20 h => ?_)
  · refine ww_tin C (v := (4 : Int32)) e19 43 dX6_breathesOf_6 (by decide) (by decide) rfl (by decide) ?_
    refine ww_iconst C (5 : Int32) dX6_breathesOf_43 (by decide) 44 rfl ?_
    refine ww_aload_n C 0 dX6_breathesOf_44 rfl rfl 45 rfl ?_
    refine ww_getS C cl_X6 (obM hn) 2 (by decide) rfl 2 rfl w_849 dX6_breathesOf_45 48 rfl ?_
    refine ww_iload_n C 1 dX6_breathesOf_48 rfl rfl 49 rfl ?_
    refine ww_iald C (iaM hn 2 6 (by decide) (by decide) rfl) dX6_breathesOf_49 h 50 rfl (fun h => ?_)
    refine ww_iadd C dX6_breathesOf_50 51 rfl ?_
    exact ww_iret C dX6_breathesOf_51 hr h
  refine sw_1 h (fun e21 h => ?_) (fun n22 h => ?_)
  · refine ww_tin C (v := (5 : Int32)) e21 52 dX6_breathesOf_6 (by decide) (by decide) rfl (by decide) ?_
    refine ww_iconst C (0 : Int32) dX6_breathesOf_52 (by decide) 53 rfl ?_
    exact ww_iret C dX6_breathesOf_53 hr h
  refine ww_tout C 54 dX6_breathesOf_6 (by have q0 := sw_ne (z := 1) n14 rfl; have q1 := sw_ne (z := 2) n16 rfl; have q2 := sw_ne (z := 3) n18 rfl; have q3 := sw_ne (z := 4) n20 rfl; have q4 := sw_ne (z := 5) n22 rfl; omega) (by decide) ?_
  refine ww_iconst C (5 : Int32) dX6_breathesOf_54 (by decide) 55 rfl ?_
  exact ww_iret C dX6_breathesOf_55 hr h

set_option maxRecDepth 100000 in
set_option maxHeartbeats 4000000 in
theorem k_X6_can {l : Launch} {D : va_G} {ad : Nat → Nat} {cA : Nat → ClassId} {tys : List (ClassId × FieldType)} {n : Nat} {sa : Nat → Nat} (hn : 20 ≤ n) {N : Nat} {g : Mem} {a1 : Int32} {a2 : Int32} {r : Int32} {g1 : Mem} (h : X6_can N a1 a2 g = some (r, g1)) : CTi l yX6_can (wsm yX6_can cX6_can 3 (some .boolean)) 5 D YM ad cA tys n sa g [.ref (ad 0), .int a1, .int a2] r g1 := by
  refine ct_of RX6 rfl (by decide +kernel) (Nat.le_of_ble_eq_true rfl) rfl (fun sz => PBi D YM ad cA n r g1 sz) ?_
  intro p e R s m args below meth c C hr
  rw [X6_can] at h
  refine ww_aload_n C 0 dX6_can_0 rfl rfl 1 rfl ?_
  refine ww_getS C cl_X6 (obM hn) 4 (by decide) rfl 4 rfl w_851 dX6_can_1 4 rfl ?_
  refine ww_iconst C (4 : Int32) dX6_can_4 (by decide) 5 rfl ?_
  refine ww_iload_n C 2 dX6_can_5 rfl rfl 6 rfl ?_
  refine ww_imul C dX6_can_6 7 rfl ?_
  refine ww_iconst C (3 : Int32) dX6_can_7 (by decide) 8 rfl ?_
  refine ww_iadd C dX6_can_8 9 rfl ?_
  refine ww_iald C (iaM hn 4 48 (by decide) (by decide) rfl) dX6_can_9 h 10 rfl (fun h => ?_)
  refine ww_if_eq C 15 dX6_can_10 (by decide) h 13 rfl (fun h => ?_) (fun h => ?_)
  · refine ww_aload_n C 0 dX6_can_15 rfl rfl 16 rfl ?_
    refine ww_iload_n C 1 dX6_can_16 rfl rfl 17 rfl ?_
    refine ww_iload_n C 2 dX6_can_17 rfl rfl 18 rfl ?_
    refine ww_callVi C (As := [.int a1, .int a2]) (st := []) h cl_X6.1 (obM hn) (fun _ _ hF => k_X6_reachesOf hn hF) w_1033 cm_X6_reachesOf (by decide) (by decide) rfl rfl (Nat.le_of_ble_eq_true rfl) dX6_can_18 21 rfl (fun v6 u5 h => ?_)
    refine ww_aload_n C 0 dX6_can_21 rfl rfl 22 rfl ?_
    refine ww_getS C cl_X6 (obM hn) 4 (by decide) rfl 4 rfl w_851 dX6_can_22 25 rfl ?_
    refine ww_iconst C (4 : Int32) dX6_can_25 (by decide) 26 rfl ?_
    refine ww_iload_n C 2 dX6_can_26 rfl rfl 27 rfl ?_
    refine ww_imul C dX6_can_27 28 rfl ?_
    refine ww_iconst C (2 : Int32) dX6_can_28 (by decide) 29 rfl ?_
    refine ww_iadd C dX6_can_29 30 rfl ?_
    refine ww_iald C (iaM hn 4 48 (by decide) (by decide) rfl) dX6_can_30 h 31 rfl (fun h => ?_)
    refine ww_icmp_lt C 55 dX6_can_31 (by decide) h 34 rfl (fun h => ?_) (fun h => ?_)
    · refine ww_iconst C (0 : Int32) dX6_can_55 (by decide) 56 rfl ?_
      exact ww_zret C dX6_can_56 hr rfl h
    · refine ww_aload_n C 0 dX6_can_34 rfl rfl 35 rfl ?_
      refine ww_iload_n C 1 dX6_can_35 rfl rfl 36 rfl ?_
      refine ww_iload_n C 2 dX6_can_36 rfl rfl 37 rfl ?_
      refine ww_callVi C (As := [.int a1, .int a2]) (st := []) h cl_X6.1 (obM hn) (fun _ _ hF => k_X6_costsOf hn hF) w_1037 cm_X6_costsOf (by decide) (by decide) rfl rfl (Nat.le_of_ble_eq_true rfl) dX6_can_37 40 rfl (fun v8 u7 h => ?_)
      refine ww_aload_n C 0 dX6_can_40 rfl rfl 41 rfl ?_
      refine ww_getS C cl_X6 (obM hn) 3 (by decide) rfl 3 rfl w_850 dX6_can_41 44 rfl ?_
      refine ww_iconst C (2 : Int32) dX6_can_44 (by decide) 45 rfl ?_
      refine ww_iload_n C 1 dX6_can_45 rfl rfl 46 rfl ?_
      refine ww_imul C dX6_can_46 47 rfl ?_
      refine ww_iald C (iaM hn 3 12 (by decide) (by decide) rfl) dX6_can_47 h 48 rfl (fun h => ?_)
      refine ww_icmp_gt C 55 dX6_can_48 (by decide) h 51 rfl (fun h => ?_) (fun h => ?_)
      · refine ww_iconst C (0 : Int32) dX6_can_55 (by decide) 56 rfl ?_
        exact ww_zret C dX6_can_56 hr rfl h
      · refine ww_iconst C (1 : Int32) dX6_can_51 (by decide) 52 rfl ?_
        refine ww_goto C 56 dX6_can_52 (by decide) ?_
        exact ww_zret C dX6_can_56 hr rfl h
  · refine ww_iconst C (0 : Int32) dX6_can_13 (by decide) 14 rfl ?_
    exact ww_zret C dX6_can_14 hr rfl h

set_option maxRecDepth 100000 in
set_option maxHeartbeats 4000000 in
theorem k_X6_canSet {l : Launch} {D : va_G} {ad : Nat → Nat} {cA : Nat → ClassId} {tys : List (ClassId × FieldType)} {n : Nat} {sa : Nat → Nat} (hn : 20 ≤ n) {N : Nat} {g : Mem} {a1 : Int32} {r : Int32} {g1 : Mem} (h : X6_canSet N a1 g = some (r, g1)) : CTi l yX6_canSet (wsm yX6_canSet cX6_canSet 4 (some .int)) 6 D YM ad cA tys n sa g [.ref (ad 0), .int a1] r g1 := by
  refine ct_of RX6 rfl (by decide +kernel) (Nat.le_of_ble_eq_true rfl) rfl (fun sz => PBi D YM ad cA n r g1 sz) ?_
  intro p e R s m args below meth c C hr
  have L4h : ∀ (fu : Nat), (∀ (x2 : Int32) (x3 : Int32) (g : Mem), X6_canSet_L4 N a1 fu x2 x3 g = some (r, g1) → WW p l e R s m args below meth c 4 D YM ad cA n (MQ below (PBi D YM ad cA n r g1 s.heap.size) args s 0 0 (AA n ad s.heap.size)) g 4 [(0, .ref (ad 0)), (1, .int a1), (2, .int x2), (3, .int x3)] []) := by
    intro fu
    induction fu with
    | zero => intro x2 x3 g h; cases h
    | succ fu ih =>
      intro x2 x3 g h
      rw [X6_canSet_L4] at h
      refine ww_iload_n C 3 dX6_canSet_4 rfl rfl 5 rfl ?_
      refine ww_bipush C (12 : Int32) dX6_canSet_5 (by decide) 7 rfl ?_
      refine ww_icmp_ge C 35 dX6_canSet_7 (by decide) h 10 rfl (fun h => ?_) (fun h => ?_)
      · refine ww_iload_n C 2 dX6_canSet_35 rfl rfl 36 rfl ?_
        exact ww_iret C dX6_canSet_36 hr h
      · refine ww_iload_n C 2 dX6_canSet_10 rfl rfl 11 rfl ?_
        refine ww_aload_n C 0 dX6_canSet_11 rfl rfl 12 rfl ?_
        refine ww_iload_n C 1 dX6_canSet_12 rfl rfl 13 rfl ?_
        refine ww_iload_n C 3 dX6_canSet_13 rfl rfl 14 rfl ?_
        refine ww_callVi C (As := [.int a1, .int x3]) (st := [.int x2]) h cl_X6.1 (obM hn) (fun _ _ hF => k_X6_can hn hF) w_1029 cm_X6_can (by decide) (by decide) rfl rfl (Nat.le_of_ble_eq_true rfl) dX6_canSet_14 17 rfl (fun v8 u7 h => ?_)
        refine ww_if_eq C 26 dX6_canSet_17 (by decide) h 20 rfl (fun h => ?_) (fun h => ?_)
        · refine ww_iconst C (0 : Int32) dX6_canSet_26 (by decide) 27 rfl ?_
          refine ww_ior C dX6_canSet_27 28 rfl ?_
          refine ww_bi h (fun v9 h => ?_)
          refine ww_istore_n C [(2, .int v9), (0, .ref (ad 0)), (1, .int a1), (3, .int x3)] dX6_canSet_28 rfl (by decide) rfl 29 rfl ?_
          refine ww_iinc C 3 (1 : Int32) (by decide) (fun v10 => [(3, .int v10), (2, .int v9), (0, .ref (ad 0)), (1, .int a1)]) dX6_canSet_29 rfl (by decide) (fun _ => rfl) h 32 rfl (fun v10 h => ?_)
          refine ww_goto C 4 dX6_canSet_32 (by decide) ?_
          exact ww_sub [2, 3, 1, 0] rfl (ih _ _ _ h)
        · refine ww_iconst C (1 : Int32) dX6_canSet_20 (by decide) 21 rfl ?_
          refine ww_iload_n C 3 dX6_canSet_21 rfl rfl 22 rfl ?_
          refine ww_ishl C dX6_canSet_22 23 rfl ?_
          refine ww_goto C 27 dX6_canSet_23 (by decide) ?_
          refine ww_ior C dX6_canSet_27 28 rfl ?_
          refine ww_bi h (fun v11 h => ?_)
          refine ww_istore_n C [(2, .int v11), (0, .ref (ad 0)), (1, .int a1), (3, .int x3)] dX6_canSet_28 rfl (by decide) rfl 29 rfl ?_
          refine ww_iinc C 3 (1 : Int32) (by decide) (fun v12 => [(3, .int v12), (2, .int v11), (0, .ref (ad 0)), (1, .int a1)]) dX6_canSet_29 rfl (by decide) (fun _ => rfl) h 32 rfl (fun v12 h => ?_)
          refine ww_goto C 4 dX6_canSet_32 (by decide) ?_
          exact ww_sub [2, 3, 1, 0] rfl (ih _ _ _ h)
  rw [X6_canSet] at h
  refine ww_iconst C (0 : Int32) dX6_canSet_0 (by decide) 1 rfl ?_
  refine ww_istore_n C [(2, .int (0 : Int32)), (0, .ref (ad 0)), (1, .int a1)] dX6_canSet_1 rfl (by decide) rfl 2 rfl ?_
  refine ww_iconst C (0 : Int32) dX6_canSet_2 (by decide) 3 rfl ?_
  refine ww_istore_n C [(3, .int (0 : Int32)), (2, .int (0 : Int32)), (0, .ref (ad 0)), (1, .int a1)] dX6_canSet_3 rfl (by decide) rfl 4 rfl ?_
  exact ww_sub [2, 3, 1, 0] rfl (L4h N _ _ _ h)

set_option maxRecDepth 100000 in
set_option maxHeartbeats 4000000 in
theorem k_X6_told {l : Launch} {D : va_G} {ad : Nat → Nat} {cA : Nat → ClassId} {tys : List (ClassId × FieldType)} {n : Nat} {sa : Nat → Nat} (hn : 20 ≤ n) {N : Nat} {g : Mem} {a1 : Int32} {a2 : Int32} {r : Int32} {g1 : Mem} (h : X6_told N a1 a2 g = some (r, g1)) : CTi l yX6_told (wsm yX6_told cX6_told 3 (some .int)) 7 D YM ad cA tys n sa g [.ref (ad 0), .int a1, .int a2] r g1 := by
  refine ct_of RX6 rfl (by decide +kernel) (Nat.le_of_ble_eq_true rfl) rfl (fun sz => PBi D YM ad cA n r g1 sz) ?_
  intro p e R s m args below meth c C hr
  rw [X6_told] at h
  refine ww_aload_n C 0 dX6_told_0 rfl rfl 1 rfl ?_
  refine ww_iload_n C 1 dX6_told_1 rfl rfl 2 rfl ?_
  refine ww_callVi C (As := [.int a1]) (st := []) h cl_X6.1 (obM hn) (fun _ _ hF => k_X6_isOne hn hF) w_995 cm_X6_isOne (by decide) (by decide) rfl rfl (Nat.le_of_ble_eq_true rfl) dX6_told_2 5 rfl (fun v20 u19 h => ?_)
  refine ww_if_ne C 11 dX6_told_5 (by decide) h 8 rfl (fun h => ?_) (fun h => ?_)
  · refine ww_iload_n C 2 dX6_told_11 rfl rfl 12 rfl ?_
    refine sw_1 h (fun e21 h => ?_) (fun n22 h => ?_)
    · refine ww_tin C (v := (0 : Int32)) e21 52 dX6_told_12 (by decide) (by decide) rfl (by decide) ?_
      refine ww_aload_n C 0 dX6_told_52 rfl rfl 53 rfl ?_
      refine ww_getS C cl_X6 (obM hn) 3 (by decide) rfl 3 rfl w_850 dX6_told_53 56 rfl ?_
      refine ww_iconst C (2 : Int32) dX6_told_56 (by decide) 57 rfl ?_
      refine ww_iload_n C 1 dX6_told_57 rfl rfl 58 rfl ?_
      refine ww_imul C dX6_told_58 59 rfl ?_
      refine ww_iload_n C 2 dX6_told_59 rfl rfl 60 rfl ?_
      refine ww_iadd C dX6_told_60 61 rfl ?_
      refine ww_iald C (iaM hn 3 12 (by decide) (by decide) rfl) dX6_told_61 h 62 rfl (fun h => ?_)
      exact ww_iret C dX6_told_62 hr h
    refine sw_1 h (fun e23 h => ?_) (fun n24 h => ?_)
    · refine ww_tin C (v := (1 : Int32)) e23 52 dX6_told_12 (by decide) (by decide) rfl (by decide) ?_
      refine ww_aload_n C 0 dX6_told_52 rfl rfl 53 rfl ?_
      refine ww_getS C cl_X6 (obM hn) 3 (by decide) rfl 3 rfl w_850 dX6_told_53 56 rfl ?_
      refine ww_iconst C (2 : Int32) dX6_told_56 (by decide) 57 rfl ?_
      refine ww_iload_n C 1 dX6_told_57 rfl rfl 58 rfl ?_
      refine ww_imul C dX6_told_58 59 rfl ?_
      refine ww_iload_n C 2 dX6_told_59 rfl rfl 60 rfl ?_
      refine ww_iadd C dX6_told_60 61 rfl ?_
      refine ww_iald C (iaM hn 3 12 (by decide) (by decide) rfl) dX6_told_61 h 62 rfl (fun h => ?_)
      exact ww_iret C dX6_told_62 hr h
    refine sw_1 h (fun e25 h => ?_) (fun n26 h => ?_)
    · refine ww_tin C (v := (2 : Int32)) e25 63 dX6_told_12 (by decide) (by decide) rfl (by decide) ?_
      refine ww_aload_n C 0 dX6_told_63 rfl rfl 64 rfl ?_
      refine ww_getS C cl_X6 (obM hn) 1 (by decide) rfl 1 rfl w_848 dX6_told_64 67 rfl ?_
      refine ww_iload_n C 1 dX6_told_67 rfl rfl 68 rfl ?_
      refine ww_iald C (iaM hn 1 6 (by decide) (by decide) rfl) dX6_told_68 h 69 rfl (fun h => ?_)
      exact ww_iret C dX6_told_69 hr h
    refine sw_1 h (fun e27 h => ?_) (fun n28 h => ?_)
    · refine ww_tin C (v := (3 : Int32)) e27 70 dX6_told_12 (by decide) (by decide) rfl (by decide) ?_
      refine ww_aload_n C 0 dX6_told_70 rfl rfl 71 rfl ?_
      refine ww_getS C cl_X6 (obM hn) 2 (by decide) rfl 2 rfl w_849 dX6_told_71 74 rfl ?_
      refine ww_iload_n C 1 dX6_told_74 rfl rfl 75 rfl ?_
      refine ww_iald C (iaM hn 2 6 (by decide) (by decide) rfl) dX6_told_75 h 76 rfl (fun h => ?_)
      exact ww_iret C dX6_told_76 hr h
    refine sw_1 h (fun e29 h => ?_) (fun n30 h => ?_)
    · refine ww_tin C (v := (4 : Int32)) e29 77 dX6_told_12 (by decide) (by decide) rfl (by decide) ?_
      refine ww_aload_n C 0 dX6_told_77 rfl rfl 78 rfl ?_
      refine ww_iload_n C 1 dX6_told_78 rfl rfl 79 rfl ?_
      refine ww_callVi C (As := [.int a1]) (st := []) h cl_X6.1 (obM hn) (fun _ _ hF => k_X6_canSet hn hF) w_1025 cm_X6_canSet (by decide) (by decide) rfl rfl (Nat.le_of_ble_eq_true rfl) dX6_told_79 82 rfl (fun v32 u31 h => ?_)
      exact ww_iret C dX6_told_82 hr h
    refine sw_1 h (fun e33 h => ?_) (fun n34 h => ?_)
    · refine ww_tin C (v := (5 : Int32)) e33 83 dX6_told_12 (by decide) (by decide) rfl (by decide) ?_
      refine ww_aload_n C 0 dX6_told_83 rfl rfl 84 rfl ?_
      refine ww_iload_n C 1 dX6_told_84 rfl rfl 85 rfl ?_
      refine ww_callVi C (As := [.int a1]) (st := []) h cl_X6.1 (obM hn) (fun _ _ hF => k_X6_breathesOf hn hF) w_1041 cm_X6_breathesOf (by decide) (by decide) rfl rfl (Nat.le_of_ble_eq_true rfl) dX6_told_85 88 rfl (fun v36 u35 h => ?_)
      exact ww_iret C dX6_told_88 hr h
    refine ww_tout C 89 dX6_told_12 (by have q0 := sw_ne (z := 0) n22 rfl; have q1 := sw_ne (z := 1) n24 rfl; have q2 := sw_ne (z := 2) n26 rfl; have q3 := sw_ne (z := 3) n28 rfl; have q4 := sw_ne (z := 4) n30 rfl; have q5 := sw_ne (z := 5) n34 rfl; omega) (by decide) ?_
    refine ww_bipush C (-7 : Int32) dX6_told_89 (by decide) 91 rfl ?_
    exact ww_iret C dX6_told_91 hr h
  · refine ww_bipush C (-5 : Int32) dX6_told_8 (by decide) 10 rfl ?_
    exact ww_iret C dX6_told_10 hr h

set_option maxRecDepth 100000 in
set_option maxHeartbeats 4000000 in
theorem k_X6_dives {l : Launch} {D : va_G} {ad : Nat → Nat} {cA : Nat → ClassId} {tys : List (ClassId × FieldType)} {n : Nat} {sa : Nat → Nat} (hn : 20 ≤ n) {N : Nat} {g : Mem} {a1 : Int32} {a2 : Int32} {a3 : Int32} {r : Int32} {g1 : Mem} (h : X6_dives N a1 a2 a3 g = some (r, g1)) : CTi l yX6_dives (wsm yX6_dives cX6_dives 4 (some .int)) 6 D YM ad cA tys n sa g [.ref (ad 0), .int a1, .int a2, .int a3] r g1 := by
  refine ct_of RX6 rfl (by decide +kernel) (Nat.le_of_ble_eq_true rfl) rfl (fun sz => PBi D YM ad cA n r g1 sz) ?_
  intro p e R s m args below meth c C hr
  rw [X6_dives] at h
  refine ww_aload_n C 0 dX6_dives_0 rfl rfl 1 rfl ?_
  refine ww_iload_n C 1 dX6_dives_1 rfl rfl 2 rfl ?_
  refine ww_callVi C (As := [.int a1]) (st := []) h cl_X6.1 (obM hn) (fun _ _ hF => k_X6_isOne hn hF) w_995 cm_X6_isOne (by decide) (by decide) rfl rfl (Nat.le_of_ble_eq_true rfl) dX6_dives_2 5 rfl (fun v14 u13 h => ?_)
  refine ww_if_eq C 15 dX6_dives_5 (by decide) h 8 rfl (fun h => ?_) (fun h => ?_)
  · refine ww_bipush C (-5 : Int32) dX6_dives_15 (by decide) 17 rfl ?_
    exact ww_iret C dX6_dives_17 hr h
  · refine ww_iload_n C 2 dX6_dives_8 rfl rfl 9 rfl ?_
    refine ww_callSi C (As := [.int a2]) (st := []) h (fun _ _ hF => k_X6_isCask hn hF) w_965 cm_X6_isCask (by decide) (by decide) rfl rfl (Nat.le_of_ble_eq_true rfl) dX6_dives_9 12 rfl (fun v16 u15 h => ?_)
    refine ww_if_ne C 18 dX6_dives_12 (by decide) h 15 rfl (fun h => ?_) (fun h => ?_)
    · refine ww_iload_n C 3 dX6_dives_18 rfl rfl 19 rfl ?_
      refine ww_iconst C (0 : Int32) dX6_dives_19 (by decide) 20 rfl ?_
      refine ww_iconst C (2 : Int32) dX6_dives_20 (by decide) 21 rfl ?_
      refine ww_callSi C (As := [.int a3, .int (0 : Int32), .int (2 : Int32)]) (st := []) h (fun _ _ hF => k_X6_in hn hF) w_808 cm_X6_in (by decide) (by decide) rfl rfl (Nat.le_of_ble_eq_true rfl) dX6_dives_21 24 rfl (fun v18 u17 h => ?_)
      refine ww_if_ne C 30 dX6_dives_24 (by decide) h 27 rfl (fun h => ?_) (fun h => ?_)
      · refine ww_iload_n C 3 dX6_dives_30 rfl rfl 31 rfl ?_
        refine ww_if_ne C 43 dX6_dives_31 (by decide) h 34 rfl (fun h => ?_) (fun h => ?_)
        · refine ww_iload_n C 3 dX6_dives_43 rfl rfl 44 rfl ?_
          refine ww_iconst C (1 : Int32) dX6_dives_44 (by decide) 45 rfl ?_
          refine ww_icmp_ne C 57 dX6_dives_45 (by decide) h 48 rfl (fun h => ?_) (fun h => ?_)
          · refine ww_aload_n C 0 dX6_dives_57 rfl rfl 58 rfl ?_
            refine ww_iload_n C 1 dX6_dives_58 rfl rfl 59 rfl ?_
            refine ww_iload_n C 2 dX6_dives_59 rfl rfl 60 rfl ?_
            refine ww_callVi C (As := [.int a1, .int a2]) (st := []) h cl_X6.1 (obM hn) (fun _ _ hF => k_X6_can hn hF) w_1029 cm_X6_can (by decide) (by decide) rfl rfl (Nat.le_of_ble_eq_true rfl) dX6_dives_60 63 rfl (fun v20 u19 h => ?_)
            refine ww_if_eq C 70 dX6_dives_63 (by decide) h 66 rfl (fun h => ?_) (fun h => ?_)
            · refine ww_iconst C (0 : Int32) dX6_dives_70 (by decide) 71 rfl ?_
              exact ww_iret C dX6_dives_71 hr h
            · refine ww_iconst C (1 : Int32) dX6_dives_66 (by decide) 67 rfl ?_
              refine ww_goto C 71 dX6_dives_67 (by decide) ?_
              exact ww_iret C dX6_dives_71 hr h
          · refine ww_aload_n C 0 dX6_dives_48 rfl rfl 49 rfl ?_
            refine ww_iload_n C 1 dX6_dives_49 rfl rfl 50 rfl ?_
            refine ww_iload_n C 2 dX6_dives_50 rfl rfl 51 rfl ?_
            refine ww_callVi C (As := [.int a1, .int a2]) (st := []) h cl_X6.1 (obM hn) (fun _ _ hF => k_X6_costsOf hn hF) w_1037 cm_X6_costsOf (by decide) (by decide) rfl rfl (Nat.le_of_ble_eq_true rfl) dX6_dives_51 54 rfl (fun v22 u21 h => ?_)
            refine ww_goto C 71 dX6_dives_54 (by decide) ?_
            exact ww_iret C dX6_dives_71 hr h
        · refine ww_aload_n C 0 dX6_dives_34 rfl rfl 35 rfl ?_
          refine ww_iload_n C 1 dX6_dives_35 rfl rfl 36 rfl ?_
          refine ww_iload_n C 2 dX6_dives_36 rfl rfl 37 rfl ?_
          refine ww_callVi C (As := [.int a1, .int a2]) (st := []) h cl_X6.1 (obM hn) (fun _ _ hF => k_X6_reachesOf hn hF) w_1033 cm_X6_reachesOf (by decide) (by decide) rfl rfl (Nat.le_of_ble_eq_true rfl) dX6_dives_37 40 rfl (fun v24 u23 h => ?_)
          refine ww_goto C 71 dX6_dives_40 (by decide) ?_
          exact ww_iret C dX6_dives_71 hr h
      · refine ww_bipush C (-7 : Int32) dX6_dives_27 (by decide) 29 rfl ?_
        exact ww_iret C dX6_dives_29 hr h
    · refine ww_bipush C (-5 : Int32) dX6_dives_15 (by decide) 17 rfl ?_
      exact ww_iret C dX6_dives_17 hr h

set_option maxRecDepth 100000 in
set_option maxHeartbeats 4000000 in
theorem k_X6_diveOf {l : Launch} {D : va_G} {ad : Nat → Nat} {cA : Nat → ClassId} {tys : List (ClassId × FieldType)} {n : Nat} {sa : Nat → Nat} (hn : 20 ≤ n) {N : Nat} {g : Mem} {a1 : Int32} {a2 : Int32} {r : Int32} {g1 : Mem} (h : X6_diveOf N a1 a2 g = some (r, g1)) : CTv l yX6_diveOf (wsm yX6_diveOf cX6_diveOf 3 none) 5 D YM ad cA tys n sa g [.ref (ad 0), .int a1, .int a2] g1 := by
  refine ct_of RX6 rfl (by decide +kernel) (Nat.le_of_ble_eq_true rfl) rfl (fun sz => PBv D YM ad cA n g1 sz) ?_
  intro p e R s m args below meth c C hr
  rw [X6_diveOf] at h
  refine ww_aload_n C 0 dX6_diveOf_0 rfl rfl 1 rfl ?_
  refine ww_getS C cl_X6 (obM hn) 3 (by decide) rfl 3 rfl w_850 dX6_diveOf_1 4 rfl ?_
  refine ww_iconst C (2 : Int32) dX6_diveOf_4 (by decide) 5 rfl ?_
  refine ww_iload_n C 1 dX6_diveOf_5 rfl rfl 6 rfl ?_
  refine ww_imul C dX6_diveOf_6 7 rfl ?_
  refine ww_bi h (fun v8 h => ?_)
  refine ww_dup2 C dX6_diveOf_7 rfl rfl 8 rfl ?_
  refine ww_iald C (iaM hn 3 12 (by decide) (by decide) rfl) dX6_diveOf_8 h 9 rfl (fun h => ?_)
  refine ww_aload_n C 0 dX6_diveOf_9 rfl rfl 10 rfl ?_
  refine ww_iload_n C 1 dX6_diveOf_10 rfl rfl 11 rfl ?_
  refine ww_iload_n C 2 dX6_diveOf_11 rfl rfl 12 rfl ?_
  refine ww_callVi C (As := [.int a1, .int a2]) (st := [.int (g.1 3 (v8).toNatClampNeg), .int v8, .ref (ad 3)]) h cl_X6.1 (obM hn) (fun _ _ hF => k_X6_costsOf hn hF) w_1037 cm_X6_costsOf (by decide) (by decide) rfl rfl (Nat.le_of_ble_eq_true rfl) dX6_diveOf_12 15 rfl (fun v10 u9 h => ?_)
  refine ww_isub C dX6_diveOf_15 16 rfl ?_
  refine ww_iast C (iaM hn 3 12 (by decide) (by decide) rfl) dX6_diveOf_16 h 17 rfl (fun u11 h => ?_)
  refine ww_aload_n C 0 dX6_diveOf_17 rfl rfl 18 rfl ?_
  refine ww_getS C cl_X6 (obM hn) 4 (by decide) rfl 4 rfl w_851 dX6_diveOf_18 21 rfl ?_
  refine ww_iconst C (4 : Int32) dX6_diveOf_21 (by decide) 22 rfl ?_
  refine ww_iload_n C 2 dX6_diveOf_22 rfl rfl 23 rfl ?_
  refine ww_imul C dX6_diveOf_23 24 rfl ?_
  refine ww_iconst C (3 : Int32) dX6_diveOf_24 (by decide) 25 rfl ?_
  refine ww_iadd C dX6_diveOf_25 26 rfl ?_
  refine ww_iconst C (1 : Int32) dX6_diveOf_26 (by decide) 27 rfl ?_
  refine ww_iast C (iaM hn 4 48 (by decide) (by decide) rfl) dX6_diveOf_27 h 28 rfl (fun u12 h => ?_)
  refine ww_aload_n C 0 dX6_diveOf_28 rfl rfl 29 rfl ?_
  refine ww_getS C cl_X6 (obM hn) 3 (by decide) rfl 3 rfl w_850 dX6_diveOf_29 32 rfl ?_
  refine ww_iconst C (2 : Int32) dX6_diveOf_32 (by decide) 33 rfl ?_
  refine ww_iload_n C 1 dX6_diveOf_33 rfl rfl 34 rfl ?_
  refine ww_imul C dX6_diveOf_34 35 rfl ?_
  refine ww_iconst C (1 : Int32) dX6_diveOf_35 (by decide) 36 rfl ?_
  refine ww_iadd C dX6_diveOf_36 37 rfl ?_
  refine ww_bi h (fun v13 h => ?_)
  refine ww_dup2 C dX6_diveOf_37 rfl rfl 38 rfl ?_
  refine ww_iald C (iaM hn 3 12 (by decide) (by decide) rfl) dX6_diveOf_38 h 39 rfl (fun h => ?_)
  refine ww_iconst C (1 : Int32) dX6_diveOf_39 (by decide) 40 rfl ?_
  refine ww_iadd C dX6_diveOf_40 41 rfl ?_
  refine ww_iast C (iaM hn 3 12 (by decide) (by decide) rfl) dX6_diveOf_41 h 42 rfl (fun u14 h => ?_)
  exact ww_vret C dX6_diveOf_42 hr h

set_option maxRecDepth 100000 in
set_option maxHeartbeats 4000000 in
theorem k_X6_dive {l : Launch} {D : va_G} {ad : Nat → Nat} {cA : Nat → ClassId} {tys : List (ClassId × FieldType)} {n : Nat} {sa : Nat → Nat} (hn : 20 ≤ n) {N : Nat} {g : Mem} {a1 : Int32} {a2 : Int32} {r : Int32} {g1 : Mem} (h : X6_dive N a1 a2 g = some (r, g1)) : CTi l yX6_dive (wsm yX6_dive cX6_dive 3 (some .int)) 6 D YM ad cA tys n sa g [.ref (ad 0), .int a1, .int a2] r g1 := by
  refine ct_of RX6 rfl (by decide +kernel) (Nat.le_of_ble_eq_true rfl) rfl (fun sz => PBi D YM ad cA n r g1 sz) ?_
  intro p e R s m args below meth c C hr
  rw [X6_dive] at h
  refine ww_aload_n C 0 dX6_dive_0 rfl rfl 1 rfl ?_
  refine ww_iload_n C 1 dX6_dive_1 rfl rfl 2 rfl ?_
  refine ww_callVi C (As := [.int a1]) (st := []) h cl_X6.1 (obM hn) (fun _ _ hF => k_X6_isOne hn hF) w_995 cm_X6_isOne (by decide) (by decide) rfl rfl (Nat.le_of_ble_eq_true rfl) dX6_dive_2 5 rfl (fun v10 u9 h => ?_)
  refine ww_if_ne C 11 dX6_dive_5 (by decide) h 8 rfl (fun h => ?_) (fun h => ?_)
  · refine ww_iload_n C 2 dX6_dive_11 rfl rfl 12 rfl ?_
    refine ww_callSi C (As := [.int a2]) (st := []) h (fun _ _ hF => k_X6_isCask hn hF) w_965 cm_X6_isCask (by decide) (by decide) rfl rfl (Nat.le_of_ble_eq_true rfl) dX6_dive_12 15 rfl (fun v12 u11 h => ?_)
    refine ww_if_ne C 21 dX6_dive_15 (by decide) h 18 rfl (fun h => ?_) (fun h => ?_)
    · refine ww_aload_n C 0 dX6_dive_21 rfl rfl 22 rfl ?_
      refine ww_iload_n C 1 dX6_dive_22 rfl rfl 23 rfl ?_
      refine ww_iload_n C 2 dX6_dive_23 rfl rfl 24 rfl ?_
      refine ww_callVi C (As := [.int a1, .int a2]) (st := []) h cl_X6.1 (obM hn) (fun _ _ hF => k_X6_can hn hF) w_1029 cm_X6_can (by decide) (by decide) rfl rfl (Nat.le_of_ble_eq_true rfl) dX6_dive_24 27 rfl (fun v14 u13 h => ?_)
      refine ww_if_ne C 33 dX6_dive_27 (by decide) h 30 rfl (fun h => ?_) (fun h => ?_)
      · refine ww_aload_n C 0 dX6_dive_33 rfl rfl 34 rfl ?_
        refine ww_iload_n C 1 dX6_dive_34 rfl rfl 35 rfl ?_
        refine ww_iload_n C 2 dX6_dive_35 rfl rfl 36 rfl ?_
        refine ww_callVv C (As := [.int a1, .int a2]) (st := []) h cl_X6.1 (obM hn) (fun _ _ hF => k_X6_diveOf hn hF) w_1053 cm_X6_diveOf (by decide) (by decide) rfl rfl (Nat.le_of_ble_eq_true rfl) dX6_dive_36 39 rfl (fun _ u15 h => ?_)
        refine ww_aload_n C 0 dX6_dive_39 rfl rfl 40 rfl ?_
        refine ww_getS C cl_X6 (obM hn) 3 (by decide) rfl 3 rfl w_850 dX6_dive_40 43 rfl ?_
        refine ww_iconst C (2 : Int32) dX6_dive_43 (by decide) 44 rfl ?_
        refine ww_iload_n C 1 dX6_dive_44 rfl rfl 45 rfl ?_
        refine ww_imul C dX6_dive_45 46 rfl ?_
        refine ww_iald C (iaM hn 3 12 (by decide) (by decide) rfl) dX6_dive_46 h 47 rfl (fun h => ?_)
        exact ww_iret C dX6_dive_47 hr h
      · refine ww_bipush C (-3 : Int32) dX6_dive_30 (by decide) 32 rfl ?_
        exact ww_iret C dX6_dive_32 hr h
    · refine ww_bipush C (-6 : Int32) dX6_dive_18 (by decide) 20 rfl ?_
      exact ww_iret C dX6_dive_20 hr h
  · refine ww_bipush C (-5 : Int32) dX6_dive_8 (by decide) 10 rfl ?_
    exact ww_iret C dX6_dive_10 hr h

set_option maxRecDepth 100000 in
set_option maxHeartbeats 4000000 in
theorem k_X6_opens0 {l : Launch} {D : va_G} {ad : Nat → Nat} {cA : Nat → ClassId} {tys : List (ClassId × FieldType)} {n : Nat} {sa : Nat → Nat} (hn : 20 ≤ n) {N : Nat} {g : Mem} {a1 : Int32} {r : Int32} {g1 : Mem} (h : X6_opens0 N a1 g = some (r, g1)) : CTv l yX6_opens0 (wsm yX6_opens0 cX6_opens0 3 none) 2 D YM ad cA tys n sa g [.ref (ad 0), .int a1] g1 := by
  refine ct_of RX6 rfl (by decide +kernel) (Nat.le_of_ble_eq_true rfl) rfl (fun sz => PBv D YM ad cA n g1 sz) ?_
  intro p e R s m args below meth c C hr
  rw [X6_opens0] at h
  refine ww_aload_n C 0 dX6_opens0_0 rfl rfl 1 rfl ?_
  refine ww_getS C cl_X6 (obM hn) 4 (by decide) rfl 4 rfl w_851 dX6_opens0_1 4 rfl ?_
  refine ww_iconst C (4 : Int32) dX6_opens0_4 (by decide) 5 rfl ?_
  refine ww_iload_n C 1 dX6_opens0_5 rfl rfl 6 rfl ?_
  refine ww_imul C dX6_opens0_6 7 rfl ?_
  refine ww_iald C (iaM hn 4 48 (by decide) (by decide) rfl) dX6_opens0_7 h 8 rfl (fun h => ?_)
  refine ww_bi h (fun v6 h => ?_)
  refine ww_istore_n C [(2, .int v6), (0, .ref (ad 0)), (1, .int a1)] dX6_opens0_8 rfl (by decide) rfl 9 rfl ?_
  refine ww_aload_n C 1 dX6_opens0_9 rfl rfl 10 rfl ?_
  refine ww_getS C cl_X6 (obM hn) 5 (by decide) rfl 5 rfl w_852 dX6_opens0_10 13 rfl ?_
  refine ww_iload_n C 0 dX6_opens0_13 rfl rfl 14 rfl ?_
  refine ww_aload_n C 1 dX6_opens0_14 rfl rfl 15 rfl ?_
  refine ww_getS C cl_X6 (obM hn) 5 (by decide) rfl 5 rfl w_852 dX6_opens0_15 18 rfl ?_
  refine ww_iload_n C 0 dX6_opens0_18 rfl rfl 19 rfl ?_
  refine ww_iald C (iaM hn 5 6 (by decide) (by decide) rfl) dX6_opens0_19 h 20 rfl (fun h => ?_)
  refine ww_aload_n C 1 dX6_opens0_20 rfl rfl 21 rfl ?_
  refine ww_getS C cl_X6 (obM hn) 4 (by decide) rfl 4 rfl w_851 dX6_opens0_21 24 rfl ?_
  refine ww_iconst C (4 : Int32) dX6_opens0_24 (by decide) 25 rfl ?_
  refine ww_iload_n C 2 dX6_opens0_25 rfl rfl 26 rfl ?_
  refine ww_imul C dX6_opens0_26 27 rfl ?_
  refine ww_iconst C (1 : Int32) dX6_opens0_27 (by decide) 28 rfl ?_
  refine ww_iadd C dX6_opens0_28 29 rfl ?_
  refine ww_iald C (iaM hn 4 48 (by decide) (by decide) rfl) dX6_opens0_29 h 30 rfl (fun h => ?_)
  refine ww_iadd C dX6_opens0_30 31 rfl ?_
  refine ww_iconst C (0 : Int32) dX6_opens0_31 (by decide) 32 rfl ?_
  refine ww_bipush C (99 : Int32) dX6_opens0_32 (by decide) 34 rfl ?_
  refine ww_callSi C (As := [.int ((g.1 5 (v6).toNatClampNeg) + (g.1 4 (((4 : Int32) * a1) + (1 : Int32)).toNatClampNeg)), .int (0 : Int32), .int (99 : Int32)]) (st := [.int v6, .ref (ad 5)]) h (fun _ _ hF => k_X6_within hn hF) w_1010 cm_X6_within (by decide) (by decide) rfl rfl (Nat.le_of_ble_eq_true rfl) dX6_opens0_34 37 rfl (fun v8 u7 h => ?_)
  refine ww_iast C (iaM hn 5 6 (by decide) (by decide) rfl) dX6_opens0_37 h 38 rfl (fun u9 h => ?_)
  refine ww_aload_n C 1 dX6_opens0_38 rfl rfl 39 rfl ?_
  refine ww_getS C cl_X6 (obM hn) 4 (by decide) rfl 4 rfl w_851 dX6_opens0_39 42 rfl ?_
  refine ww_iconst C (4 : Int32) dX6_opens0_42 (by decide) 43 rfl ?_
  refine ww_iload_n C 2 dX6_opens0_43 rfl rfl 44 rfl ?_
  refine ww_imul C dX6_opens0_44 45 rfl ?_
  refine ww_iconst C (3 : Int32) dX6_opens0_45 (by decide) 46 rfl ?_
  refine ww_iadd C dX6_opens0_46 47 rfl ?_
  refine ww_iconst C (2 : Int32) dX6_opens0_47 (by decide) 48 rfl ?_
  refine ww_iast C (iaM hn 4 48 (by decide) (by decide) rfl) dX6_opens0_48 h 49 rfl (fun u10 h => ?_)
  exact ww_vret C dX6_opens0_49 hr h

set_option maxRecDepth 100000 in
set_option maxHeartbeats 4000000 in
theorem k_X6_open {l : Launch} {D : va_G} {ad : Nat → Nat} {cA : Nat → ClassId} {tys : List (ClassId × FieldType)} {n : Nat} {sa : Nat → Nat} (hn : 20 ≤ n) {N : Nat} {g : Mem} {a1 : Int32} {r : Int32} {g1 : Mem} (h : X6_open N a1 g = some (r, g1)) : CTi l yX6_open (wsm yX6_open cX6_open 2 (some .int)) 3 D YM ad cA tys n sa g [.ref (ad 0), .int a1] r g1 := by
  refine ct_of RX6 rfl (by decide +kernel) (Nat.le_of_ble_eq_true rfl) rfl (fun sz => PBi D YM ad cA n r g1 sz) ?_
  intro p e R s m args below meth c C hr
  rw [X6_open] at h
  refine ww_iload_n C 1 dX6_open_0 rfl rfl 1 rfl ?_
  refine ww_callSi C (As := [.int a1]) (st := []) h (fun _ _ hF => k_X6_isCask hn hF) w_965 cm_X6_isCask (by decide) (by decide) rfl rfl (Nat.le_of_ble_eq_true rfl) dX6_open_1 4 rfl (fun v6 u5 h => ?_)
  refine ww_if_ne C 10 dX6_open_4 (by decide) h 7 rfl (fun h => ?_) (fun h => ?_)
  · refine ww_aload_n C 0 dX6_open_10 rfl rfl 11 rfl ?_
    refine ww_getS C cl_X6 (obM hn) 4 (by decide) rfl 4 rfl w_851 dX6_open_11 14 rfl ?_
    refine ww_iconst C (4 : Int32) dX6_open_14 (by decide) 15 rfl ?_
    refine ww_iload_n C 1 dX6_open_15 rfl rfl 16 rfl ?_
    refine ww_imul C dX6_open_16 17 rfl ?_
    refine ww_iconst C (3 : Int32) dX6_open_17 (by decide) 18 rfl ?_
    refine ww_iadd C dX6_open_18 19 rfl ?_
    refine ww_iald C (iaM hn 4 48 (by decide) (by decide) rfl) dX6_open_19 h 20 rfl (fun h => ?_)
    refine ww_iconst C (1 : Int32) dX6_open_20 (by decide) 21 rfl ?_
    refine ww_icmp_eq C 27 dX6_open_21 (by decide) h 24 rfl (fun h => ?_) (fun h => ?_)
    · refine ww_aload_n C 0 dX6_open_27 rfl rfl 28 rfl ?_
      refine ww_iload_n C 1 dX6_open_28 rfl rfl 29 rfl ?_
      refine ww_callVv C (As := [.int a1]) (st := []) h cl_X6.1 (obM hn) (fun _ _ hF => k_X6_opens0 hn hF) w_1061 cm_X6_opens0 (by decide) (by decide) rfl rfl (Nat.le_of_ble_eq_true rfl) dX6_open_29 32 rfl (fun _ u7 h => ?_)
      refine ww_aload_n C 0 dX6_open_32 rfl rfl 33 rfl ?_
      refine ww_getS C cl_X6 (obM hn) 5 (by decide) rfl 5 rfl w_852 dX6_open_33 36 rfl ?_
      refine ww_aload_n C 0 dX6_open_36 rfl rfl 37 rfl ?_
      refine ww_getS C cl_X6 (obM hn) 4 (by decide) rfl 4 rfl w_851 dX6_open_37 40 rfl ?_
      refine ww_iconst C (4 : Int32) dX6_open_40 (by decide) 41 rfl ?_
      refine ww_iload_n C 1 dX6_open_41 rfl rfl 42 rfl ?_
      refine ww_imul C dX6_open_42 43 rfl ?_
      refine ww_iald C (iaM hn 4 48 (by decide) (by decide) rfl) dX6_open_43 h 44 rfl (fun h => ?_)
      refine ww_iald C (iaM hn 5 6 (by decide) (by decide) rfl) dX6_open_44 h 45 rfl (fun h => ?_)
      exact ww_iret C dX6_open_45 hr h
    · refine ww_bipush C (-3 : Int32) dX6_open_24 (by decide) 26 rfl ?_
      exact ww_iret C dX6_open_26 hr h
  · refine ww_bipush C (-6 : Int32) dX6_open_7 (by decide) 9 rfl ?_
    exact ww_iret C dX6_open_9 hr h

set_option maxRecDepth 100000 in
set_option maxHeartbeats 4000000 in
theorem k_X6_main0 {l : Launch} {D : va_G} {ad : Nat → Nat} {cA : Nat → ClassId} {tys : List (ClassId × FieldType)} {n : Nat} {sa : Nat → Nat} (hn : 20 ≤ n) {N : Nat} {g : Mem} {r : Int32} {g1 : Mem} (h : X6_main0 N g = some (r, g1)) : CTi l yX6_main0 (wsm yX6_main0 cX6_main0 4 (some .int)) 1 D YM ad cA tys n sa g [.ref (ad 0)] r g1 := by
  refine ct_of RX6 rfl (by decide +kernel) (Nat.le_of_ble_eq_true rfl) rfl (fun sz => PBi D YM ad cA n r g1 sz) ?_
  intro p e R s m args below meth c C hr
  have L6h : ∀ (fu : Nat), (∀ (x1 : Int32) (x2 : Int32) (x3 : Int32) (g : Mem), X6_main0_L6 N fu x1 x2 x3 g = some (r, g1) → WW p l e R s m args below meth c 4 D YM ad cA n (MQ below (PBi D YM ad cA n r g1 s.heap.size) args s 0 0 (AA n ad s.heap.size)) g 6 [(0, .ref (ad 0)), (1, .int x1), (2, .int x2), (3, .int x3)] []) := by
    intro fu
    induction fu with
    | zero => intro x1 x2 x3 g h; cases h
    | succ fu ih =>
      intro x1 x2 x3 g h
      rw [X6_main0_L6] at h
      refine ww_iload_n C 3 dX6_main0_6 rfl rfl 7 rfl ?_
      refine ww_bipush C (6 : Int32) dX6_main0_7 (by decide) 9 rfl ?_
      refine ww_icmp_ge C 55 dX6_main0_9 (by decide) h 12 rfl (fun h => ?_) (fun h => ?_)
      · refine ww_iload_n C 1 dX6_main0_55 rfl rfl 56 rfl ?_
        exact ww_iret C dX6_main0_56 hr h
      · refine ww_aload_n C 0 dX6_main0_12 rfl rfl 13 rfl ?_
        refine ww_getS C cl_X6 (obM hn) 5 (by decide) rfl 5 rfl w_852 dX6_main0_13 16 rfl ?_
        refine ww_iload_n C 3 dX6_main0_16 rfl rfl 17 rfl ?_
        refine ww_iald C (iaM hn 5 6 (by decide) (by decide) rfl) dX6_main0_17 h 18 rfl (fun h => ?_)
        refine ww_iload_n C 2 dX6_main0_18 rfl rfl 19 rfl ?_
        refine ww_icmp_le C 26 dX6_main0_19 (by decide) h 22 rfl (fun h => ?_) (fun h => ?_)
        · refine ww_iload_n C 1 dX6_main0_26 rfl rfl 27 rfl ?_
          refine ww_istore_n C [(1, .int x1), (0, .ref (ad 0)), (2, .int x2), (3, .int x3)] dX6_main0_27 rfl (by decide) rfl 28 rfl ?_
          refine ww_aload_n C 1 dX6_main0_28 rfl rfl 29 rfl ?_
          refine ww_getS C cl_X6 (obM hn) 5 (by decide) rfl 5 rfl w_852 dX6_main0_29 32 rfl ?_
          refine ww_iload_n C 3 dX6_main0_32 rfl rfl 33 rfl ?_
          refine ww_iald C (iaM hn 5 6 (by decide) (by decide) rfl) dX6_main0_33 h 34 rfl (fun h => ?_)
          refine ww_iload_n C 2 dX6_main0_34 rfl rfl 35 rfl ?_
          refine ww_icmp_le C 47 dX6_main0_35 (by decide) h 38 rfl (fun h => ?_) (fun h => ?_)
          · refine ww_iload_n C 2 dX6_main0_47 rfl rfl 48 rfl ?_
            refine ww_istore_n C [(2, .int x2), (1, .int x1), (0, .ref (ad 0)), (3, .int x3)] dX6_main0_48 rfl (by decide) rfl 49 rfl ?_
            refine ww_iinc C 3 (1 : Int32) (by decide) (fun v7 => [(3, .int v7), (2, .int x2), (1, .int x1), (0, .ref (ad 0))]) dX6_main0_49 rfl (by decide) (fun _ => rfl) h 52 rfl (fun v7 h => ?_)
            refine ww_goto C 6 dX6_main0_52 (by decide) ?_
            exact ww_sub [3, 2, 1, 0] rfl (ih _ _ _ _ h)
          · refine ww_aload_n C 1 dX6_main0_38 rfl rfl 39 rfl ?_
            refine ww_getS C cl_X6 (obM hn) 5 (by decide) rfl 5 rfl w_852 dX6_main0_39 42 rfl ?_
            refine ww_iload_n C 3 dX6_main0_42 rfl rfl 43 rfl ?_
            refine ww_iald C (iaM hn 5 6 (by decide) (by decide) rfl) dX6_main0_43 h 44 rfl (fun h => ?_)
            refine ww_goto C 48 dX6_main0_44 (by decide) ?_
            refine ww_bi h (fun v8 h => ?_)
            refine ww_istore_n C [(2, .int v8), (1, .int x1), (0, .ref (ad 0)), (3, .int x3)] dX6_main0_48 rfl (by decide) rfl 49 rfl ?_
            refine ww_iinc C 3 (1 : Int32) (by decide) (fun v9 => [(3, .int v9), (2, .int v8), (1, .int x1), (0, .ref (ad 0))]) dX6_main0_49 rfl (by decide) (fun _ => rfl) h 52 rfl (fun v9 h => ?_)
            refine ww_goto C 6 dX6_main0_52 (by decide) ?_
            exact ww_sub [3, 2, 1, 0] rfl (ih _ _ _ _ h)
        · refine ww_iload_n C 3 dX6_main0_22 rfl rfl 23 rfl ?_
          refine ww_goto C 27 dX6_main0_23 (by decide) ?_
          refine ww_istore_n C [(1, .int x3), (0, .ref (ad 0)), (2, .int x2), (3, .int x3)] dX6_main0_27 rfl (by decide) rfl 28 rfl ?_
          refine ww_aload_n C 1 dX6_main0_28 rfl rfl 29 rfl ?_
          refine ww_getS C cl_X6 (obM hn) 5 (by decide) rfl 5 rfl w_852 dX6_main0_29 32 rfl ?_
          refine ww_iload_n C 3 dX6_main0_32 rfl rfl 33 rfl ?_
          refine ww_iald C (iaM hn 5 6 (by decide) (by decide) rfl) dX6_main0_33 h 34 rfl (fun h => ?_)
          refine ww_iload_n C 2 dX6_main0_34 rfl rfl 35 rfl ?_
          refine ww_icmp_le C 47 dX6_main0_35 (by decide) h 38 rfl (fun h => ?_) (fun h => ?_)
          · refine ww_iload_n C 2 dX6_main0_47 rfl rfl 48 rfl ?_
            refine ww_istore_n C [(2, .int x2), (1, .int x3), (0, .ref (ad 0)), (3, .int x3)] dX6_main0_48 rfl (by decide) rfl 49 rfl ?_
            refine ww_iinc C 3 (1 : Int32) (by decide) (fun v10 => [(3, .int v10), (2, .int x2), (1, .int x3), (0, .ref (ad 0))]) dX6_main0_49 rfl (by decide) (fun _ => rfl) h 52 rfl (fun v10 h => ?_)
            refine ww_goto C 6 dX6_main0_52 (by decide) ?_
            exact ww_sub [3, 2, 1, 0] rfl (ih _ _ _ _ h)
          · refine ww_aload_n C 1 dX6_main0_38 rfl rfl 39 rfl ?_
            refine ww_getS C cl_X6 (obM hn) 5 (by decide) rfl 5 rfl w_852 dX6_main0_39 42 rfl ?_
            refine ww_iload_n C 3 dX6_main0_42 rfl rfl 43 rfl ?_
            refine ww_iald C (iaM hn 5 6 (by decide) (by decide) rfl) dX6_main0_43 h 44 rfl (fun h => ?_)
            refine ww_goto C 48 dX6_main0_44 (by decide) ?_
            refine ww_bi h (fun v11 h => ?_)
            refine ww_istore_n C [(2, .int v11), (1, .int x3), (0, .ref (ad 0)), (3, .int x3)] dX6_main0_48 rfl (by decide) rfl 49 rfl ?_
            refine ww_iinc C 3 (1 : Int32) (by decide) (fun v12 => [(3, .int v12), (2, .int v11), (1, .int x3), (0, .ref (ad 0))]) dX6_main0_49 rfl (by decide) (fun _ => rfl) h 52 rfl (fun v12 h => ?_)
            refine ww_goto C 6 dX6_main0_52 (by decide) ?_
            exact ww_sub [3, 2, 1, 0] rfl (ih _ _ _ _ h)
  rw [X6_main0] at h
  refine ww_iconst C (-1 : Int32) dX6_main0_0 (by decide) 1 rfl ?_
  refine ww_istore_n C [(1, .int (-1 : Int32)), (0, .ref (ad 0))] dX6_main0_1 rfl (by decide) rfl 2 rfl ?_
  refine ww_iconst C (0 : Int32) dX6_main0_2 (by decide) 3 rfl ?_
  refine ww_istore_n C [(2, .int (0 : Int32)), (1, .int (-1 : Int32)), (0, .ref (ad 0))] dX6_main0_3 rfl (by decide) rfl 4 rfl ?_
  refine ww_iconst C (0 : Int32) dX6_main0_4 (by decide) 5 rfl ?_
  refine ww_istore_n C [(3, .int (0 : Int32)), (2, .int (0 : Int32)), (1, .int (-1 : Int32)), (0, .ref (ad 0))] dX6_main0_5 rfl (by decide) rfl 6 rfl ?_
  exact ww_sub [3, 2, 1, 0] rfl (L6h N _ _ _ _ h)

set_option maxRecDepth 100000 in
set_option maxHeartbeats 4000000 in
theorem k_X6_fair {l : Launch} {D : va_G} {ad : Nat → Nat} {cA : Nat → ClassId} {tys : List (ClassId × FieldType)} {n : Nat} {sa : Nat → Nat} (hn : 20 ≤ n) {N : Nat} {g : Mem} {r : Int32} {g1 : Mem} (h : X6_fair N g = some (r, g1)) : CTi l yX6_fair (wsm yX6_fair cX6_fair 1 (some .int)) 1 D YM ad cA tys n sa g [.ref (ad 0)] r g1 := by
  refine ct_of RX6 rfl (by decide +kernel) (Nat.le_of_ble_eq_true rfl) rfl (fun sz => PBi D YM ad cA n r g1 sz) ?_
  intro p e R s m args below meth c C hr
  rw [X6_fair] at h
  refine ww_aload_n C 0 dX6_fair_0 rfl rfl 1 rfl ?_
  refine ww_getS C cl_X6 (obM hn) 5 (by decide) rfl 5 rfl w_852 dX6_fair_1 4 rfl ?_
  refine ww_iconst C (0 : Int32) dX6_fair_4 (by decide) 5 rfl ?_
  refine ww_iald C (iaM hn 5 6 (by decide) (by decide) rfl) dX6_fair_5 h 6 rfl (fun h => ?_)
  refine ww_aload_n C 0 dX6_fair_6 rfl rfl 7 rfl ?_
  refine ww_getS C cl_X6 (obM hn) 5 (by decide) rfl 5 rfl w_852 dX6_fair_7 10 rfl ?_
  refine ww_iconst C (3 : Int32) dX6_fair_10 (by decide) 11 rfl ?_
  refine ww_iald C (iaM hn 5 6 (by decide) (by decide) rfl) dX6_fair_11 h 12 rfl (fun h => ?_)
  refine ww_iadd C dX6_fair_12 13 rfl ?_
  refine ww_aload_n C 0 dX6_fair_13 rfl rfl 14 rfl ?_
  refine ww_getS C cl_X6 (obM hn) 5 (by decide) rfl 5 rfl w_852 dX6_fair_14 17 rfl ?_
  refine ww_iconst C (2 : Int32) dX6_fair_17 (by decide) 18 rfl ?_
  refine ww_iald C (iaM hn 5 6 (by decide) (by decide) rfl) dX6_fair_18 h 19 rfl (fun h => ?_)
  refine ww_isub C dX6_fair_19 20 rfl ?_
  refine ww_iconst C (2 : Int32) dX6_fair_20 (by decide) 21 rfl ?_
  refine ww_aload_n C 0 dX6_fair_21 rfl rfl 22 rfl ?_
  refine ww_getS C cl_X6 (obM hn) 5 (by decide) rfl 5 rfl w_852 dX6_fair_22 25 rfl ?_
  refine ww_iconst C (5 : Int32) dX6_fair_25 (by decide) 26 rfl ?_
  refine ww_iald C (iaM hn 5 6 (by decide) (by decide) rfl) dX6_fair_26 h 27 rfl (fun h => ?_)
  refine ww_imul C dX6_fair_27 28 rfl ?_
  refine ww_isub C dX6_fair_28 29 rfl ?_
  exact ww_iret C dX6_fair_29 hr h

set_option maxRecDepth 100000 in
set_option maxHeartbeats 4000000 in
theorem k_X6_hourOf {l : Launch} {D : va_G} {ad : Nat → Nat} {cA : Nat → ClassId} {tys : List (ClassId × FieldType)} {n : Nat} {sa : Nat → Nat} (hn : 20 ≤ n) {N : Nat} {g : Mem} {r : Int32} {g1 : Mem} (h : X6_hourOf N g = some (r, g1)) : CTv l yX6_hourOf (wsm yX6_hourOf cX6_hourOf 3 none) 4 D YM ad cA tys n sa g [.ref (ad 0)] g1 := by
  refine ct_of RX6 rfl (by decide +kernel) (Nat.le_of_ble_eq_true rfl) rfl (fun sz => PBv D YM ad cA n g1 sz) ?_
  intro p e R s m args below meth c C hr
  have L46h : ∀ (fu : Nat), (∀ (x1 : Int32) (g : Mem), X6_hourOf_L46 N fu x1 g = some (r, g1) → WW p l e R s m args below meth c 3 D YM ad cA n (MQ below (PBv D YM ad cA n g1 s.heap.size) args s 0 0 (AA n ad s.heap.size)) g 46 [(0, .ref (ad 0)), (1, .int x1)] []) := by
    intro fu
    induction fu with
    | zero => intro x1 g h; cases h
    | succ fu ih =>
      intro x1 g h
      rw [X6_hourOf_L46] at h
      refine ww_iload_n C 1 dX6_hourOf_46 rfl rfl 47 rfl ?_
      refine ww_aload_n C 0 dX6_hourOf_47 rfl rfl 48 rfl ?_
      refine ww_getI C cl_X6 (obM hn) 0 (by decide) rfl w_847 dX6_hourOf_48 51 rfl ?_
      refine ww_icmp_ge C 88 dX6_hourOf_51 (by decide) h 54 rfl (fun h => ?_) (fun h => ?_)
      · refine ww_aload_n C 0 dX6_hourOf_88 rfl rfl 89 rfl ?_
        refine ww_dup C dX6_hourOf_89 rfl 90 rfl ?_
        refine ww_getI C cl_X6 (obM hn) 6 (by decide) rfl w_853 dX6_hourOf_90 93 rfl ?_
        refine ww_iconst C (1 : Int32) dX6_hourOf_93 (by decide) 94 rfl ?_
        refine ww_iadd C dX6_hourOf_94 95 rfl ?_
        refine ww_putI C cl_X6 (obM hn) 6 (by decide) rfl tyX6 tyX6_ok nmX6 rfl rfl rfl w_853 dX6_hourOf_95 h 98 rfl (fun u15 h => ?_)
        exact ww_vret C dX6_hourOf_98 hr h
      · refine ww_aload_n C 0 dX6_hourOf_54 rfl rfl 55 rfl ?_
        refine ww_getS C cl_X6 (obM hn) 3 (by decide) rfl 3 rfl w_850 dX6_hourOf_55 58 rfl ?_
        refine ww_iconst C (2 : Int32) dX6_hourOf_58 (by decide) 59 rfl ?_
        refine ww_iload_n C 1 dX6_hourOf_59 rfl rfl 60 rfl ?_
        refine ww_imul C dX6_hourOf_60 61 rfl ?_
        refine ww_aload_n C 0 dX6_hourOf_61 rfl rfl 62 rfl ?_
        refine ww_getS C cl_X6 (obM hn) 3 (by decide) rfl 3 rfl w_850 dX6_hourOf_62 65 rfl ?_
        refine ww_iconst C (2 : Int32) dX6_hourOf_65 (by decide) 66 rfl ?_
        refine ww_iload_n C 1 dX6_hourOf_66 rfl rfl 67 rfl ?_
        refine ww_imul C dX6_hourOf_67 68 rfl ?_
        refine ww_iald C (iaM hn 3 12 (by decide) (by decide) rfl) dX6_hourOf_68 h 69 rfl (fun h => ?_)
        refine ww_aload_n C 0 dX6_hourOf_69 rfl rfl 70 rfl ?_
        refine ww_iload_n C 1 dX6_hourOf_70 rfl rfl 71 rfl ?_
        refine ww_callVi C (As := [.int x1]) (st := [.int (g.1 3 ((2 : Int32) * x1).toNatClampNeg), .int ((2 : Int32) * x1), .ref (ad 3)]) h cl_X6.1 (obM hn) (fun _ _ hF => k_X6_breathesOf hn hF) w_1041 cm_X6_breathesOf (by decide) (by decide) rfl rfl (Nat.le_of_ble_eq_true rfl) dX6_hourOf_71 74 rfl (fun v17 u16 h => ?_)
        refine ww_iadd C dX6_hourOf_74 75 rfl ?_
        refine ww_iconst C (0 : Int32) dX6_hourOf_75 (by decide) 76 rfl ?_
        refine ww_bipush C (99 : Int32) dX6_hourOf_76 (by decide) 78 rfl ?_
        refine ww_callSi C (As := [.int ((g.1 3 ((2 : Int32) * x1).toNatClampNeg) + v17), .int (0 : Int32), .int (99 : Int32)]) (st := [.int ((2 : Int32) * x1), .ref (ad 3)]) h (fun _ _ hF => k_X6_within hn hF) w_1010 cm_X6_within (by decide) (by decide) rfl rfl (Nat.le_of_ble_eq_true rfl) dX6_hourOf_78 81 rfl (fun v19 u18 h => ?_)
        refine ww_iast C (iaM hn 3 12 (by decide) (by decide) rfl) dX6_hourOf_81 h 82 rfl (fun u20 h => ?_)
        refine ww_iinc C 1 (1 : Int32) (by decide) (fun v21 => [(1, .int v21), (0, .ref (ad 0))]) dX6_hourOf_82 rfl (by decide) (fun _ => rfl) h 85 rfl (fun v21 h => ?_)
        refine ww_goto C 46 dX6_hourOf_85 (by decide) ?_
        exact ww_sub [1, 0] rfl (ih _ _ h)
  have L2h : ∀ (fu : Nat), (∀ (x1 : Int32) (g : Mem), X6_hourOf_L2 N fu x1 g = some (r, g1) → WW p l e R s m args below meth c 3 D YM ad cA n (MQ below (PBv D YM ad cA n g1 s.heap.size) args s 0 0 (AA n ad s.heap.size)) g 2 [(0, .ref (ad 0)), (1, .int x1)] []) := by
    intro fu
    induction fu with
    | zero => intro x1 g h; cases h
    | succ fu ih =>
      intro x1 g h
      rw [X6_hourOf_L2] at h
      refine ww_iload_n C 1 dX6_hourOf_2 rfl rfl 3 rfl ?_
      refine ww_bipush C (6 : Int32) dX6_hourOf_3 (by decide) 5 rfl ?_
      refine ww_icmp_ge C 44 dX6_hourOf_5 (by decide) h 8 rfl (fun h => ?_) (fun h => ?_)
      · refine ww_iconst C (0 : Int32) dX6_hourOf_44 (by decide) 45 rfl ?_
        refine ww_istore_n C [(1, .int (0 : Int32)), (0, .ref (ad 0))] dX6_hourOf_45 rfl (by decide) rfl 46 rfl ?_
        exact ww_sub [1, 0] rfl (L46h N _ _ h)
      · refine ww_aload_n C 0 dX6_hourOf_8 rfl rfl 9 rfl ?_
        refine ww_getS C cl_X6 (obM hn) 5 (by decide) rfl 5 rfl w_852 dX6_hourOf_9 12 rfl ?_
        refine ww_iload_n C 1 dX6_hourOf_12 rfl rfl 13 rfl ?_
        refine ww_iald C (iaM hn 5 6 (by decide) (by decide) rfl) dX6_hourOf_13 h 14 rfl (fun h => ?_)
        refine ww_aload_n C 0 dX6_hourOf_14 rfl rfl 15 rfl ?_
        refine ww_iconst C (2 : Int32) dX6_hourOf_15 (by decide) 16 rfl ?_
        refine ww_iconst C (-1 : Int32) dX6_hourOf_16 (by decide) 17 rfl ?_
        refine ww_iload_n C 1 dX6_hourOf_17 rfl rfl 18 rfl ?_
        refine ww_callVi C (As := [.int (2 : Int32), .int (-1 : Int32), .int x1]) (st := [.int (g.1 5 (x1).toNatClampNeg)]) h cl_X6.1 (obM hn) (fun _ _ hF => k_X6_asksOf hn hF) w_999 cm_X6_asksOf (by decide) (by decide) rfl rfl (Nat.le_of_ble_eq_true rfl) dX6_hourOf_18 21 rfl (fun v23 u22 h => ?_)
        refine ww_isub C dX6_hourOf_21 22 rfl ?_
        refine ww_bi h (fun v24 h => ?_)
        refine ww_istore_n C [(2, .int v24), (0, .ref (ad 0)), (1, .int x1)] dX6_hourOf_22 rfl (by decide) rfl 23 rfl ?_
        refine ww_aload_n C 1 dX6_hourOf_23 rfl rfl 24 rfl ?_
        refine ww_getS C cl_X6 (obM hn) 5 (by decide) rfl 5 rfl w_852 dX6_hourOf_24 27 rfl ?_
        refine ww_iload_n C 2 dX6_hourOf_27 rfl rfl 28 rfl ?_
        refine ww_iload_n C 0 dX6_hourOf_28 rfl rfl 29 rfl ?_
        refine ww_if_ge C 36 dX6_hourOf_29 (by decide) h 32 rfl (fun h => ?_) (fun h => ?_)
        · refine ww_iload_n C 0 dX6_hourOf_36 rfl rfl 37 rfl ?_
          refine ww_iast C (iaM hn 5 6 (by decide) (by decide) rfl) dX6_hourOf_37 h 38 rfl (fun u25 h => ?_)
          refine ww_iinc C 2 (1 : Int32) (by decide) (fun v26 => [(1, .int v26), (2, .int v24), (0, .ref (ad 0))]) dX6_hourOf_38 rfl (by decide) (fun _ => rfl) h 41 rfl (fun v26 h => ?_)
          refine ww_goto C 2 dX6_hourOf_41 (by decide) ?_
          exact ww_sub [2, 0] rfl (ih _ _ h)
        · refine ww_iconst C (0 : Int32) dX6_hourOf_32 (by decide) 33 rfl ?_
          refine ww_goto C 37 dX6_hourOf_33 (by decide) ?_
          refine ww_iast C (iaM hn 5 6 (by decide) (by decide) rfl) dX6_hourOf_37 h 38 rfl (fun u27 h => ?_)
          refine ww_iinc C 2 (1 : Int32) (by decide) (fun v28 => [(1, .int v28), (2, .int v24), (0, .ref (ad 0))]) dX6_hourOf_38 rfl (by decide) (fun _ => rfl) h 41 rfl (fun v28 h => ?_)
          refine ww_goto C 2 dX6_hourOf_41 (by decide) ?_
          exact ww_sub [2, 0] rfl (ih _ _ h)
  rw [X6_hourOf] at h
  refine ww_iconst C (0 : Int32) dX6_hourOf_0 (by decide) 1 rfl ?_
  refine ww_istore_n C [(1, .int (0 : Int32)), (0, .ref (ad 0))] dX6_hourOf_1 rfl (by decide) rfl 2 rfl ?_
  exact ww_sub [1, 0] rfl (L2h N _ _ h)

set_option maxRecDepth 100000 in
set_option maxHeartbeats 4000000 in
theorem k_X6_hour {l : Launch} {D : va_G} {ad : Nat → Nat} {cA : Nat → ClassId} {tys : List (ClassId × FieldType)} {n : Nat} {sa : Nat → Nat} (hn : 20 ≤ n) {N : Nat} {g : Mem} {r : Int32} {g1 : Mem} (h : X6_hour N g = some (r, g1)) : CTi l yX6_hour (wsm yX6_hour cX6_hour 1 (some .int)) 5 D YM ad cA tys n sa g [.ref (ad 0)] r g1 := by
  refine ct_of RX6 rfl (by decide +kernel) (Nat.le_of_ble_eq_true rfl) rfl (fun sz => PBi D YM ad cA n r g1 sz) ?_
  intro p e R s m args below meth c C hr
  rw [X6_hour] at h
  refine ww_aload_n C 0 dX6_hour_0 rfl rfl 1 rfl ?_
  refine ww_getI C cl_X6 (obM hn) 6 (by decide) rfl w_853 dX6_hour_1 4 rfl ?_
  refine ww_sipush C (999 : Int32) dX6_hour_4 (by decide) 7 rfl ?_
  refine ww_icmp_ne C 13 dX6_hour_7 (by decide) h 10 rfl (fun h => ?_) (fun h => ?_)
  · refine ww_aload_n C 0 dX6_hour_13 rfl rfl 14 rfl ?_
    refine ww_callVv C (As := []) (st := []) h cl_X6.1 (obM hn) (fun _ _ hF => k_X6_hourOf hn hF) w_1069 cm_X6_hourOf (by decide) (by decide) rfl rfl (Nat.le_of_ble_eq_true rfl) dX6_hour_14 17 rfl (fun _ u5 h => ?_)
    refine ww_aload_n C 0 dX6_hour_17 rfl rfl 18 rfl ?_
    refine ww_callVi C (As := []) (st := []) h cl_X6.1 (obM hn) (fun _ _ hF => k_X6_main0 hn hF) w_1073 cm_X6_main0 (by decide) (by decide) rfl rfl (Nat.le_of_ble_eq_true rfl) dX6_hour_18 21 rfl (fun v8 u7 h => ?_)
    exact ww_iret C dX6_hour_21 hr h
  · refine ww_bipush C (-3 : Int32) dX6_hour_10 (by decide) 12 rfl ?_
    exact ww_iret C dX6_hour_12 hr h

set_option maxRecDepth 100000 in
set_option maxHeartbeats 4000000 in
theorem k_X6_bayOf {l : Launch} {D : va_G} {ad : Nat → Nat} {cA : Nat → ClassId} {tys : List (ClassId × FieldType)} {n : Nat} {sa : Nat → Nat} (hn : 20 ≤ n) {N : Nat} {g : Mem} {a1 : Int32} {r : Int32} {g1 : Mem} (h : X6_bayOf N a1 g = some (r, g1)) : CTi l yX6_bayOf (wsm yX6_bayOf cX6_bayOf 2 (some .int)) 2 D YM ad cA tys n sa g [.ref (ad 0), .int a1] r g1 := by
  refine ct_of RX6 rfl (by decide +kernel) (Nat.le_of_ble_eq_true rfl) rfl (fun sz => PBi D YM ad cA n r g1 sz) ?_
  intro p e R s m args below meth c C hr
  rw [X6_bayOf] at h
  refine ww_iload_n C 1 dX6_bayOf_0 rfl rfl 1 rfl ?_
  refine ww_bipush C (6 : Int32) dX6_bayOf_1 (by decide) 3 rfl ?_
  refine ww_icmp_ge C 15 dX6_bayOf_3 (by decide) h 6 rfl (fun h => ?_) (fun h => ?_)
  · refine ww_iload_n C 1 dX6_bayOf_15 rfl rfl 16 rfl ?_
    refine ww_bipush C (6 : Int32) dX6_bayOf_16 (by decide) 18 rfl ?_
    refine ww_icmp_ne C 28 dX6_bayOf_18 (by decide) h 21 rfl (fun h => ?_) (fun h => ?_)
    · refine ww_aload_n C 0 dX6_bayOf_28 rfl rfl 29 rfl ?_
      refine ww_callVi C (As := []) (st := []) h cl_X6.1 (obM hn) (fun _ _ hF => k_X6_fair hn hF) w_1085 cm_X6_fair (by decide) (by decide) rfl rfl (Nat.le_of_ble_eq_true rfl) dX6_bayOf_29 32 rfl (fun v6 u5 h => ?_)
      exact ww_iret C dX6_bayOf_32 hr h
    · refine ww_aload_n C 0 dX6_bayOf_21 rfl rfl 22 rfl ?_
      refine ww_callVi C (As := []) (st := []) h cl_X6.1 (obM hn) (fun _ _ hF => k_X6_main0 hn hF) w_1073 cm_X6_main0 (by decide) (by decide) rfl rfl (Nat.le_of_ble_eq_true rfl) dX6_bayOf_22 25 rfl (fun v8 u7 h => ?_)
      refine ww_goto C 32 dX6_bayOf_25 (by decide) ?_
      exact ww_iret C dX6_bayOf_32 hr h
  · refine ww_aload_n C 0 dX6_bayOf_6 rfl rfl 7 rfl ?_
    refine ww_getS C cl_X6 (obM hn) 5 (by decide) rfl 5 rfl w_852 dX6_bayOf_7 10 rfl ?_
    refine ww_iload_n C 1 dX6_bayOf_10 rfl rfl 11 rfl ?_
    refine ww_iald C (iaM hn 5 6 (by decide) (by decide) rfl) dX6_bayOf_11 h 12 rfl (fun h => ?_)
    refine ww_goto C 32 dX6_bayOf_12 (by decide) ?_
    exact ww_iret C dX6_bayOf_32 hr h

set_option maxRecDepth 100000 in
set_option maxHeartbeats 4000000 in
theorem k_X6_bay {l : Launch} {D : va_G} {ad : Nat → Nat} {cA : Nat → ClassId} {tys : List (ClassId × FieldType)} {n : Nat} {sa : Nat → Nat} (hn : 20 ≤ n) {N : Nat} {g : Mem} {a1 : Int32} {r : Int32} {g1 : Mem} (h : X6_bay N a1 g = some (r, g1)) : CTi l yX6_bay (wsm yX6_bay cX6_bay 2 (some .int)) 3 D YM ad cA tys n sa g [.ref (ad 0), .int a1] r g1 := by
  refine ct_of RX6 rfl (by decide +kernel) (Nat.le_of_ble_eq_true rfl) rfl (fun sz => PBi D YM ad cA n r g1 sz) ?_
  intro p e R s m args below meth c C hr
  rw [X6_bay] at h
  refine ww_iload_n C 1 dX6_bay_0 rfl rfl 1 rfl ?_
  refine ww_iconst C (0 : Int32) dX6_bay_1 (by decide) 2 rfl ?_
  refine ww_bipush C (7 : Int32) dX6_bay_2 (by decide) 4 rfl ?_
  refine ww_callSi C (As := [.int a1, .int (0 : Int32), .int (7 : Int32)]) (st := []) h (fun _ _ hF => k_X6_in hn hF) w_808 cm_X6_in (by decide) (by decide) rfl rfl (Nat.le_of_ble_eq_true rfl) dX6_bay_4 7 rfl (fun v6 u5 h => ?_)
  refine ww_if_eq C 18 dX6_bay_7 (by decide) h 10 rfl (fun h => ?_) (fun h => ?_)
  · refine ww_sipush C (-1000 : Int32) dX6_bay_18 (by decide) 21 rfl ?_
    exact ww_iret C dX6_bay_21 hr h
  · refine ww_aload_n C 0 dX6_bay_10 rfl rfl 11 rfl ?_
    refine ww_iload_n C 1 dX6_bay_11 rfl rfl 12 rfl ?_
    refine ww_callVi C (As := [.int a1]) (st := []) h cl_X6.1 (obM hn) (fun _ _ hF => k_X6_bayOf hn hF) w_1081 cm_X6_bayOf (by decide) (by decide) rfl rfl (Nat.le_of_ble_eq_true rfl) dX6_bay_12 15 rfl (fun v8 u7 h => ?_)
    refine ww_goto C 21 dX6_bay_15 (by decide) ?_
    exact ww_iret C dX6_bay_21 hr h

set_option maxRecDepth 100000 in
set_option maxHeartbeats 4000000 in
theorem k_X6_keeps {l : Launch} {D : va_G} {ad : Nat → Nat} {cA : Nat → ClassId} {tys : List (ClassId × FieldType)} {n : Nat} {sa : Nat → Nat} (hn : 20 ≤ n) {N : Nat} {g : Mem} {r : Int32} {g1 : Mem} (h : X6_keeps N g = some (r, g1)) : CTv l yX6_keeps (wsm yX6_keeps cX6_keeps 2 none) 1 D YM ad cA tys n sa g [.ref (ad 0)] g1 := by
  refine ct_of RX6 rfl (by decide +kernel) (Nat.le_of_ble_eq_true rfl) rfl (fun sz => PBv D YM ad cA n g1 sz) ?_
  intro p e R s m args below meth c C hr
  have L57h : ∀ (fu : Nat), (∀ (x1 : Int32) (g : Mem), X6_keeps_L57 N fu x1 g = some (r, g1) → WW p l e R s m args below meth c 2 D YM ad cA n (MQ below (PBv D YM ad cA n g1 s.heap.size) args s 0 0 (AA n ad s.heap.size)) g 57 [(0, .ref (ad 0)), (1, .int x1)] []) := by
    intro fu
    induction fu with
    | zero => intro x1 g h; cases h
    | succ fu ih =>
      intro x1 g h
      rw [X6_keeps_L57] at h
      refine ww_iload_n C 1 dX6_keeps_57 rfl rfl 58 rfl ?_
      refine ww_bipush C (6 : Int32) dX6_keeps_58 (by decide) 60 rfl ?_
      refine ww_icmp_ge C 84 dX6_keeps_60 (by decide) h 63 rfl (fun h => ?_) (fun h => ?_)
      · refine ww_aload_n C 0 dX6_keeps_84 rfl rfl 85 rfl ?_
        refine ww_getS C cl_X6 (obM hn) 31 (by decide) rfl 19 rfl w_878 dX6_keeps_85 88 rfl ?_
        refine ww_bipush C (66 : Int32) dX6_keeps_88 (by decide) 90 rfl ?_
        refine ww_aload_n C 0 dX6_keeps_90 rfl rfl 91 rfl ?_
        refine ww_getI C cl_X6 (obM hn) 6 (by decide) rfl w_853 dX6_keeps_91 94 rfl ?_
        refine ww_iast C (iaM hn 19 67 (by decide) (by decide) rfl) dX6_keeps_94 h 95 rfl (fun u8 h => ?_)
        exact ww_vret C dX6_keeps_95 hr h
      · refine ww_aload_n C 0 dX6_keeps_63 rfl rfl 64 rfl ?_
        refine ww_getS C cl_X6 (obM hn) 31 (by decide) rfl 19 rfl w_878 dX6_keeps_64 67 rfl ?_
        refine ww_bipush C (60 : Int32) dX6_keeps_67 (by decide) 69 rfl ?_
        refine ww_iload_n C 1 dX6_keeps_69 rfl rfl 70 rfl ?_
        refine ww_iadd C dX6_keeps_70 71 rfl ?_
        refine ww_aload_n C 0 dX6_keeps_71 rfl rfl 72 rfl ?_
        refine ww_getS C cl_X6 (obM hn) 5 (by decide) rfl 5 rfl w_852 dX6_keeps_72 75 rfl ?_
        refine ww_iload_n C 1 dX6_keeps_75 rfl rfl 76 rfl ?_
        refine ww_iald C (iaM hn 5 6 (by decide) (by decide) rfl) dX6_keeps_76 h 77 rfl (fun h => ?_)
        refine ww_iast C (iaM hn 19 67 (by decide) (by decide) rfl) dX6_keeps_77 h 78 rfl (fun u9 h => ?_)
        refine ww_iinc C 1 (1 : Int32) (by decide) (fun v10 => [(1, .int v10), (0, .ref (ad 0))]) dX6_keeps_78 rfl (by decide) (fun _ => rfl) h 81 rfl (fun v10 h => ?_)
        refine ww_goto C 57 dX6_keeps_81 (by decide) ?_
        exact ww_sub [1, 0] rfl (ih _ _ h)
  have L28h : ∀ (fu : Nat), (∀ (x1 : Int32) (g : Mem), X6_keeps_L28 N fu x1 g = some (r, g1) → WW p l e R s m args below meth c 2 D YM ad cA n (MQ below (PBv D YM ad cA n g1 s.heap.size) args s 0 0 (AA n ad s.heap.size)) g 28 [(0, .ref (ad 0)), (1, .int x1)] []) := by
    intro fu
    induction fu with
    | zero => intro x1 g h; cases h
    | succ fu ih =>
      intro x1 g h
      rw [X6_keeps_L28] at h
      refine ww_iload_n C 1 dX6_keeps_28 rfl rfl 29 rfl ?_
      refine ww_bipush C (48 : Int32) dX6_keeps_29 (by decide) 31 rfl ?_
      refine ww_icmp_ge C 55 dX6_keeps_31 (by decide) h 34 rfl (fun h => ?_) (fun h => ?_)
      · refine ww_iconst C (0 : Int32) dX6_keeps_55 (by decide) 56 rfl ?_
        refine ww_istore_n C [(1, .int (0 : Int32)), (0, .ref (ad 0))] dX6_keeps_56 rfl (by decide) rfl 57 rfl ?_
        exact ww_sub [1, 0] rfl (L57h N _ _ h)
      · refine ww_aload_n C 0 dX6_keeps_34 rfl rfl 35 rfl ?_
        refine ww_getS C cl_X6 (obM hn) 31 (by decide) rfl 19 rfl w_878 dX6_keeps_35 38 rfl ?_
        refine ww_bipush C (12 : Int32) dX6_keeps_38 (by decide) 40 rfl ?_
        refine ww_iload_n C 1 dX6_keeps_40 rfl rfl 41 rfl ?_
        refine ww_iadd C dX6_keeps_41 42 rfl ?_
        refine ww_aload_n C 0 dX6_keeps_42 rfl rfl 43 rfl ?_
        refine ww_getS C cl_X6 (obM hn) 4 (by decide) rfl 4 rfl w_851 dX6_keeps_43 46 rfl ?_
        refine ww_iload_n C 1 dX6_keeps_46 rfl rfl 47 rfl ?_
        refine ww_iald C (iaM hn 4 48 (by decide) (by decide) rfl) dX6_keeps_47 h 48 rfl (fun h => ?_)
        refine ww_iast C (iaM hn 19 67 (by decide) (by decide) rfl) dX6_keeps_48 h 49 rfl (fun u11 h => ?_)
        refine ww_iinc C 1 (1 : Int32) (by decide) (fun v12 => [(1, .int v12), (0, .ref (ad 0))]) dX6_keeps_49 rfl (by decide) (fun _ => rfl) h 52 rfl (fun v12 h => ?_)
        refine ww_goto C 28 dX6_keeps_52 (by decide) ?_
        exact ww_sub [1, 0] rfl (ih _ _ h)
  have L2h : ∀ (fu : Nat), (∀ (x1 : Int32) (g : Mem), X6_keeps_L2 N fu x1 g = some (r, g1) → WW p l e R s m args below meth c 2 D YM ad cA n (MQ below (PBv D YM ad cA n g1 s.heap.size) args s 0 0 (AA n ad s.heap.size)) g 2 [(0, .ref (ad 0)), (1, .int x1)] []) := by
    intro fu
    induction fu with
    | zero => intro x1 g h; cases h
    | succ fu ih =>
      intro x1 g h
      rw [X6_keeps_L2] at h
      refine ww_iload_n C 1 dX6_keeps_2 rfl rfl 3 rfl ?_
      refine ww_bipush C (12 : Int32) dX6_keeps_3 (by decide) 5 rfl ?_
      refine ww_icmp_ge C 26 dX6_keeps_5 (by decide) h 8 rfl (fun h => ?_) (fun h => ?_)
      · refine ww_iconst C (0 : Int32) dX6_keeps_26 (by decide) 27 rfl ?_
        refine ww_istore_n C [(1, .int (0 : Int32)), (0, .ref (ad 0))] dX6_keeps_27 rfl (by decide) rfl 28 rfl ?_
        exact ww_sub [1, 0] rfl (L28h N _ _ h)
      · refine ww_aload_n C 0 dX6_keeps_8 rfl rfl 9 rfl ?_
        refine ww_getS C cl_X6 (obM hn) 31 (by decide) rfl 19 rfl w_878 dX6_keeps_9 12 rfl ?_
        refine ww_iload_n C 1 dX6_keeps_12 rfl rfl 13 rfl ?_
        refine ww_aload_n C 0 dX6_keeps_13 rfl rfl 14 rfl ?_
        refine ww_getS C cl_X6 (obM hn) 3 (by decide) rfl 3 rfl w_850 dX6_keeps_14 17 rfl ?_
        refine ww_iload_n C 1 dX6_keeps_17 rfl rfl 18 rfl ?_
        refine ww_iald C (iaM hn 3 12 (by decide) (by decide) rfl) dX6_keeps_18 h 19 rfl (fun h => ?_)
        refine ww_iast C (iaM hn 19 67 (by decide) (by decide) rfl) dX6_keeps_19 h 20 rfl (fun u13 h => ?_)
        refine ww_iinc C 1 (1 : Int32) (by decide) (fun v14 => [(1, .int v14), (0, .ref (ad 0))]) dX6_keeps_20 rfl (by decide) (fun _ => rfl) h 23 rfl (fun v14 h => ?_)
        refine ww_goto C 2 dX6_keeps_23 (by decide) ?_
        exact ww_sub [1, 0] rfl (ih _ _ h)
  rw [X6_keeps] at h
  refine ww_iconst C (0 : Int32) dX6_keeps_0 (by decide) 1 rfl ?_
  refine ww_istore_n C [(1, .int (0 : Int32)), (0, .ref (ad 0))] dX6_keeps_1 rfl (by decide) rfl 2 rfl ?_
  exact ww_sub [1, 0] rfl (L2h N _ _ h)

set_option maxRecDepth 100000 in
set_option maxHeartbeats 4000000 in
theorem k_X6_lays {l : Launch} {D : va_G} {ad : Nat → Nat} {cA : Nat → ClassId} {tys : List (ClassId × FieldType)} {n : Nat} {sa : Nat → Nat} (hn : 20 ≤ n) {N : Nat} {g : Mem} {r : Int32} {g1 : Mem} (h : X6_lays N g = some (r, g1)) : CTv l yX6_lays (wsm yX6_lays cX6_lays 2 none) 1 D YM ad cA tys n sa g [.ref (ad 0)] g1 := by
  refine ct_of RX6 rfl (by decide +kernel) (Nat.le_of_ble_eq_true rfl) rfl (fun sz => PBv D YM ad cA n g1 sz) ?_
  intro p e R s m args below meth c C hr
  have L57h : ∀ (fu : Nat), (∀ (x1 : Int32) (g : Mem), X6_lays_L57 N fu x1 g = some (r, g1) → WW p l e R s m args below meth c 2 D YM ad cA n (MQ below (PBv D YM ad cA n g1 s.heap.size) args s 0 0 (AA n ad s.heap.size)) g 57 [(0, .ref (ad 0)), (1, .int x1)] []) := by
    intro fu
    induction fu with
    | zero => intro x1 g h; cases h
    | succ fu ih =>
      intro x1 g h
      rw [X6_lays_L57] at h
      refine ww_iload_n C 1 dX6_lays_57 rfl rfl 58 rfl ?_
      refine ww_bipush C (6 : Int32) dX6_lays_58 (by decide) 60 rfl ?_
      refine ww_icmp_ge C 84 dX6_lays_60 (by decide) h 63 rfl (fun h => ?_) (fun h => ?_)
      · refine ww_aload_n C 0 dX6_lays_84 rfl rfl 85 rfl ?_
        refine ww_aload_n C 0 dX6_lays_85 rfl rfl 86 rfl ?_
        refine ww_getS C cl_X6 (obM hn) 31 (by decide) rfl 19 rfl w_878 dX6_lays_86 89 rfl ?_
        refine ww_bipush C (66 : Int32) dX6_lays_89 (by decide) 91 rfl ?_
        refine ww_iald C (iaM hn 19 67 (by decide) (by decide) rfl) dX6_lays_91 h 92 rfl (fun h => ?_)
        refine ww_putI C cl_X6 (obM hn) 6 (by decide) rfl tyX6 tyX6_ok nmX6 rfl rfl rfl w_853 dX6_lays_92 h 95 rfl (fun u8 h => ?_)
        exact ww_vret C dX6_lays_95 hr h
      · refine ww_aload_n C 0 dX6_lays_63 rfl rfl 64 rfl ?_
        refine ww_getS C cl_X6 (obM hn) 5 (by decide) rfl 5 rfl w_852 dX6_lays_64 67 rfl ?_
        refine ww_iload_n C 1 dX6_lays_67 rfl rfl 68 rfl ?_
        refine ww_aload_n C 0 dX6_lays_68 rfl rfl 69 rfl ?_
        refine ww_getS C cl_X6 (obM hn) 31 (by decide) rfl 19 rfl w_878 dX6_lays_69 72 rfl ?_
        refine ww_bipush C (60 : Int32) dX6_lays_72 (by decide) 74 rfl ?_
        refine ww_iload_n C 1 dX6_lays_74 rfl rfl 75 rfl ?_
        refine ww_iadd C dX6_lays_75 76 rfl ?_
        refine ww_iald C (iaM hn 19 67 (by decide) (by decide) rfl) dX6_lays_76 h 77 rfl (fun h => ?_)
        refine ww_iast C (iaM hn 5 6 (by decide) (by decide) rfl) dX6_lays_77 h 78 rfl (fun u9 h => ?_)
        refine ww_iinc C 1 (1 : Int32) (by decide) (fun v10 => [(1, .int v10), (0, .ref (ad 0))]) dX6_lays_78 rfl (by decide) (fun _ => rfl) h 81 rfl (fun v10 h => ?_)
        refine ww_goto C 57 dX6_lays_81 (by decide) ?_
        exact ww_sub [1, 0] rfl (ih _ _ h)
  have L28h : ∀ (fu : Nat), (∀ (x1 : Int32) (g : Mem), X6_lays_L28 N fu x1 g = some (r, g1) → WW p l e R s m args below meth c 2 D YM ad cA n (MQ below (PBv D YM ad cA n g1 s.heap.size) args s 0 0 (AA n ad s.heap.size)) g 28 [(0, .ref (ad 0)), (1, .int x1)] []) := by
    intro fu
    induction fu with
    | zero => intro x1 g h; cases h
    | succ fu ih =>
      intro x1 g h
      rw [X6_lays_L28] at h
      refine ww_iload_n C 1 dX6_lays_28 rfl rfl 29 rfl ?_
      refine ww_bipush C (48 : Int32) dX6_lays_29 (by decide) 31 rfl ?_
      refine ww_icmp_ge C 55 dX6_lays_31 (by decide) h 34 rfl (fun h => ?_) (fun h => ?_)
      · refine ww_iconst C (0 : Int32) dX6_lays_55 (by decide) 56 rfl ?_
        refine ww_istore_n C [(1, .int (0 : Int32)), (0, .ref (ad 0))] dX6_lays_56 rfl (by decide) rfl 57 rfl ?_
        exact ww_sub [1, 0] rfl (L57h N _ _ h)
      · refine ww_aload_n C 0 dX6_lays_34 rfl rfl 35 rfl ?_
        refine ww_getS C cl_X6 (obM hn) 4 (by decide) rfl 4 rfl w_851 dX6_lays_35 38 rfl ?_
        refine ww_iload_n C 1 dX6_lays_38 rfl rfl 39 rfl ?_
        refine ww_aload_n C 0 dX6_lays_39 rfl rfl 40 rfl ?_
        refine ww_getS C cl_X6 (obM hn) 31 (by decide) rfl 19 rfl w_878 dX6_lays_40 43 rfl ?_
        refine ww_bipush C (12 : Int32) dX6_lays_43 (by decide) 45 rfl ?_
        refine ww_iload_n C 1 dX6_lays_45 rfl rfl 46 rfl ?_
        refine ww_iadd C dX6_lays_46 47 rfl ?_
        refine ww_iald C (iaM hn 19 67 (by decide) (by decide) rfl) dX6_lays_47 h 48 rfl (fun h => ?_)
        refine ww_iast C (iaM hn 4 48 (by decide) (by decide) rfl) dX6_lays_48 h 49 rfl (fun u11 h => ?_)
        refine ww_iinc C 1 (1 : Int32) (by decide) (fun v12 => [(1, .int v12), (0, .ref (ad 0))]) dX6_lays_49 rfl (by decide) (fun _ => rfl) h 52 rfl (fun v12 h => ?_)
        refine ww_goto C 28 dX6_lays_52 (by decide) ?_
        exact ww_sub [1, 0] rfl (ih _ _ h)
  have L2h : ∀ (fu : Nat), (∀ (x1 : Int32) (g : Mem), X6_lays_L2 N fu x1 g = some (r, g1) → WW p l e R s m args below meth c 2 D YM ad cA n (MQ below (PBv D YM ad cA n g1 s.heap.size) args s 0 0 (AA n ad s.heap.size)) g 2 [(0, .ref (ad 0)), (1, .int x1)] []) := by
    intro fu
    induction fu with
    | zero => intro x1 g h; cases h
    | succ fu ih =>
      intro x1 g h
      rw [X6_lays_L2] at h
      refine ww_iload_n C 1 dX6_lays_2 rfl rfl 3 rfl ?_
      refine ww_bipush C (12 : Int32) dX6_lays_3 (by decide) 5 rfl ?_
      refine ww_icmp_ge C 26 dX6_lays_5 (by decide) h 8 rfl (fun h => ?_) (fun h => ?_)
      · refine ww_iconst C (0 : Int32) dX6_lays_26 (by decide) 27 rfl ?_
        refine ww_istore_n C [(1, .int (0 : Int32)), (0, .ref (ad 0))] dX6_lays_27 rfl (by decide) rfl 28 rfl ?_
        exact ww_sub [1, 0] rfl (L28h N _ _ h)
      · refine ww_aload_n C 0 dX6_lays_8 rfl rfl 9 rfl ?_
        refine ww_getS C cl_X6 (obM hn) 3 (by decide) rfl 3 rfl w_850 dX6_lays_9 12 rfl ?_
        refine ww_iload_n C 1 dX6_lays_12 rfl rfl 13 rfl ?_
        refine ww_aload_n C 0 dX6_lays_13 rfl rfl 14 rfl ?_
        refine ww_getS C cl_X6 (obM hn) 31 (by decide) rfl 19 rfl w_878 dX6_lays_14 17 rfl ?_
        refine ww_iload_n C 1 dX6_lays_17 rfl rfl 18 rfl ?_
        refine ww_iald C (iaM hn 19 67 (by decide) (by decide) rfl) dX6_lays_18 h 19 rfl (fun h => ?_)
        refine ww_iast C (iaM hn 3 12 (by decide) (by decide) rfl) dX6_lays_19 h 20 rfl (fun u13 h => ?_)
        refine ww_iinc C 1 (1 : Int32) (by decide) (fun v14 => [(1, .int v14), (0, .ref (ad 0))]) dX6_lays_20 rfl (by decide) (fun _ => rfl) h 23 rfl (fun v14 h => ?_)
        refine ww_goto C 2 dX6_lays_23 (by decide) ?_
        exact ww_sub [1, 0] rfl (ih _ _ h)
  rw [X6_lays] at h
  refine ww_iconst C (0 : Int32) dX6_lays_0 (by decide) 1 rfl ?_
  refine ww_istore_n C [(1, .int (0 : Int32)), (0, .ref (ad 0))] dX6_lays_1 rfl (by decide) rfl 2 rfl ?_
  exact ww_sub [1, 0] rfl (L2h N _ _ h)

set_option maxRecDepth 100000 in
set_option maxHeartbeats 4000000 in
theorem k_X6_goes {l : Launch} {D : va_G} {ad : Nat → Nat} {cA : Nat → ClassId} {tys : List (ClassId × FieldType)} {n : Nat} {sa : Nat → Nat} (hn : 20 ≤ n) {N : Nat} {g : Mem} {a1 : Int32} {r : Int32} {g1 : Mem} (h : X6_goes N a1 g = some (r, g1)) : CTv l yX6_goes (wsm yX6_goes cX6_goes 3 none) 5 D YM ad cA tys n sa g [.ref (ad 0), .int a1] g1 := by
  refine ct_of RX6 rfl (by decide +kernel) (Nat.le_of_ble_eq_true rfl) rfl (fun sz => PBv D YM ad cA n g1 sz) ?_
  intro p e R s m args below meth c C hr
  have L2h : ∀ (fu : Nat), (∀ (x2 : Int32) (g : Mem), X6_goes_L2 N a1 fu x2 g = some (r, g1) → WW p l e R s m args below meth c 3 D YM ad cA n (MQ below (PBv D YM ad cA n g1 s.heap.size) args s 0 0 (AA n ad s.heap.size)) g 2 [(0, .ref (ad 0)), (1, .int a1), (2, .int x2)] []) := by
    intro fu
    induction fu with
    | zero => intro x2 g h; cases h
    | succ fu ih =>
      intro x2 g h
      rw [X6_goes_L2] at h
      refine ww_iload_n C 2 dX6_goes_2 rfl rfl 3 rfl ?_
      refine ww_iload_n C 1 dX6_goes_3 rfl rfl 4 rfl ?_
      refine ww_icmp_ge C 17 dX6_goes_4 (by decide) h 7 rfl (fun h => ?_) (fun h => ?_)
      · exact ww_vret C dX6_goes_17 hr h
      · refine ww_aload_n C 0 dX6_goes_7 rfl rfl 8 rfl ?_
        refine ww_callVv C (As := []) (st := []) h cl_X6.1 (obM hn) (fun _ _ hF => k_X6_hourOf hn hF) w_1069 cm_X6_hourOf (by decide) (by decide) rfl rfl (Nat.le_of_ble_eq_true rfl) dX6_goes_8 11 rfl (fun _ u4 h => ?_)
        refine ww_iinc C 2 (1 : Int32) (by decide) (fun v6 => [(2, .int v6), (0, .ref (ad 0)), (1, .int a1)]) dX6_goes_11 rfl (by decide) (fun _ => rfl) h 14 rfl (fun v6 h => ?_)
        refine ww_goto C 2 dX6_goes_14 (by decide) ?_
        exact ww_sub [1, 2, 0] rfl (ih _ _ h)
  rw [X6_goes] at h
  refine ww_iconst C (0 : Int32) dX6_goes_0 (by decide) 1 rfl ?_
  refine ww_istore_n C [(2, .int (0 : Int32)), (0, .ref (ad 0)), (1, .int a1)] dX6_goes_1 rfl (by decide) rfl 2 rfl ?_
  exact ww_sub [1, 2, 0] rfl (L2h N _ _ h)

set_option maxRecDepth 100000 in
set_option maxHeartbeats 4000000 in
theorem k_X6_run {l : Launch} {D : va_G} {ad : Nat → Nat} {cA : Nat → ClassId} {tys : List (ClassId × FieldType)} {n : Nat} {sa : Nat → Nat} (hn : 20 ≤ n) {N : Nat} {g : Mem} {a1 : Int32} {a2 : Int32} {r : Int32} {g1 : Mem} (h : X6_run N a1 a2 g = some (r, g1)) : CTi l yX6_run (wsm yX6_run cX6_run 4 (some .int)) 6 D YM ad cA tys n sa g [.ref (ad 0), .int a1, .int a2] r g1 := by
  refine ct_of RX6 rfl (by decide +kernel) (Nat.le_of_ble_eq_true rfl) rfl (fun sz => PBi D YM ad cA n r g1 sz) ?_
  intro p e R s m args below meth c C hr
  rw [X6_run] at h
  refine ww_iload_n C 1 dX6_run_0 rfl rfl 1 rfl ?_
  refine ww_iconst C (0 : Int32) dX6_run_1 (by decide) 2 rfl ?_
  refine ww_bipush C (40 : Int32) dX6_run_2 (by decide) 4 rfl ?_
  refine ww_callSi C (As := [.int a1, .int (0 : Int32), .int (40 : Int32)]) (st := []) h (fun _ _ hF => k_X6_in hn hF) w_808 cm_X6_in (by decide) (by decide) rfl rfl (Nat.le_of_ble_eq_true rfl) dX6_run_4 7 rfl (fun v30 u29 h => ?_)
  refine ww_if_eq C 36 dX6_run_7 (by decide) h 10 rfl (fun h => ?_) (fun h => ?_)
  · refine ww_sipush C (-1000 : Int32) dX6_run_36 (by decide) 39 rfl ?_
    exact ww_iret C dX6_run_39 hr h
  · refine ww_iload_n C 2 dX6_run_10 rfl rfl 11 rfl ?_
    refine ww_iconst C (0 : Int32) dX6_run_11 (by decide) 12 rfl ?_
    refine ww_bipush C (7 : Int32) dX6_run_12 (by decide) 14 rfl ?_
    refine ww_callSi C (As := [.int a2, .int (0 : Int32), .int (7 : Int32)]) (st := []) h (fun _ _ hF => k_X6_in hn hF) w_808 cm_X6_in (by decide) (by decide) rfl rfl (Nat.le_of_ble_eq_true rfl) dX6_run_14 17 rfl (fun v32 u31 h => ?_)
    refine ww_if_ne C 40 dX6_run_17 (by decide) h 20 rfl (fun h => ?_) (fun h => ?_)
    · refine ww_aload_n C 0 dX6_run_40 rfl rfl 41 rfl ?_
      refine ww_callVv C (As := []) (st := []) h cl_X6.1 (obM hn) (fun _ _ hF => k_X6_keeps hn hF) w_1093 cm_X6_keeps (by decide) (by decide) rfl rfl (Nat.le_of_ble_eq_true rfl) dX6_run_41 44 rfl (fun _ u33 h => ?_)
      refine ww_aload_n C 0 dX6_run_44 rfl rfl 45 rfl ?_
      refine ww_iload_n C 1 dX6_run_45 rfl rfl 46 rfl ?_
      refine ww_callVv C (As := [.int a1]) (st := []) h cl_X6.1 (obM hn) (fun _ _ hF => k_X6_goes hn hF) w_1097 cm_X6_goes (by decide) (by decide) rfl rfl (Nat.le_of_ble_eq_true rfl) dX6_run_46 49 rfl (fun _ u35 h => ?_)
      refine ww_iconst C (0 : Int32) dX6_run_49 (by decide) 50 rfl ?_
      refine ww_istore_n C [(3, .int (0 : Int32)), (0, .ref (ad 0)), (1, .int a1), (2, .int a2)] dX6_run_50 rfl (by decide) rfl 51 rfl ?_
      refine ww_iload_n C 3 dX6_run_51 rfl rfl 52 rfl ?_
      refine ww_bipush C (8 : Int32) dX6_run_52 (by decide) 54 rfl ?_
      refine ww_icmp_ge C 66 dX6_run_54 (by decide) h 57 rfl (fun h => ?_) (fun h => ?_)
      · refine ww_aload_n C 1 dX6_run_66 rfl rfl 67 rfl ?_
        refine ww_getS C cl_X6 (obM hn) 3 (by decide) rfl 3 rfl w_850 dX6_run_67 70 rfl ?_
        refine ww_iconst C (2 : Int32) dX6_run_70 (by decide) 71 rfl ?_
        refine ww_iload_n C 3 dX6_run_71 rfl rfl 72 rfl ?_
        refine ww_bipush C (10 : Int32) dX6_run_72 (by decide) 74 rfl ?_
        refine ww_isub C dX6_run_74 75 rfl ?_
        refine ww_imul C dX6_run_75 76 rfl ?_
        refine ww_iald C (iaM hn 3 12 (by decide) (by decide) rfl) dX6_run_76 h 77 rfl (fun h => ?_)
        refine ww_bi h (fun v37 h => ?_)
        refine ww_istore_n C [(3, .int v37), (0, .ref (ad 0)), (1, .int a1), (2, .int a2)] dX6_run_77 rfl (by decide) rfl 78 rfl ?_
        refine ww_aload_n C 1 dX6_run_78 rfl rfl 79 rfl ?_
        refine ww_callVv C (As := []) (st := []) h cl_X6.1 (obM hn) (fun _ _ hF => k_X6_lays hn hF) w_1101 cm_X6_lays (by decide) (by decide) rfl rfl (Nat.le_of_ble_eq_true rfl) dX6_run_79 82 rfl (fun _ u38 h => ?_)
        refine ww_iload_n C 0 dX6_run_82 rfl rfl 83 rfl ?_
        exact ww_iret C dX6_run_83 hr h
      · refine ww_aload_n C 1 dX6_run_57 rfl rfl 58 rfl ?_
        refine ww_iload_n C 3 dX6_run_58 rfl rfl 59 rfl ?_
        refine ww_callVi C (As := [.int a2]) (st := []) h cl_X6.1 (obM hn) (fun _ _ hF => k_X6_bayOf hn hF) w_1081 cm_X6_bayOf (by decide) (by decide) rfl rfl (Nat.le_of_ble_eq_true rfl) dX6_run_59 62 rfl (fun v41 u40 h => ?_)
        refine ww_istore_n C [(3, .int v41), (0, .ref (ad 0)), (1, .int a1), (2, .int a2)] dX6_run_62 rfl (by decide) rfl 63 rfl ?_
        refine ww_goto C 78 dX6_run_63 (by decide) ?_
        refine ww_aload_n C 1 dX6_run_78 rfl rfl 79 rfl ?_
        refine ww_callVv C (As := []) (st := []) h cl_X6.1 (obM hn) (fun _ _ hF => k_X6_lays hn hF) w_1101 cm_X6_lays (by decide) (by decide) rfl rfl (Nat.le_of_ble_eq_true rfl) dX6_run_79 82 rfl (fun _ u42 h => ?_)
        refine ww_iload_n C 0 dX6_run_82 rfl rfl 83 rfl ?_
        exact ww_iret C dX6_run_83 hr h
    · refine ww_iload_n C 2 dX6_run_20 rfl rfl 21 rfl ?_
      refine ww_bipush C (10 : Int32) dX6_run_21 (by decide) 23 rfl ?_
      refine ww_bipush C (9 : Int32) dX6_run_23 (by decide) 25 rfl ?_
      refine ww_aload_n C 0 dX6_run_25 rfl rfl 26 rfl ?_
      refine ww_getI C cl_X6 (obM hn) 0 (by decide) rfl w_847 dX6_run_26 29 rfl ?_
      refine ww_iadd C dX6_run_29 30 rfl ?_
      refine ww_callSi C (As := [.int a2, .int (10 : Int32), .int ((9 : Int32) + (u31.1 0 0))]) (st := []) h (fun _ _ hF => k_X6_in hn hF) w_808 cm_X6_in (by decide) (by decide) rfl rfl (Nat.le_of_ble_eq_true rfl) dX6_run_30 33 rfl (fun v45 u44 h => ?_)
      refine ww_if_ne C 40 dX6_run_33 (by decide) h 36 rfl (fun h => ?_) (fun h => ?_)
      · refine ww_aload_n C 0 dX6_run_40 rfl rfl 41 rfl ?_
        refine ww_callVv C (As := []) (st := []) h cl_X6.1 (obM hn) (fun _ _ hF => k_X6_keeps hn hF) w_1093 cm_X6_keeps (by decide) (by decide) rfl rfl (Nat.le_of_ble_eq_true rfl) dX6_run_41 44 rfl (fun _ u46 h => ?_)
        refine ww_aload_n C 0 dX6_run_44 rfl rfl 45 rfl ?_
        refine ww_iload_n C 1 dX6_run_45 rfl rfl 46 rfl ?_
        refine ww_callVv C (As := [.int a1]) (st := []) h cl_X6.1 (obM hn) (fun _ _ hF => k_X6_goes hn hF) w_1097 cm_X6_goes (by decide) (by decide) rfl rfl (Nat.le_of_ble_eq_true rfl) dX6_run_46 49 rfl (fun _ u48 h => ?_)
        refine ww_iconst C (0 : Int32) dX6_run_49 (by decide) 50 rfl ?_
        refine ww_istore_n C [(3, .int (0 : Int32)), (0, .ref (ad 0)), (1, .int a1), (2, .int a2)] dX6_run_50 rfl (by decide) rfl 51 rfl ?_
        refine ww_iload_n C 3 dX6_run_51 rfl rfl 52 rfl ?_
        refine ww_bipush C (8 : Int32) dX6_run_52 (by decide) 54 rfl ?_
        refine ww_icmp_ge C 66 dX6_run_54 (by decide) h 57 rfl (fun h => ?_) (fun h => ?_)
        · refine ww_aload_n C 1 dX6_run_66 rfl rfl 67 rfl ?_
          refine ww_getS C cl_X6 (obM hn) 3 (by decide) rfl 3 rfl w_850 dX6_run_67 70 rfl ?_
          refine ww_iconst C (2 : Int32) dX6_run_70 (by decide) 71 rfl ?_
          refine ww_iload_n C 3 dX6_run_71 rfl rfl 72 rfl ?_
          refine ww_bipush C (10 : Int32) dX6_run_72 (by decide) 74 rfl ?_
          refine ww_isub C dX6_run_74 75 rfl ?_
          refine ww_imul C dX6_run_75 76 rfl ?_
          refine ww_iald C (iaM hn 3 12 (by decide) (by decide) rfl) dX6_run_76 h 77 rfl (fun h => ?_)
          refine ww_bi h (fun v50 h => ?_)
          refine ww_istore_n C [(3, .int v50), (0, .ref (ad 0)), (1, .int a1), (2, .int a2)] dX6_run_77 rfl (by decide) rfl 78 rfl ?_
          refine ww_aload_n C 1 dX6_run_78 rfl rfl 79 rfl ?_
          refine ww_callVv C (As := []) (st := []) h cl_X6.1 (obM hn) (fun _ _ hF => k_X6_lays hn hF) w_1101 cm_X6_lays (by decide) (by decide) rfl rfl (Nat.le_of_ble_eq_true rfl) dX6_run_79 82 rfl (fun _ u51 h => ?_)
          refine ww_iload_n C 0 dX6_run_82 rfl rfl 83 rfl ?_
          exact ww_iret C dX6_run_83 hr h
        · refine ww_aload_n C 1 dX6_run_57 rfl rfl 58 rfl ?_
          refine ww_iload_n C 3 dX6_run_58 rfl rfl 59 rfl ?_
          refine ww_callVi C (As := [.int a2]) (st := []) h cl_X6.1 (obM hn) (fun _ _ hF => k_X6_bayOf hn hF) w_1081 cm_X6_bayOf (by decide) (by decide) rfl rfl (Nat.le_of_ble_eq_true rfl) dX6_run_59 62 rfl (fun v54 u53 h => ?_)
          refine ww_istore_n C [(3, .int v54), (0, .ref (ad 0)), (1, .int a1), (2, .int a2)] dX6_run_62 rfl (by decide) rfl 63 rfl ?_
          refine ww_goto C 78 dX6_run_63 (by decide) ?_
          refine ww_aload_n C 1 dX6_run_78 rfl rfl 79 rfl ?_
          refine ww_callVv C (As := []) (st := []) h cl_X6.1 (obM hn) (fun _ _ hF => k_X6_lays hn hF) w_1101 cm_X6_lays (by decide) (by decide) rfl rfl (Nat.le_of_ble_eq_true rfl) dX6_run_79 82 rfl (fun _ u55 h => ?_)
          refine ww_iload_n C 0 dX6_run_82 rfl rfl 83 rfl ?_
          exact ww_iret C dX6_run_83 hr h
      · refine ww_sipush C (-1000 : Int32) dX6_run_36 (by decide) 39 rfl ?_
        exact ww_iret C dX6_run_39 hr h

set_option maxRecDepth 100000 in
set_option maxHeartbeats 4000000 in
theorem k_X6_stills {l : Launch} {D : va_G} {ad : Nat → Nat} {cA : Nat → ClassId} {tys : List (ClassId × FieldType)} {n : Nat} {sa : Nat → Nat} (hn : 20 ≤ n) {N : Nat} {g : Mem} {r : Int32} {g1 : Mem} (h : X6_stills N g = some (r, g1)) : CTi l yX6_stills (wsm yX6_stills cX6_stills 3 (some .int)) 5 D YM ad cA tys n sa g [.ref (ad 0)] r g1 := by
  refine ct_of RX6 rfl (by decide +kernel) (Nat.le_of_ble_eq_true rfl) rfl (fun sz => PBi D YM ad cA n r g1 sz) ?_
  intro p e R s m args below meth c C hr
  have L8h : ∀ (fu : Nat), (∀ (x1 : Int32) (x2 : Int32) (g : Mem), X6_stills_L8 N fu x1 x2 g = some (r, g1) → WW p l e R s m args below meth c 3 D YM ad cA n (MQ below (PBi D YM ad cA n r g1 s.heap.size) args s 0 0 (AA n ad s.heap.size)) g 8 [(0, .ref (ad 0)), (1, .int x1), (2, .int x2)] []) := by
    intro fu
    induction fu with
    | zero => intro x1 x2 g h; cases h
    | succ fu ih =>
      intro x1 x2 g h
      rw [X6_stills_L8] at h
      refine ww_iload_n C 2 dX6_stills_8 rfl rfl 9 rfl ?_
      refine ww_bipush C (60 : Int32) dX6_stills_9 (by decide) 11 rfl ?_
      refine ww_icmp_gt C 43 dX6_stills_11 (by decide) h 14 rfl (fun h => ?_) (fun h => ?_)
      · refine ww_aload_n C 0 dX6_stills_43 rfl rfl 44 rfl ?_
        refine ww_callVv C (As := []) (st := []) h cl_X6.1 (obM hn) (fun _ _ hF => k_X6_lays hn hF) w_1101 cm_X6_lays (by decide) (by decide) rfl rfl (Nat.le_of_ble_eq_true rfl) dX6_stills_44 47 rfl (fun _ u15 h => ?_)
        refine ww_iload_n C 1 dX6_stills_47 rfl rfl 48 rfl ?_
        exact ww_iret C dX6_stills_48 hr h
      · refine ww_iload_n C 1 dX6_stills_14 rfl rfl 15 rfl ?_
        refine ww_iconst C (-1 : Int32) dX6_stills_15 (by decide) 16 rfl ?_
        refine ww_icmp_ne C 43 dX6_stills_16 (by decide) h 19 rfl (fun h => ?_) (fun h => ?_)
        · refine ww_aload_n C 0 dX6_stills_43 rfl rfl 44 rfl ?_
          refine ww_callVv C (As := []) (st := []) h cl_X6.1 (obM hn) (fun _ _ hF => k_X6_lays hn hF) w_1101 cm_X6_lays (by decide) (by decide) rfl rfl (Nat.le_of_ble_eq_true rfl) dX6_stills_44 47 rfl (fun _ u17 h => ?_)
          refine ww_iload_n C 1 dX6_stills_47 rfl rfl 48 rfl ?_
          exact ww_iret C dX6_stills_48 hr h
        · refine ww_aload_n C 0 dX6_stills_19 rfl rfl 20 rfl ?_
          refine ww_callVi C (As := []) (st := []) h cl_X6.1 (obM hn) (fun _ _ hF => k_X6_main0 hn hF) w_1073 cm_X6_main0 (by decide) (by decide) rfl rfl (Nat.le_of_ble_eq_true rfl) dX6_stills_20 23 rfl (fun v20 u19 h => ?_)
          refine ww_iconst C (-1 : Int32) dX6_stills_23 (by decide) 24 rfl ?_
          refine ww_icmp_ne C 31 dX6_stills_24 (by decide) h 27 rfl (fun h => ?_) (fun h => ?_)
          · refine ww_iconst C (-1 : Int32) dX6_stills_31 (by decide) 32 rfl ?_
            refine ww_istore_n C [(1, .int (-1 : Int32)), (0, .ref (ad 0)), (2, .int x2)] dX6_stills_32 rfl (by decide) rfl 33 rfl ?_
            refine ww_aload_n C 1 dX6_stills_33 rfl rfl 34 rfl ?_
            refine ww_callVv C (As := []) (st := []) h cl_X6.1 (obM hn) (fun _ _ hF => k_X6_hourOf hn hF) w_1069 cm_X6_hourOf (by decide) (by decide) rfl rfl (Nat.le_of_ble_eq_true rfl) dX6_stills_34 37 rfl (fun _ u21 h => ?_)
            refine ww_iinc C 2 (1 : Int32) (by decide) (fun v23 => [(2, .int v23), (1, .int (-1 : Int32)), (0, .ref (ad 0))]) dX6_stills_37 rfl (by decide) (fun _ => rfl) h 40 rfl (fun v23 h => ?_)
            refine ww_goto C 8 dX6_stills_40 (by decide) ?_
            exact ww_sub [2, 1, 0] rfl (ih _ _ _ h)
          · refine ww_iload_n C 2 dX6_stills_27 rfl rfl 28 rfl ?_
            refine ww_goto C 32 dX6_stills_28 (by decide) ?_
            refine ww_istore_n C [(1, .int x2), (0, .ref (ad 0)), (2, .int x2)] dX6_stills_32 rfl (by decide) rfl 33 rfl ?_
            refine ww_aload_n C 1 dX6_stills_33 rfl rfl 34 rfl ?_
            refine ww_callVv C (As := []) (st := []) h cl_X6.1 (obM hn) (fun _ _ hF => k_X6_hourOf hn hF) w_1069 cm_X6_hourOf (by decide) (by decide) rfl rfl (Nat.le_of_ble_eq_true rfl) dX6_stills_34 37 rfl (fun _ u24 h => ?_)
            refine ww_iinc C 2 (1 : Int32) (by decide) (fun v26 => [(2, .int v26), (1, .int x2), (0, .ref (ad 0))]) dX6_stills_37 rfl (by decide) (fun _ => rfl) h 40 rfl (fun v26 h => ?_)
            refine ww_goto C 8 dX6_stills_40 (by decide) ?_
            exact ww_sub [2, 1, 0] rfl (ih _ _ _ h)
  rw [X6_stills] at h
  refine ww_iconst C (-1 : Int32) dX6_stills_0 (by decide) 1 rfl ?_
  refine ww_istore_n C [(1, .int (-1 : Int32)), (0, .ref (ad 0))] dX6_stills_1 rfl (by decide) rfl 2 rfl ?_
  refine ww_aload_n C 1 dX6_stills_2 rfl rfl 3 rfl ?_
  refine ww_callVv C (As := []) (st := []) h cl_X6.1 (obM hn) (fun _ _ hF => k_X6_keeps hn hF) w_1093 cm_X6_keeps (by decide) (by decide) rfl rfl (Nat.le_of_ble_eq_true rfl) dX6_stills_3 6 rfl (fun _ u27 h => ?_)
  refine ww_iconst C (0 : Int32) dX6_stills_6 (by decide) 7 rfl ?_
  refine ww_istore_n C [(2, .int (0 : Int32)), (1, .int (-1 : Int32)), (0, .ref (ad 0))] dX6_stills_7 rfl (by decide) rfl 8 rfl ?_
  exact ww_sub [2, 1, 0] rfl (L8h N _ _ _ h)

set_option maxRecDepth 100000 in
set_option maxHeartbeats 4000000 in
theorem k_X6_rowWrong {l : Launch} {D : va_G} {ad : Nat → Nat} {cA : Nat → ClassId} {tys : List (ClassId × FieldType)} {n : Nat} {sa : Nat → Nat} (hn : 20 ≤ n) {N : Nat} {g : Mem} {a1 : Int32} {a2 : Int32} {r : Int32} {g1 : Mem} (h : X6_rowWrong N a1 a2 g = some (r, g1)) : CTi l yX6_rowWrong (wsm yX6_rowWrong cX6_rowWrong 4 (some .int)) 3 D YM ad cA tys n sa g [.ref (ad 0), .int a1, .int a2] r g1 := by
  refine ct_of RX6 rfl (by decide +kernel) (Nat.le_of_ble_eq_true rfl) rfl (fun sz => PBi D YM ad cA n r g1 sz) ?_
  intro p e R s m args below meth c C hr
  have L27h : ∀ (fu : Nat), (∀ (x3 : Int32) (g : Mem), X6_rowWrong_L27 N a1 a2 fu x3 g = some (r, g1) → WW p l e R s m args below meth c 4 D YM ad cA n (MQ below (PBi D YM ad cA n r g1 s.heap.size) args s 0 0 (AA n ad s.heap.size)) g 27 [(0, .ref (ad 0)), (1, .int a1), (2, .int a2), (3, .int x3)] []) := by
    intro fu
    induction fu with
    | zero => intro x3 g h; cases h
    | succ fu ih =>
      intro x3 g h
      rw [X6_rowWrong_L27] at h
      refine ww_iload_n C 3 dX6_rowWrong_27 rfl rfl 28 rfl ?_
      refine ww_aload_n C 0 dX6_rowWrong_28 rfl rfl 29 rfl ?_
      refine ww_getS C cl_X6 (obM hn) 17 (by decide) rfl 12 rfl w_864 dX6_rowWrong_29 32 rfl ?_
      refine ww_iload_n C 1 dX6_rowWrong_32 rfl rfl 33 rfl ?_
      refine ww_iald C (iaM hn 12 4 (by decide) (by decide) rfl) dX6_rowWrong_33 h 34 rfl (fun h => ?_)
      refine ww_icmp_ge C 63 dX6_rowWrong_34 (by decide) h 37 rfl (fun h => ?_) (fun h => ?_)
      · refine ww_aload_n C 0 dX6_rowWrong_63 rfl rfl 64 rfl ?_
        refine ww_iload_n C 2 dX6_rowWrong_64 rfl rfl 65 rfl ?_
        refine ww_callVi C (As := [.int a2]) (st := []) h cl_X6.1 (obM hn) (fun _ _ hF => k_X6_isOne hn hF) w_995 cm_X6_isOne (by decide) (by decide) rfl rfl (Nat.le_of_ble_eq_true rfl) dX6_rowWrong_65 68 rfl (fun v9 u8 h => ?_)
        refine ww_if_eq C 75 dX6_rowWrong_68 (by decide) h 71 rfl (fun h => ?_) (fun h => ?_)
        · refine ww_bipush C (-5 : Int32) dX6_rowWrong_75 (by decide) 77 rfl ?_
          exact ww_iret C dX6_rowWrong_77 hr h
        · refine ww_iconst C (0 : Int32) dX6_rowWrong_71 (by decide) 72 rfl ?_
          refine ww_goto C 77 dX6_rowWrong_72 (by decide) ?_
          exact ww_iret C dX6_rowWrong_77 hr h
      · refine ww_aload_n C 0 dX6_rowWrong_37 rfl rfl 38 rfl ?_
        refine ww_getS C cl_X6 (obM hn) 18 (by decide) rfl 13 rfl w_865 dX6_rowWrong_38 41 rfl ?_
        refine ww_bipush C (40 : Int32) dX6_rowWrong_41 (by decide) 43 rfl ?_
        refine ww_iload_n C 1 dX6_rowWrong_43 rfl rfl 44 rfl ?_
        refine ww_imul C dX6_rowWrong_44 45 rfl ?_
        refine ww_iload_n C 3 dX6_rowWrong_45 rfl rfl 46 rfl ?_
        refine ww_iadd C dX6_rowWrong_46 47 rfl ?_
        refine ww_iald C (iaM hn 13 160 (by decide) (by decide) rfl) dX6_rowWrong_47 h 48 rfl (fun h => ?_)
        refine ww_callSi C (As := [.int (g.1 13 (((40 : Int32) * a1) + x3).toNatClampNeg)]) (st := []) h (fun _ _ hF => k_X6_isCask hn hF) w_965 cm_X6_isCask (by decide) (by decide) rfl rfl (Nat.le_of_ble_eq_true rfl) dX6_rowWrong_48 51 rfl (fun v11 u10 h => ?_)
        refine ww_if_ne C 57 dX6_rowWrong_51 (by decide) h 54 rfl (fun h => ?_) (fun h => ?_)
        · refine ww_iinc C 3 (1 : Int32) (by decide) (fun v12 => [(3, .int v12), (0, .ref (ad 0)), (1, .int a1), (2, .int a2)]) dX6_rowWrong_57 rfl (by decide) (fun _ => rfl) h 60 rfl (fun v12 h => ?_)
          refine ww_goto C 27 dX6_rowWrong_60 (by decide) ?_
          exact ww_sub [1, 2, 3, 0] rfl (ih _ _ h)
        · refine ww_bipush C (-2 : Int32) dX6_rowWrong_54 (by decide) 56 rfl ?_
          exact ww_iret C dX6_rowWrong_56 hr h
  rw [X6_rowWrong] at h
  refine ww_iload_n C 1 dX6_rowWrong_0 rfl rfl 1 rfl ?_
  refine ww_iconst C (0 : Int32) dX6_rowWrong_1 (by decide) 2 rfl ?_
  refine ww_iconst C (3 : Int32) dX6_rowWrong_2 (by decide) 3 rfl ?_
  refine ww_callSi C (As := [.int a1, .int (0 : Int32), .int (3 : Int32)]) (st := []) h (fun _ _ hF => k_X6_in hn hF) w_808 cm_X6_in (by decide) (by decide) rfl rfl (Nat.le_of_ble_eq_true rfl) dX6_rowWrong_3 6 rfl (fun v14 u13 h => ?_)
  refine ww_if_ne C 12 dX6_rowWrong_6 (by decide) h 9 rfl (fun h => ?_) (fun h => ?_)
  · refine ww_aload_n C 0 dX6_rowWrong_12 rfl rfl 13 rfl ?_
    refine ww_getS C cl_X6 (obM hn) 16 (by decide) rfl 11 rfl w_863 dX6_rowWrong_13 16 rfl ?_
    refine ww_iload_n C 1 dX6_rowWrong_16 rfl rfl 17 rfl ?_
    refine ww_iald C (iaM hn 11 4 (by decide) (by decide) rfl) dX6_rowWrong_17 h 18 rfl (fun h => ?_)
    refine ww_iconst C (-1 : Int32) dX6_rowWrong_18 (by decide) 19 rfl ?_
    refine ww_icmp_ne C 25 dX6_rowWrong_19 (by decide) h 22 rfl (fun h => ?_) (fun h => ?_)
    · refine ww_iconst C (0 : Int32) dX6_rowWrong_25 (by decide) 26 rfl ?_
      refine ww_istore_n C [(3, .int (0 : Int32)), (0, .ref (ad 0)), (1, .int a1), (2, .int a2)] dX6_rowWrong_26 rfl (by decide) rfl 27 rfl ?_
      exact ww_sub [1, 2, 3, 0] rfl (L27h N _ _ h)
    · refine ww_bipush C (-11 : Int32) dX6_rowWrong_22 (by decide) 24 rfl ?_
      exact ww_iret C dX6_rowWrong_24 hr h
  · refine ww_bipush C (-2 : Int32) dX6_rowWrong_9 (by decide) 11 rfl ?_
    exact ww_iret C dX6_rowWrong_11 hr h

set_option maxRecDepth 100000 in
set_option maxHeartbeats 4000000 in
theorem k_X6_rowOf {l : Launch} {D : va_G} {ad : Nat → Nat} {cA : Nat → ClassId} {tys : List (ClassId × FieldType)} {n : Nat} {sa : Nat → Nat} (hn : 20 ≤ n) {N : Nat} {g : Mem} {a1 : Int32} {a2 : Int32} {r : Int32} {g1 : Mem} (h : X6_rowOf N a1 a2 g = some (r, g1)) : CTi l yX6_rowOf (wsm yX6_rowOf cX6_rowOf 6 (some .int)) 6 D YM ad cA tys n sa g [.ref (ad 0), .int a1, .int a2] r g1 := by
  refine ct_of RX6 rfl (by decide +kernel) (Nat.le_of_ble_eq_true rfl) rfl (fun sz => PBi D YM ad cA n r g1 sz) ?_
  intro p e R s m args below meth c C hr
  have L10h : ∀ (fu : Nat), (∀ (x3 : Int32) (x4 : Int32) (g : Mem), X6_rowOf_L10 N a1 a2 fu x3 x4 g = some (r, g1) → WW p l e R s m args below meth c 6 D YM ad cA n (MQ below (PBi D YM ad cA n r g1 s.heap.size) args s 0 0 (AA n ad s.heap.size)) g 10 [(0, .ref (ad 0)), (1, .int a1), (2, .int a2), (3, .int x3), (4, .int x4)] []) := by
    intro fu
    induction fu with
    | zero => intro x3 x4 g h; cases h
    | succ fu ih =>
      intro x3 x4 g h
      rw [X6_rowOf_L10] at h
      refine ww_iload C 4 dX6_rowOf_10 rfl 12 rfl ?_
      refine ww_aload_n C 0 dX6_rowOf_12 rfl rfl 13 rfl ?_
      refine ww_getS C cl_X6 (obM hn) 17 (by decide) rfl 12 rfl w_864 dX6_rowOf_13 16 rfl ?_
      refine ww_iload_n C 1 dX6_rowOf_16 rfl rfl 17 rfl ?_
      refine ww_iald C (iaM hn 12 4 (by decide) (by decide) rfl) dX6_rowOf_17 h 18 rfl (fun h => ?_)
      refine ww_icmp_ge C 84 dX6_rowOf_18 (by decide) h 21 rfl (fun h => ?_) (fun h => ?_)
      · refine ww_iload_n C 3 dX6_rowOf_84 rfl rfl 85 rfl ?_
        exact ww_iret C dX6_rowOf_85 hr h
      · refine ww_aload_n C 0 dX6_rowOf_21 rfl rfl 22 rfl ?_
        refine ww_getS C cl_X6 (obM hn) 18 (by decide) rfl 13 rfl w_865 dX6_rowOf_22 25 rfl ?_
        refine ww_bipush C (40 : Int32) dX6_rowOf_25 (by decide) 27 rfl ?_
        refine ww_iload_n C 1 dX6_rowOf_27 rfl rfl 28 rfl ?_
        refine ww_imul C dX6_rowOf_28 29 rfl ?_
        refine ww_iload C 4 dX6_rowOf_29 rfl 31 rfl ?_
        refine ww_iadd C dX6_rowOf_31 32 rfl ?_
        refine ww_iald C (iaM hn 13 160 (by decide) (by decide) rfl) dX6_rowOf_32 h 33 rfl (fun h => ?_)
        refine ww_iconst C (0 : Int32) dX6_rowOf_33 (by decide) 34 rfl ?_
        refine ww_bipush C (11 : Int32) dX6_rowOf_34 (by decide) 36 rfl ?_
        refine ww_callSi C (As := [.int (g.1 13 (((40 : Int32) * a1) + x4).toNatClampNeg), .int (0 : Int32), .int (11 : Int32)]) (st := []) h (fun _ _ hF => k_X6_within hn hF) w_1010 cm_X6_within (by decide) (by decide) rfl rfl (Nat.le_of_ble_eq_true rfl) dX6_rowOf_36 39 rfl (fun v15 u14 h => ?_)
        refine ww_istore C [(5, .int v15), (0, .ref (ad 0)), (1, .int a1), (2, .int a2), (3, .int x3), (4, .int x4)] dX6_rowOf_39 (by decide) rfl 41 rfl ?_
        refine ww_aload_n C 1 dX6_rowOf_41 rfl rfl 42 rfl ?_
        refine ww_iload_n C 3 dX6_rowOf_42 rfl rfl 43 rfl ?_
        refine ww_iload C 0 dX6_rowOf_43 rfl 45 rfl ?_
        refine ww_callVi C (As := [.int a2, .int v15]) (st := []) h cl_X6.1 (obM hn) (fun _ _ hF => k_X6_can hn hF) w_1029 cm_X6_can (by decide) (by decide) rfl rfl (Nat.le_of_ble_eq_true rfl) dX6_rowOf_45 48 rfl (fun v17 u16 h => ?_)
        refine ww_if_eq C 64 dX6_rowOf_48 (by decide) h 51 rfl (fun h => ?_) (fun h => ?_)
        · refine ww_aload_n C 1 dX6_rowOf_64 rfl rfl 65 rfl ?_
          refine ww_callVv C (As := []) (st := []) h cl_X6.1 (obM hn) (fun _ _ hF => k_X6_hourOf hn hF) w_1069 cm_X6_hourOf (by decide) (by decide) rfl rfl (Nat.le_of_ble_eq_true rfl) dX6_rowOf_65 68 rfl (fun _ u18 h => ?_)
          refine ww_aload_n C 1 dX6_rowOf_68 rfl rfl 69 rfl ?_
          refine ww_dup C dX6_rowOf_69 rfl 70 rfl ?_
          refine ww_getI C cl_X6 (obM hn) 32 (by decide) rfl w_879 dX6_rowOf_70 73 rfl ?_
          refine ww_iconst C (1 : Int32) dX6_rowOf_73 (by decide) 74 rfl ?_
          refine ww_iadd C dX6_rowOf_74 75 rfl ?_
          refine ww_putI C cl_X6 (obM hn) 32 (by decide) rfl tyX6 tyX6_ok nmX6 rfl rfl rfl w_879 dX6_rowOf_75 h 78 rfl (fun u20 h => ?_)
          refine ww_iinc C 5 (1 : Int32) (by decide) (fun v21 => [(4, .int v21), (5, .int v15), (0, .ref (ad 0)), (1, .int a1), (2, .int a2), (3, .int x3)]) dX6_rowOf_78 rfl (by decide) (fun _ => rfl) h 81 rfl (fun v21 h => ?_)
          refine ww_goto C 10 dX6_rowOf_81 (by decide) ?_
          exact ww_sub [2, 3, 4, 5, 0] rfl (ih _ _ _ h)
        · refine ww_aload_n C 1 dX6_rowOf_51 rfl rfl 52 rfl ?_
          refine ww_iload_n C 3 dX6_rowOf_52 rfl rfl 53 rfl ?_
          refine ww_iload C 0 dX6_rowOf_53 rfl 55 rfl ?_
          refine ww_callVv C (As := [.int a2, .int v15]) (st := []) h cl_X6.1 (obM hn) (fun _ _ hF => k_X6_diveOf hn hF) w_1053 cm_X6_diveOf (by decide) (by decide) rfl rfl (Nat.le_of_ble_eq_true rfl) dX6_rowOf_55 58 rfl (fun _ u22 h => ?_)
          refine ww_iinc C 4 (1 : Int32) (by decide) (fun v24 => [(3, .int v24), (5, .int v15), (0, .ref (ad 0)), (1, .int a1), (2, .int a2), (4, .int x4)]) dX6_rowOf_58 rfl (by decide) (fun _ => rfl) h 61 rfl (fun v24 h => ?_)
          refine ww_goto C 78 dX6_rowOf_61 (by decide) ?_
          refine ww_iinc C 5 (1 : Int32) (by decide) (fun v25 => [(4, .int v25), (3, .int v24), (5, .int v15), (0, .ref (ad 0)), (1, .int a1), (2, .int a2)]) dX6_rowOf_78 rfl (by decide) (fun _ => rfl) h 81 rfl (fun v25 h => ?_)
          refine ww_goto C 10 dX6_rowOf_81 (by decide) ?_
          exact ww_sub [3, 4, 5, 1, 0] rfl (ih _ _ _ h)
  rw [X6_rowOf] at h
  refine ww_iconst C (0 : Int32) dX6_rowOf_0 (by decide) 1 rfl ?_
  refine ww_istore_n C [(3, .int (0 : Int32)), (0, .ref (ad 0)), (1, .int a1), (2, .int a2)] dX6_rowOf_1 rfl (by decide) rfl 2 rfl ?_
  refine ww_aload_n C 1 dX6_rowOf_2 rfl rfl 3 rfl ?_
  refine ww_iconst C (0 : Int32) dX6_rowOf_3 (by decide) 4 rfl ?_
  refine ww_putI C cl_X6 (obM hn) 32 (by decide) rfl tyX6 tyX6_ok nmX6 rfl rfl rfl w_879 dX6_rowOf_4 h 7 rfl (fun u26 h => ?_)
  refine ww_iconst C (0 : Int32) dX6_rowOf_7 (by decide) 8 rfl ?_
  refine ww_istore C [(4, .int (0 : Int32)), (3, .int (0 : Int32)), (0, .ref (ad 0)), (1, .int a1), (2, .int a2)] dX6_rowOf_8 (by decide) rfl 10 rfl ?_
  exact ww_sub [2, 3, 4, 1, 0] rfl (L10h N _ _ _ h)

set_option maxRecDepth 100000 in
set_option maxHeartbeats 4000000 in
theorem k_X6_row {l : Launch} {D : va_G} {ad : Nat → Nat} {cA : Nat → ClassId} {tys : List (ClassId × FieldType)} {n : Nat} {sa : Nat → Nat} (hn : 20 ≤ n) {N : Nat} {g : Mem} {a1 : Int32} {a2 : Int32} {a3 : Int32} {r : Int32} {g1 : Mem} (h : X6_row N a1 a2 a3 g = some (r, g1)) : CTi l yX6_row (wsm yX6_row cX6_row 7 (some .int)) 7 D YM ad cA tys n sa g [.ref (ad 0), .int a1, .int a2, .int a3] r g1 := by
  refine ct_of RX6 rfl (by decide +kernel) (Nat.le_of_ble_eq_true rfl) rfl (fun sz => PBi D YM ad cA n r g1 sz) ?_
  intro p e R s m args below meth c C hr
  rw [X6_row] at h
  refine ww_aload_n C 0 dX6_row_0 rfl rfl 1 rfl ?_
  refine ww_iload_n C 1 dX6_row_1 rfl rfl 2 rfl ?_
  refine ww_iload_n C 2 dX6_row_2 rfl rfl 3 rfl ?_
  refine ww_callVi C (As := [.int a1, .int a2]) (st := []) h cl_X6.1 (obM hn) (fun _ _ hF => k_X6_rowWrong hn hF) w_1113 cm_X6_rowWrong (by decide) (by decide) rfl rfl (Nat.le_of_ble_eq_true rfl) dX6_row_3 6 rfl (fun v22 u21 h => ?_)
  refine ww_istore C [(4, .int v22), (0, .ref (ad 0)), (1, .int a1), (2, .int a2), (3, .int a3)] dX6_row_6 (by decide) rfl 8 rfl ?_
  refine ww_iload C 0 dX6_row_8 rfl 10 rfl ?_
  refine ww_if_eq C 16 dX6_row_10 (by decide) h 13 rfl (fun h => ?_) (fun h => ?_)
  · refine ww_iload_n C 4 dX6_row_16 rfl rfl 17 rfl ?_
    refine ww_iconst C (0 : Int32) dX6_row_17 (by decide) 18 rfl ?_
    refine ww_iconst C (3 : Int32) dX6_row_18 (by decide) 19 rfl ?_
    refine ww_callSi C (As := [.int a3, .int (0 : Int32), .int (3 : Int32)]) (st := []) h (fun _ _ hF => k_X6_in hn hF) w_808 cm_X6_in (by decide) (by decide) rfl rfl (Nat.le_of_ble_eq_true rfl) dX6_row_19 22 rfl (fun v24 u23 h => ?_)
    refine ww_if_ne C 28 dX6_row_22 (by decide) h 25 rfl (fun h => ?_) (fun h => ?_)
    · refine ww_aload_n C 1 dX6_row_28 rfl rfl 29 rfl ?_
      refine ww_callVv C (As := []) (st := []) h cl_X6.1 (obM hn) (fun _ _ hF => k_X6_keeps hn hF) w_1093 cm_X6_keeps (by decide) (by decide) rfl rfl (Nat.le_of_ble_eq_true rfl) dX6_row_29 32 rfl (fun _ u25 h => ?_)
      refine ww_aload_n C 1 dX6_row_32 rfl rfl 33 rfl ?_
      refine ww_iload_n C 2 dX6_row_33 rfl rfl 34 rfl ?_
      refine ww_iload_n C 3 dX6_row_34 rfl rfl 35 rfl ?_
      refine ww_callVi C (As := [.int a1, .int a2]) (st := []) h cl_X6.1 (obM hn) (fun _ _ hF => k_X6_rowOf hn hF) w_1117 cm_X6_rowOf (by decide) (by decide) rfl rfl (Nat.le_of_ble_eq_true rfl) dX6_row_35 38 rfl (fun v28 u27 h => ?_)
      refine ww_istore C [(5, .int v28), (4, .int v22), (0, .ref (ad 0)), (1, .int a1), (2, .int a2), (3, .int a3)] dX6_row_38 (by decide) rfl 40 rfl ?_
      refine ww_iload_n C 5 dX6_row_40 rfl rfl 41 rfl ?_
      refine ww_if_ne C 52 dX6_row_41 (by decide) h 44 rfl (fun h => ?_) (fun h => ?_)
      · refine ww_iload_n C 5 dX6_row_52 rfl rfl 53 rfl ?_
        refine ww_iconst C (1 : Int32) dX6_row_53 (by decide) 54 rfl ?_
        refine ww_icmp_ne C 62 dX6_row_54 (by decide) h 57 rfl (fun h => ?_) (fun h => ?_)
        · refine ww_iload_n C 5 dX6_row_62 rfl rfl 63 rfl ?_
          refine ww_iconst C (2 : Int32) dX6_row_63 (by decide) 64 rfl ?_
          refine ww_icmp_ne C 78 dX6_row_64 (by decide) h 67 rfl (fun h => ?_) (fun h => ?_)
          · refine ww_aload_n C 2 dX6_row_78 rfl rfl 79 rfl ?_
            refine ww_getI C cl_X6 (obM hn) 32 (by decide) rfl w_879 dX6_row_79 82 rfl ?_
            refine ww_bi h (fun v29 h => ?_)
            refine ww_istore C [(6, .int v29), (5, .int v28), (4, .int v22), (0, .ref (ad 0)), (1, .int a1), (2, .int a2), (3, .int a3)] dX6_row_82 (by decide) rfl 84 rfl ?_
            refine ww_aload_n C 3 dX6_row_84 rfl rfl 85 rfl ?_
            refine ww_callVv C (As := []) (st := []) h cl_X6.1 (obM hn) (fun _ _ hF => k_X6_lays hn hF) w_1101 cm_X6_lays (by decide) (by decide) rfl rfl (Nat.le_of_ble_eq_true rfl) dX6_row_85 88 rfl (fun _ u30 h => ?_)
            refine ww_iload C 0 dX6_row_88 rfl 90 rfl ?_
            exact ww_iret C dX6_row_90 hr h
          · refine ww_aload_n C 2 dX6_row_67 rfl rfl 68 rfl ?_
            refine ww_getS C cl_X6 (obM hn) 3 (by decide) rfl 3 rfl w_850 dX6_row_68 71 rfl ?_
            refine ww_iconst C (2 : Int32) dX6_row_71 (by decide) 72 rfl ?_
            refine ww_iload_n C 4 dX6_row_72 rfl rfl 73 rfl ?_
            refine ww_imul C dX6_row_73 74 rfl ?_
            refine ww_iald C (iaM hn 3 12 (by decide) (by decide) rfl) dX6_row_74 h 75 rfl (fun h => ?_)
            refine ww_goto C 82 dX6_row_75 (by decide) ?_
            refine ww_bi h (fun v32 h => ?_)
            refine ww_istore C [(6, .int v32), (5, .int v28), (4, .int v22), (0, .ref (ad 0)), (1, .int a1), (2, .int a2), (3, .int a3)] dX6_row_82 (by decide) rfl 84 rfl ?_
            refine ww_aload_n C 3 dX6_row_84 rfl rfl 85 rfl ?_
            refine ww_callVv C (As := []) (st := []) h cl_X6.1 (obM hn) (fun _ _ hF => k_X6_lays hn hF) w_1101 cm_X6_lays (by decide) (by decide) rfl rfl (Nat.le_of_ble_eq_true rfl) dX6_row_85 88 rfl (fun _ u33 h => ?_)
            refine ww_iload C 0 dX6_row_88 rfl 90 rfl ?_
            exact ww_iret C dX6_row_90 hr h
        · refine ww_iload C 0 dX6_row_57 rfl 59 rfl ?_
          refine ww_goto C 82 dX6_row_59 (by decide) ?_
          refine ww_istore C [(6, .int v28), (5, .int v28), (4, .int v22), (0, .ref (ad 0)), (1, .int a1), (2, .int a2), (3, .int a3)] dX6_row_82 (by decide) rfl 84 rfl ?_
          refine ww_aload_n C 3 dX6_row_84 rfl rfl 85 rfl ?_
          refine ww_callVv C (As := []) (st := []) h cl_X6.1 (obM hn) (fun _ _ hF => k_X6_lays hn hF) w_1101 cm_X6_lays (by decide) (by decide) rfl rfl (Nat.le_of_ble_eq_true rfl) dX6_row_85 88 rfl (fun _ u35 h => ?_)
          refine ww_iload C 0 dX6_row_88 rfl 90 rfl ?_
          exact ww_iret C dX6_row_90 hr h
      · refine ww_aload_n C 2 dX6_row_44 rfl rfl 45 rfl ?_
        refine ww_iconst C (1 : Int32) dX6_row_45 (by decide) 46 rfl ?_
        refine ww_callVi C (As := [.int (1 : Int32)]) (st := []) h cl_X6.1 (obM hn) (fun _ _ hF => k_X6_placed hn hF) w_954 cm_X6_placed (by decide) (by decide) rfl rfl (Nat.le_of_ble_eq_true rfl) dX6_row_46 49 rfl (fun v38 u37 h => ?_)
        refine ww_goto C 82 dX6_row_49 (by decide) ?_
        refine ww_istore C [(6, .int v38), (5, .int v28), (4, .int v22), (0, .ref (ad 0)), (1, .int a1), (2, .int a2), (3, .int a3)] dX6_row_82 (by decide) rfl 84 rfl ?_
        refine ww_aload_n C 3 dX6_row_84 rfl rfl 85 rfl ?_
        refine ww_callVv C (As := []) (st := []) h cl_X6.1 (obM hn) (fun _ _ hF => k_X6_lays hn hF) w_1101 cm_X6_lays (by decide) (by decide) rfl rfl (Nat.le_of_ble_eq_true rfl) dX6_row_85 88 rfl (fun _ u39 h => ?_)
        refine ww_iload C 0 dX6_row_88 rfl 90 rfl ?_
        exact ww_iret C dX6_row_90 hr h
    · refine ww_bipush C (-7 : Int32) dX6_row_25 (by decide) 27 rfl ?_
      exact ww_iret C dX6_row_27 hr h
  · refine ww_iload C 0 dX6_row_13 rfl 15 rfl ?_
    exact ww_iret C dX6_row_15 hr h

set_option maxRecDepth 100000 in
set_option maxHeartbeats 4000000 in
theorem k_X6_salvage {l : Launch} {D : va_G} {ad : Nat → Nat} {cA : Nat → ClassId} {tys : List (ClassId × FieldType)} {n : Nat} {sa : Nat → Nat} (hn : 20 ≤ n) {N : Nat} {g : Mem} {a1 : Int32} {a2 : Int32} {r : Int32} {g1 : Mem} (h : X6_salvage N a1 a2 g = some (r, g1)) : CTi l yX6_salvage (wsm yX6_salvage cX6_salvage 4 (some .int)) 7 D YM ad cA tys n sa g [.ref (ad 0), .int a1, .int a2] r g1 := by
  refine ct_of RX6 rfl (by decide +kernel) (Nat.le_of_ble_eq_true rfl) rfl (fun sz => PBi D YM ad cA n r g1 sz) ?_
  intro p e R s m args below meth c C hr
  rw [X6_salvage] at h
  refine ww_aload_n C 0 dX6_salvage_0 rfl rfl 1 rfl ?_
  refine ww_iload_n C 1 dX6_salvage_1 rfl rfl 2 rfl ?_
  refine ww_iload_n C 2 dX6_salvage_2 rfl rfl 3 rfl ?_
  refine ww_callVi C (As := [.int a1, .int a2]) (st := []) h cl_X6.1 (obM hn) (fun _ _ hF => k_X6_rowWrong hn hF) w_1113 cm_X6_rowWrong (by decide) (by decide) rfl rfl (Nat.le_of_ble_eq_true rfl) dX6_salvage_3 6 rfl (fun v6 u5 h => ?_)
  refine ww_istore_n C [(3, .int v6), (0, .ref (ad 0)), (1, .int a1), (2, .int a2)] dX6_salvage_6 rfl (by decide) rfl 7 rfl ?_
  refine ww_iload_n C 0 dX6_salvage_7 rfl rfl 8 rfl ?_
  refine ww_if_eq C 13 dX6_salvage_8 (by decide) h 11 rfl (fun h => ?_) (fun h => ?_)
  · refine ww_aload_n C 1 dX6_salvage_13 rfl rfl 14 rfl ?_
    refine ww_getI C cl_X6 (obM hn) 6 (by decide) rfl w_853 dX6_salvage_14 17 rfl ?_
    refine ww_aload_n C 1 dX6_salvage_17 rfl rfl 18 rfl ?_
    refine ww_getS C cl_X6 (obM hn) 17 (by decide) rfl 12 rfl w_864 dX6_salvage_18 21 rfl ?_
    refine ww_iload_n C 2 dX6_salvage_21 rfl rfl 22 rfl ?_
    refine ww_iald C (iaM hn 12 4 (by decide) (by decide) rfl) dX6_salvage_22 h 23 rfl (fun h => ?_)
    refine ww_iadd C dX6_salvage_23 24 rfl ?_
    refine ww_sipush C (999 : Int32) dX6_salvage_24 (by decide) 27 rfl ?_
    refine ww_icmp_le C 35 dX6_salvage_27 (by decide) h 30 rfl (fun h => ?_) (fun h => ?_)
    · refine ww_aload_n C 1 dX6_salvage_35 rfl rfl 36 rfl ?_
      refine ww_iload_n C 2 dX6_salvage_36 rfl rfl 37 rfl ?_
      refine ww_iload_n C 3 dX6_salvage_37 rfl rfl 38 rfl ?_
      refine ww_callVi C (As := [.int a1, .int a2]) (st := []) h cl_X6.1 (obM hn) (fun _ _ hF => k_X6_rowOf hn hF) w_1117 cm_X6_rowOf (by decide) (by decide) rfl rfl (Nat.le_of_ble_eq_true rfl) dX6_salvage_38 41 rfl (fun v8 u7 h => ?_)
      exact ww_iret C dX6_salvage_41 hr h
    · refine ww_bipush C (-3 : Int32) dX6_salvage_30 (by decide) 32 rfl ?_
      refine ww_goto C 41 dX6_salvage_32 (by decide) ?_
      exact ww_iret C dX6_salvage_41 hr h
  · refine ww_iload_n C 0 dX6_salvage_11 rfl rfl 12 rfl ?_
    exact ww_iret C dX6_salvage_12 hr h

set_option maxRecDepth 100000 in
set_option maxHeartbeats 4000000 in
theorem k_X6_fairBehind {l : Launch} {D : va_G} {ad : Nat → Nat} {cA : Nat → ClassId} {tys : List (ClassId × FieldType)} {n : Nat} {sa : Nat → Nat} (hn : 20 ≤ n) {N : Nat} {g : Mem} {a1 : Int32} {r : Int32} {g1 : Mem} (h : X6_fairBehind N a1 g = some (r, g1)) : CTi l yX6_fairBehind (wsm yX6_fairBehind cX6_fairBehind 3 (some .int)) 6 D YM ad cA tys n sa g [.ref (ad 0), .int a1] r g1 := by
  refine ct_of RX6 rfl (by decide +kernel) (Nat.le_of_ble_eq_true rfl) rfl (fun sz => PBi D YM ad cA n r g1 sz) ?_
  intro p e R s m args below meth c C hr
  rw [X6_fairBehind] at h
  refine ww_aload_n C 0 dX6_fairBehind_0 rfl rfl 1 rfl ?_
  refine ww_iload_n C 1 dX6_fairBehind_1 rfl rfl 2 rfl ?_
  refine ww_callVv C (As := [.int a1]) (st := []) h cl_X6.1 (obM hn) (fun _ _ hF => k_X6_goes hn hF) w_1097 cm_X6_goes (by decide) (by decide) rfl rfl (Nat.le_of_ble_eq_true rfl) dX6_fairBehind_2 5 rfl (fun _ u7 h => ?_)
  refine ww_aload_n C 0 dX6_fairBehind_5 rfl rfl 6 rfl ?_
  refine ww_callVi C (As := []) (st := []) h cl_X6.1 (obM hn) (fun _ _ hF => k_X6_fair hn hF) w_1085 cm_X6_fair (by decide) (by decide) rfl rfl (Nat.le_of_ble_eq_true rfl) dX6_fairBehind_6 9 rfl (fun v10 u9 h => ?_)
  refine ww_istore_n C [(2, .int v10), (0, .ref (ad 0)), (1, .int a1)] dX6_fairBehind_9 rfl (by decide) rfl 10 rfl ?_
  refine ww_aload_n C 1 dX6_fairBehind_10 rfl rfl 11 rfl ?_
  refine ww_callVv C (As := []) (st := []) h cl_X6.1 (obM hn) (fun _ _ hF => k_X6_lays hn hF) w_1101 cm_X6_lays (by decide) (by decide) rfl rfl (Nat.le_of_ble_eq_true rfl) dX6_fairBehind_11 14 rfl (fun _ u11 h => ?_)
  refine ww_iload_n C 0 dX6_fairBehind_14 rfl rfl 15 rfl ?_
  exact ww_iret C dX6_fairBehind_15 hr h

set_option maxRecDepth 100000 in
set_option maxHeartbeats 4000000 in
theorem k_X6_which {l : Launch} {D : va_G} {ad : Nat → Nat} {cA : Nat → ClassId} {tys : List (ClassId × FieldType)} {n : Nat} {sa : Nat → Nat} (hn : 20 ≤ n) {N : Nat} {g : Mem} {a1 : Int32} {a2 : Int32} {r : Int32} {g1 : Mem} (h : X6_which N a1 a2 g = some (r, g1)) : CTi l yX6_which (wsm yX6_which cX6_which 7 (some .int)) 7 D YM ad cA tys n sa g [.ref (ad 0), .int a1, .int a2] r g1 := by
  refine ct_of RX6 rfl (by decide +kernel) (Nat.le_of_ble_eq_true rfl) rfl (fun sz => PBi D YM ad cA n r g1 sz) ?_
  intro p e R s m args below meth c C hr
  have L39h : ∀ (fu : Nat), (∀ (x3 : Int32) (x4 : Int32) (x5 : Int32) (g : Mem), X6_which_L39 N a1 a2 fu x3 x4 x5 g = some (r, g1) → WW p l e R s m args below meth c 7 D YM ad cA n (MQ below (PBi D YM ad cA n r g1 s.heap.size) args s 0 0 (AA n ad s.heap.size)) g 39 [(0, .ref (ad 0)), (1, .int a1), (2, .int a2), (3, .int x3), (4, .int x4), (5, .int x5)] []) := by
    intro fu
    induction fu with
    | zero => intro x3 x4 x5 g h; cases h
    | succ fu ih =>
      intro x3 x4 x5 g h
      rw [X6_which_L39] at h
      refine ww_iload C 5 dX6_which_39 rfl 41 rfl ?_
      refine ww_bipush C (12 : Int32) dX6_which_41 (by decide) 43 rfl ?_
      refine ww_icmp_ge C 114 dX6_which_43 (by decide) h 46 rfl (fun h => ?_) (fun h => ?_)
      · refine ww_iload_n C 2 dX6_which_114 rfl rfl 115 rfl ?_
        refine ww_if_ne C 122 dX6_which_115 (by decide) h 118 rfl (fun h => ?_) (fun h => ?_)
        · refine ww_iload C 4 dX6_which_122 rfl 124 rfl ?_
          exact ww_iret C dX6_which_124 hr h
        · refine ww_iload_n C 3 dX6_which_118 rfl rfl 119 rfl ?_
          refine ww_goto C 124 dX6_which_119 (by decide) ?_
          exact ww_iret C dX6_which_124 hr h
      · refine ww_aload_n C 0 dX6_which_46 rfl rfl 47 rfl ?_
        refine ww_getS C cl_X6 (obM hn) 4 (by decide) rfl 4 rfl w_851 dX6_which_47 50 rfl ?_
        refine ww_iconst C (4 : Int32) dX6_which_50 (by decide) 51 rfl ?_
        refine ww_iload C 5 dX6_which_51 rfl 53 rfl ?_
        refine ww_imul C dX6_which_53 54 rfl ?_
        refine ww_iconst C (3 : Int32) dX6_which_54 (by decide) 55 rfl ?_
        refine ww_iadd C dX6_which_55 56 rfl ?_
        refine ww_iald C (iaM hn 4 48 (by decide) (by decide) rfl) dX6_which_56 h 57 rfl (fun h => ?_)
        refine ww_iconst C (1 : Int32) dX6_which_57 (by decide) 58 rfl ?_
        refine ww_icmp_ne C 108 dX6_which_58 (by decide) h 61 rfl (fun h => ?_) (fun h => ?_)
        · refine ww_iinc C 5 (1 : Int32) (by decide) (fun v20 => [(5, .int v20), (0, .ref (ad 0)), (1, .int a1), (2, .int a2), (3, .int x3), (4, .int x4)]) dX6_which_108 rfl (by decide) (fun _ => rfl) h 111 rfl (fun v20 h => ?_)
          refine ww_goto C 39 dX6_which_111 (by decide) ?_
          exact ww_sub [1, 2, 3, 4, 5, 0] rfl (ih _ _ _ _ h)
        · refine ww_aload_n C 0 dX6_which_61 rfl rfl 62 rfl ?_
          refine ww_callVv C (As := []) (st := []) h cl_X6.1 (obM hn) (fun _ _ hF => k_X6_keeps hn hF) w_1093 cm_X6_keeps (by decide) (by decide) rfl rfl (Nat.le_of_ble_eq_true rfl) dX6_which_62 65 rfl (fun _ u21 h => ?_)
          refine ww_aload_n C 0 dX6_which_65 rfl rfl 66 rfl ?_
          refine ww_iload C 5 dX6_which_66 rfl 68 rfl ?_
          refine ww_callVv C (As := [.int x5]) (st := []) h cl_X6.1 (obM hn) (fun _ _ hF => k_X6_opens0 hn hF) w_1061 cm_X6_opens0 (by decide) (by decide) rfl rfl (Nat.le_of_ble_eq_true rfl) dX6_which_68 71 rfl (fun _ u23 h => ?_)
          refine ww_aload_n C 0 dX6_which_71 rfl rfl 72 rfl ?_
          refine ww_iload_n C 1 dX6_which_72 rfl rfl 73 rfl ?_
          refine ww_callVi C (As := [.int a1]) (st := []) h cl_X6.1 (obM hn) (fun _ _ hF => k_X6_fairBehind hn hF) w_1129 cm_X6_fairBehind (by decide) (by decide) rfl rfl (Nat.le_of_ble_eq_true rfl) dX6_which_73 76 rfl (fun v26 u25 h => ?_)
          refine ww_istore C [(6, .int v26), (0, .ref (ad 0)), (1, .int a1), (2, .int a2), (3, .int x3), (4, .int x4), (5, .int x5)] dX6_which_76 (by decide) rfl 78 rfl ?_
          refine ww_iload C 0 dX6_which_78 rfl 80 rfl ?_
          refine ww_iload C 5 dX6_which_80 rfl 82 rfl ?_
          refine ww_icmp_le C 90 dX6_which_82 (by decide) h 85 rfl (fun h => ?_) (fun h => ?_)
          · refine ww_iload_n C 4 dX6_which_90 rfl rfl 91 rfl ?_
            refine ww_istore_n C [(3, .int x3), (6, .int v26), (0, .ref (ad 0)), (1, .int a1), (2, .int a2), (4, .int x4), (5, .int x5)] dX6_which_91 rfl (by decide) rfl 92 rfl ?_
            refine ww_iload C 1 dX6_which_92 rfl 94 rfl ?_
            refine ww_iload C 5 dX6_which_94 rfl 96 rfl ?_
            refine ww_icmp_le C 104 dX6_which_96 (by decide) h 99 rfl (fun h => ?_) (fun h => ?_)
            · refine ww_iload C 5 dX6_which_104 rfl 106 rfl ?_
              refine ww_istore C [(4, .int x4), (3, .int x3), (6, .int v26), (0, .ref (ad 0)), (1, .int a1), (2, .int a2), (5, .int x5)] dX6_which_106 (by decide) rfl 108 rfl ?_
              refine ww_iinc C 6 (1 : Int32) (by decide) (fun v27 => [(5, .int v27), (4, .int x4), (3, .int x3), (6, .int v26), (0, .ref (ad 0)), (1, .int a1), (2, .int a2)]) dX6_which_108 rfl (by decide) (fun _ => rfl) h 111 rfl (fun v27 h => ?_)
              refine ww_goto C 39 dX6_which_111 (by decide) ?_
              exact ww_sub [4, 5, 6, 2, 1, 0] rfl (ih _ _ _ _ h)
            · refine ww_iload C 1 dX6_which_99 rfl 101 rfl ?_
              refine ww_goto C 106 dX6_which_101 (by decide) ?_
              refine ww_istore C [(4, .int v26), (3, .int x3), (6, .int v26), (0, .ref (ad 0)), (1, .int a1), (2, .int a2), (5, .int x5)] dX6_which_106 (by decide) rfl 108 rfl ?_
              refine ww_iinc C 6 (1 : Int32) (by decide) (fun v28 => [(5, .int v28), (4, .int v26), (3, .int x3), (6, .int v26), (0, .ref (ad 0)), (1, .int a1), (2, .int a2)]) dX6_which_108 rfl (by decide) (fun _ => rfl) h 111 rfl (fun v28 h => ?_)
              refine ww_goto C 39 dX6_which_111 (by decide) ?_
              exact ww_sub [4, 5, 6, 2, 1, 0] rfl (ih _ _ _ _ h)
          · refine ww_iload C 6 dX6_which_85 rfl 87 rfl ?_
            refine ww_goto C 91 dX6_which_87 (by decide) ?_
            refine ww_istore_n C [(3, .int x5), (6, .int v26), (0, .ref (ad 0)), (1, .int a1), (2, .int a2), (4, .int x4), (5, .int x5)] dX6_which_91 rfl (by decide) rfl 92 rfl ?_
            refine ww_iload C 1 dX6_which_92 rfl 94 rfl ?_
            refine ww_iload C 5 dX6_which_94 rfl 96 rfl ?_
            refine ww_icmp_le C 104 dX6_which_96 (by decide) h 99 rfl (fun h => ?_) (fun h => ?_)
            · refine ww_iload C 5 dX6_which_104 rfl 106 rfl ?_
              refine ww_istore C [(4, .int x4), (3, .int x5), (6, .int v26), (0, .ref (ad 0)), (1, .int a1), (2, .int a2), (5, .int x5)] dX6_which_106 (by decide) rfl 108 rfl ?_
              refine ww_iinc C 6 (1 : Int32) (by decide) (fun v29 => [(5, .int v29), (4, .int x4), (3, .int x5), (6, .int v26), (0, .ref (ad 0)), (1, .int a1), (2, .int a2)]) dX6_which_108 rfl (by decide) (fun _ => rfl) h 111 rfl (fun v29 h => ?_)
              refine ww_goto C 39 dX6_which_111 (by decide) ?_
              exact ww_sub [4, 5, 6, 2, 1, 0] rfl (ih _ _ _ _ h)
            · refine ww_iload C 1 dX6_which_99 rfl 101 rfl ?_
              refine ww_goto C 106 dX6_which_101 (by decide) ?_
              refine ww_istore C [(4, .int v26), (3, .int x5), (6, .int v26), (0, .ref (ad 0)), (1, .int a1), (2, .int a2), (5, .int x5)] dX6_which_106 (by decide) rfl 108 rfl ?_
              refine ww_iinc C 6 (1 : Int32) (by decide) (fun v30 => [(5, .int v30), (4, .int v26), (3, .int x5), (6, .int v26), (0, .ref (ad 0)), (1, .int a1), (2, .int a2)]) dX6_which_108 rfl (by decide) (fun _ => rfl) h 111 rfl (fun v30 h => ?_)
              refine ww_goto C 39 dX6_which_111 (by decide) ?_
              exact ww_sub [4, 5, 6, 2, 1, 0] rfl (ih _ _ _ _ h)
  rw [X6_which] at h
  refine ww_iload_n C 1 dX6_which_0 rfl rfl 1 rfl ?_
  refine ww_iconst C (0 : Int32) dX6_which_1 (by decide) 2 rfl ?_
  refine ww_bipush C (40 : Int32) dX6_which_2 (by decide) 4 rfl ?_
  refine ww_callSi C (As := [.int a1, .int (0 : Int32), .int (40 : Int32)]) (st := []) h (fun _ _ hF => k_X6_in hn hF) w_808 cm_X6_in (by decide) (by decide) rfl rfl (Nat.le_of_ble_eq_true rfl) dX6_which_4 7 rfl (fun v32 u31 h => ?_)
  refine ww_if_eq C 19 dX6_which_7 (by decide) h 10 rfl (fun h => ?_) (fun h => ?_)
  · refine ww_sipush C (-1000 : Int32) dX6_which_19 (by decide) 22 rfl ?_
    exact ww_iret C dX6_which_22 hr h
  · refine ww_iload_n C 2 dX6_which_10 rfl rfl 11 rfl ?_
    refine ww_iconst C (0 : Int32) dX6_which_11 (by decide) 12 rfl ?_
    refine ww_iconst C (1 : Int32) dX6_which_12 (by decide) 13 rfl ?_
    refine ww_callSi C (As := [.int a2, .int (0 : Int32), .int (1 : Int32)]) (st := []) h (fun _ _ hF => k_X6_in hn hF) w_808 cm_X6_in (by decide) (by decide) rfl rfl (Nat.le_of_ble_eq_true rfl) dX6_which_13 16 rfl (fun v34 u33 h => ?_)
    refine ww_if_ne C 23 dX6_which_16 (by decide) h 19 rfl (fun h => ?_) (fun h => ?_)
    · refine ww_iconst C (-1 : Int32) dX6_which_23 (by decide) 24 rfl ?_
      refine ww_istore_n C [(3, .int (-1 : Int32)), (0, .ref (ad 0)), (1, .int a1), (2, .int a2)] dX6_which_24 rfl (by decide) rfl 25 rfl ?_
      refine ww_aload_n C 1 dX6_which_25 rfl rfl 26 rfl ?_
      refine ww_callVv C (As := []) (st := []) h cl_X6.1 (obM hn) (fun _ _ hF => k_X6_keeps hn hF) w_1093 cm_X6_keeps (by decide) (by decide) rfl rfl (Nat.le_of_ble_eq_true rfl) dX6_which_26 29 rfl (fun _ u35 h => ?_)
      refine ww_aload_n C 1 dX6_which_29 rfl rfl 30 rfl ?_
      refine ww_iload_n C 2 dX6_which_30 rfl rfl 31 rfl ?_
      refine ww_callVi C (As := [.int a1]) (st := []) h cl_X6.1 (obM hn) (fun _ _ hF => k_X6_fairBehind hn hF) w_1129 cm_X6_fairBehind (by decide) (by decide) rfl rfl (Nat.le_of_ble_eq_true rfl) dX6_which_31 34 rfl (fun v38 u37 h => ?_)
      refine ww_istore C [(4, .int v38), (3, .int (-1 : Int32)), (0, .ref (ad 0)), (1, .int a1), (2, .int a2)] dX6_which_34 (by decide) rfl 36 rfl ?_
      refine ww_iconst C (0 : Int32) dX6_which_36 (by decide) 37 rfl ?_
      refine ww_istore C [(5, .int (0 : Int32)), (4, .int v38), (3, .int (-1 : Int32)), (0, .ref (ad 0)), (1, .int a1), (2, .int a2)] dX6_which_37 (by decide) rfl 39 rfl ?_
      exact ww_sub [3, 4, 5, 2, 1, 0] rfl (L39h N _ _ _ _ h)
    · refine ww_sipush C (-1000 : Int32) dX6_which_19 (by decide) 22 rfl ?_
      exact ww_iret C dX6_which_22 hr h

set_option maxRecDepth 100000 in
set_option maxHeartbeats 4000000 in
theorem k_X6_cargo {l : Launch} {D : va_G} {ad : Nat → Nat} {cA : Nat → ClassId} {tys : List (ClassId × FieldType)} {n : Nat} {sa : Nat → Nat} (hn : 20 ≤ n) {N : Nat} {g : Mem} {a1 : Int32} {a2 : Int32} {r : Int32} {g1 : Mem} (h : X6_cargo N a1 a2 g = some (r, g1)) : CTi l yX6_cargo (wsm yX6_cargo cX6_cargo 10 (some .int)) 2 D YM ad cA tys n sa g [.ref (ad 0), .int a1, .int a2] r g1 := by
  refine ct_of RX6 rfl (by decide +kernel) (Nat.le_of_ble_eq_true rfl) rfl (fun sz => PBi D YM ad cA n r g1 sz) ?_
  intro p e R s m args below meth c C hr
  have G38h : ∀ (fu : Nat), (∀ (x3 : Int32) (x4 : Int32) (x5 : Int32) (x6 : Int32) (x7 : Int32) (x8 : Int32) (x9 : Int32) (g : Mem), X6_cargo_G38 N a1 a2 fu 0 x3 x4 x5 x6 x7 x8 x9 g = some (r, g1) → WW p l e R s m args below meth c 10 D YM ad cA n (MQ below (PBi D YM ad cA n r g1 s.heap.size) args s 0 0 (AA n ad s.heap.size)) g 38 [(0, .ref (ad 0)), (1, .int a1), (2, .int a2), (3, .int x3), (4, .int x4), (5, .int x5), (6, .int x6)] []) ∧ (∀ (x3 : Int32) (x4 : Int32) (x5 : Int32) (x6 : Int32) (x7 : Int32) (x8 : Int32) (x9 : Int32) (g : Mem), X6_cargo_G38 N a1 a2 fu 1 x3 x4 x5 x6 x7 x8 x9 g = some (r, g1) → WW p l e R s m args below meth c 10 D YM ad cA n (MQ below (PBi D YM ad cA n r g1 s.heap.size) args s 0 0 (AA n ad s.heap.size)) g 64 [(0, .ref (ad 0)), (1, .int a1), (2, .int a2), (3, .int x3), (4, .int x4), (5, .int x5), (6, .int x6), (7, .int x7), (8, .int x8), (9, .int x9)] []) := by
    intro fu
    induction fu with
    | zero => exact ⟨(by intro x3 x4 x5 x6 x7 x8 x9 g h; cases h), (by intro x3 x4 x5 x6 x7 x8 x9 g h; cases h)⟩
    | succ fu ih =>
      refine ⟨?_, ?_⟩
      · intro x3 x4 x5 x6 x7 x8 x9 g h
        rw [X6_cargo_G38] at h
        refine ww_iload C 6 dX6_cargo_38 rfl 40 rfl ?_
        refine ww_sipush C (4096 : Int32) dX6_cargo_40 (by decide) 43 rfl ?_
        refine ww_icmp_ge C 174 dX6_cargo_43 (by decide) h 46 rfl (fun h => ?_) (fun h => ?_)
        · refine ww_iload_n C 2 dX6_cargo_174 rfl rfl 175 rfl ?_
          refine ww_if_ne C 183 dX6_cargo_175 (by decide) h 178 rfl (fun h => ?_) (fun h => ?_)
          · refine ww_iload C 5 dX6_cargo_183 rfl 185 rfl ?_
            exact ww_iret C dX6_cargo_185 hr h
          · refine ww_iload C 4 dX6_cargo_178 rfl 180 rfl ?_
            refine ww_goto C 185 dX6_cargo_180 (by decide) ?_
            exact ww_iret C dX6_cargo_185 hr h
        · refine ww_iload C 6 dX6_cargo_46 rfl 48 rfl ?_
          refine ww_iload_n C 3 dX6_cargo_48 rfl rfl 49 rfl ?_
          refine ww_iconst C (-1 : Int32) dX6_cargo_49 (by decide) 50 rfl ?_
          refine ww_ixor C dX6_cargo_50 51 rfl ?_
          refine ww_iand C dX6_cargo_51 52 rfl ?_
          refine ww_if_ne C 168 dX6_cargo_52 (by decide) h 55 rfl (fun h => ?_) (fun h => ?_)
          · refine ww_iinc C 6 (1 : Int32) (by decide) (fun v24 => [(6, .int v24), (0, .ref (ad 0)), (1, .int a1), (2, .int a2), (3, .int x3), (4, .int x4), (5, .int x5)]) dX6_cargo_168 rfl (by decide) (fun _ => rfl) h 171 rfl (fun v24 h => ?_)
            refine ww_goto C 38 dX6_cargo_171 (by decide) ?_
            exact ww_sub [1, 2, 3, 4, 5, 6, 0] rfl ((ih).1 _ _ _ _ _ _ _ _ h)
          · refine ww_iconst C (0 : Int32) dX6_cargo_55 (by decide) 56 rfl ?_
            refine ww_istore C [(7, .int (0 : Int32)), (0, .ref (ad 0)), (1, .int a1), (2, .int a2), (3, .int x3), (4, .int x4), (5, .int x5), (6, .int x6)] dX6_cargo_56 (by decide) rfl 58 rfl ?_
            refine ww_iconst C (0 : Int32) dX6_cargo_58 (by decide) 59 rfl ?_
            refine ww_istore C [(8, .int (0 : Int32)), (7, .int (0 : Int32)), (0, .ref (ad 0)), (1, .int a1), (2, .int a2), (3, .int x3), (4, .int x4), (5, .int x5), (6, .int x6)] dX6_cargo_59 (by decide) rfl 61 rfl ?_
            refine ww_iconst C (0 : Int32) dX6_cargo_61 (by decide) 62 rfl ?_
            refine ww_istore C [(9, .int (0 : Int32)), (8, .int (0 : Int32)), (7, .int (0 : Int32)), (0, .ref (ad 0)), (1, .int a1), (2, .int a2), (3, .int x3), (4, .int x4), (5, .int x5), (6, .int x6)] dX6_cargo_62 (by decide) rfl 64 rfl ?_
            exact ww_sub [3, 4, 5, 6, 7, 8, 9, 2, 1, 0] rfl ((ih).2 _ _ _ _ _ _ _ _ h)
      · intro x3 x4 x5 x6 x7 x8 x9 g h
        rw [X6_cargo_G38] at h
        refine ww_iload C 9 dX6_cargo_64 rfl 66 rfl ?_
        refine ww_bipush C (12 : Int32) dX6_cargo_66 (by decide) 68 rfl ?_
        refine ww_icmp_ge C 120 dX6_cargo_68 (by decide) h 71 rfl (fun h => ?_) (fun h => ?_)
        · refine ww_iload C 7 dX6_cargo_120 rfl 122 rfl ?_
          refine ww_iload_n C 1 dX6_cargo_122 rfl rfl 123 rfl ?_
          refine ww_icmp_gt C 137 dX6_cargo_123 (by decide) h 126 rfl (fun h => ?_) (fun h => ?_)
          · refine ww_iconst C (0 : Int32) dX6_cargo_137 (by decide) 138 rfl ?_
            refine ww_istore C [(9, .int (0 : Int32)), (0, .ref (ad 0)), (1, .int a1), (2, .int a2), (3, .int x3), (4, .int x4), (5, .int x5), (6, .int x6), (7, .int x7), (8, .int x8)] dX6_cargo_138 (by decide) rfl 140 rfl ?_
            refine ww_iload C 0 dX6_cargo_140 rfl 142 rfl ?_
            refine ww_if_eq C 150 dX6_cargo_142 (by decide) h 145 rfl (fun h => ?_) (fun h => ?_)
            · refine ww_iload C 5 dX6_cargo_150 rfl 152 rfl ?_
              refine ww_istore C [(4, .int x4), (9, .int (0 : Int32)), (0, .ref (ad 0)), (1, .int a1), (2, .int a2), (3, .int x3), (5, .int x5), (6, .int x6), (7, .int x7), (8, .int x8)] dX6_cargo_152 (by decide) rfl 154 rfl ?_
              refine ww_iload C 1 dX6_cargo_154 rfl 156 rfl ?_
              refine ww_if_eq C 164 dX6_cargo_156 (by decide) h 159 rfl (fun h => ?_) (fun h => ?_)
              · refine ww_iload C 6 dX6_cargo_164 rfl 166 rfl ?_
                refine ww_istore C [(5, .int x5), (4, .int x4), (9, .int (0 : Int32)), (0, .ref (ad 0)), (1, .int a1), (2, .int a2), (3, .int x3), (6, .int x6), (7, .int x7), (8, .int x8)] dX6_cargo_166 (by decide) rfl 168 rfl ?_
                refine ww_iinc C 7 (1 : Int32) (by decide) (fun v25 => [(6, .int v25), (5, .int x5), (4, .int x4), (9, .int (0 : Int32)), (0, .ref (ad 0)), (1, .int a1), (2, .int a2), (3, .int x3), (7, .int x7), (8, .int x8)]) dX6_cargo_168 rfl (by decide) (fun _ => rfl) h 171 rfl (fun v25 h => ?_)
                refine ww_goto C 38 dX6_cargo_171 (by decide) ?_
                exact ww_sub [4, 5, 6, 7, 2, 1, 0] rfl ((ih).1 _ _ _ _ _ _ _ _ h)
              · refine ww_iload C 9 dX6_cargo_159 rfl 161 rfl ?_
                refine ww_goto C 166 dX6_cargo_161 (by decide) ?_
                refine ww_istore C [(5, .int x8), (4, .int x4), (9, .int (0 : Int32)), (0, .ref (ad 0)), (1, .int a1), (2, .int a2), (3, .int x3), (6, .int x6), (7, .int x7), (8, .int x8)] dX6_cargo_166 (by decide) rfl 168 rfl ?_
                refine ww_iinc C 7 (1 : Int32) (by decide) (fun v26 => [(6, .int v26), (5, .int x8), (4, .int x4), (9, .int (0 : Int32)), (0, .ref (ad 0)), (1, .int a1), (2, .int a2), (3, .int x3), (7, .int x7), (8, .int x8)]) dX6_cargo_168 rfl (by decide) (fun _ => rfl) h 171 rfl (fun v26 h => ?_)
                refine ww_goto C 38 dX6_cargo_171 (by decide) ?_
                exact ww_sub [4, 5, 6, 7, 2, 1, 0] rfl ((ih).1 _ _ _ _ _ _ _ _ h)
            · refine ww_iload C 7 dX6_cargo_145 rfl 147 rfl ?_
              refine ww_goto C 152 dX6_cargo_147 (by decide) ?_
              refine ww_istore C [(4, .int x6), (9, .int (0 : Int32)), (0, .ref (ad 0)), (1, .int a1), (2, .int a2), (3, .int x3), (5, .int x5), (6, .int x6), (7, .int x7), (8, .int x8)] dX6_cargo_152 (by decide) rfl 154 rfl ?_
              refine ww_iload C 1 dX6_cargo_154 rfl 156 rfl ?_
              refine ww_if_eq C 164 dX6_cargo_156 (by decide) h 159 rfl (fun h => ?_) (fun h => ?_)
              · refine ww_iload C 6 dX6_cargo_164 rfl 166 rfl ?_
                refine ww_istore C [(5, .int x5), (4, .int x6), (9, .int (0 : Int32)), (0, .ref (ad 0)), (1, .int a1), (2, .int a2), (3, .int x3), (6, .int x6), (7, .int x7), (8, .int x8)] dX6_cargo_166 (by decide) rfl 168 rfl ?_
                refine ww_iinc C 7 (1 : Int32) (by decide) (fun v27 => [(6, .int v27), (5, .int x5), (4, .int x6), (9, .int (0 : Int32)), (0, .ref (ad 0)), (1, .int a1), (2, .int a2), (3, .int x3), (7, .int x7), (8, .int x8)]) dX6_cargo_168 rfl (by decide) (fun _ => rfl) h 171 rfl (fun v27 h => ?_)
                refine ww_goto C 38 dX6_cargo_171 (by decide) ?_
                exact ww_sub [4, 5, 6, 7, 2, 1, 0] rfl ((ih).1 _ _ _ _ _ _ _ _ h)
              · refine ww_iload C 9 dX6_cargo_159 rfl 161 rfl ?_
                refine ww_goto C 166 dX6_cargo_161 (by decide) ?_
                refine ww_istore C [(5, .int x8), (4, .int x6), (9, .int (0 : Int32)), (0, .ref (ad 0)), (1, .int a1), (2, .int a2), (3, .int x3), (6, .int x6), (7, .int x7), (8, .int x8)] dX6_cargo_166 (by decide) rfl 168 rfl ?_
                refine ww_iinc C 7 (1 : Int32) (by decide) (fun v28 => [(6, .int v28), (5, .int x8), (4, .int x6), (9, .int (0 : Int32)), (0, .ref (ad 0)), (1, .int a1), (2, .int a2), (3, .int x3), (7, .int x7), (8, .int x8)]) dX6_cargo_168 rfl (by decide) (fun _ => rfl) h 171 rfl (fun v28 h => ?_)
                refine ww_goto C 38 dX6_cargo_171 (by decide) ?_
                exact ww_sub [4, 5, 6, 7, 2, 1, 0] rfl ((ih).1 _ _ _ _ _ _ _ _ h)
          · refine ww_iload C 8 dX6_cargo_126 rfl 128 rfl ?_
            refine ww_iload C 5 dX6_cargo_128 rfl 130 rfl ?_
            refine ww_icmp_le C 137 dX6_cargo_130 (by decide) h 133 rfl (fun h => ?_) (fun h => ?_)
            · refine ww_iconst C (0 : Int32) dX6_cargo_137 (by decide) 138 rfl ?_
              refine ww_istore C [(9, .int (0 : Int32)), (0, .ref (ad 0)), (1, .int a1), (2, .int a2), (3, .int x3), (4, .int x4), (5, .int x5), (6, .int x6), (7, .int x7), (8, .int x8)] dX6_cargo_138 (by decide) rfl 140 rfl ?_
              refine ww_iload C 0 dX6_cargo_140 rfl 142 rfl ?_
              refine ww_if_eq C 150 dX6_cargo_142 (by decide) h 145 rfl (fun h => ?_) (fun h => ?_)
              · refine ww_iload C 5 dX6_cargo_150 rfl 152 rfl ?_
                refine ww_istore C [(4, .int x4), (9, .int (0 : Int32)), (0, .ref (ad 0)), (1, .int a1), (2, .int a2), (3, .int x3), (5, .int x5), (6, .int x6), (7, .int x7), (8, .int x8)] dX6_cargo_152 (by decide) rfl 154 rfl ?_
                refine ww_iload C 1 dX6_cargo_154 rfl 156 rfl ?_
                refine ww_if_eq C 164 dX6_cargo_156 (by decide) h 159 rfl (fun h => ?_) (fun h => ?_)
                · refine ww_iload C 6 dX6_cargo_164 rfl 166 rfl ?_
                  refine ww_istore C [(5, .int x5), (4, .int x4), (9, .int (0 : Int32)), (0, .ref (ad 0)), (1, .int a1), (2, .int a2), (3, .int x3), (6, .int x6), (7, .int x7), (8, .int x8)] dX6_cargo_166 (by decide) rfl 168 rfl ?_
                  refine ww_iinc C 7 (1 : Int32) (by decide) (fun v29 => [(6, .int v29), (5, .int x5), (4, .int x4), (9, .int (0 : Int32)), (0, .ref (ad 0)), (1, .int a1), (2, .int a2), (3, .int x3), (7, .int x7), (8, .int x8)]) dX6_cargo_168 rfl (by decide) (fun _ => rfl) h 171 rfl (fun v29 h => ?_)
                  refine ww_goto C 38 dX6_cargo_171 (by decide) ?_
                  exact ww_sub [4, 5, 6, 7, 2, 1, 0] rfl ((ih).1 _ _ _ _ _ _ _ _ h)
                · refine ww_iload C 9 dX6_cargo_159 rfl 161 rfl ?_
                  refine ww_goto C 166 dX6_cargo_161 (by decide) ?_
                  refine ww_istore C [(5, .int x8), (4, .int x4), (9, .int (0 : Int32)), (0, .ref (ad 0)), (1, .int a1), (2, .int a2), (3, .int x3), (6, .int x6), (7, .int x7), (8, .int x8)] dX6_cargo_166 (by decide) rfl 168 rfl ?_
                  refine ww_iinc C 7 (1 : Int32) (by decide) (fun v30 => [(6, .int v30), (5, .int x8), (4, .int x4), (9, .int (0 : Int32)), (0, .ref (ad 0)), (1, .int a1), (2, .int a2), (3, .int x3), (7, .int x7), (8, .int x8)]) dX6_cargo_168 rfl (by decide) (fun _ => rfl) h 171 rfl (fun v30 h => ?_)
                  refine ww_goto C 38 dX6_cargo_171 (by decide) ?_
                  exact ww_sub [4, 5, 6, 7, 2, 1, 0] rfl ((ih).1 _ _ _ _ _ _ _ _ h)
              · refine ww_iload C 7 dX6_cargo_145 rfl 147 rfl ?_
                refine ww_goto C 152 dX6_cargo_147 (by decide) ?_
                refine ww_istore C [(4, .int x6), (9, .int (0 : Int32)), (0, .ref (ad 0)), (1, .int a1), (2, .int a2), (3, .int x3), (5, .int x5), (6, .int x6), (7, .int x7), (8, .int x8)] dX6_cargo_152 (by decide) rfl 154 rfl ?_
                refine ww_iload C 1 dX6_cargo_154 rfl 156 rfl ?_
                refine ww_if_eq C 164 dX6_cargo_156 (by decide) h 159 rfl (fun h => ?_) (fun h => ?_)
                · refine ww_iload C 6 dX6_cargo_164 rfl 166 rfl ?_
                  refine ww_istore C [(5, .int x5), (4, .int x6), (9, .int (0 : Int32)), (0, .ref (ad 0)), (1, .int a1), (2, .int a2), (3, .int x3), (6, .int x6), (7, .int x7), (8, .int x8)] dX6_cargo_166 (by decide) rfl 168 rfl ?_
                  refine ww_iinc C 7 (1 : Int32) (by decide) (fun v31 => [(6, .int v31), (5, .int x5), (4, .int x6), (9, .int (0 : Int32)), (0, .ref (ad 0)), (1, .int a1), (2, .int a2), (3, .int x3), (7, .int x7), (8, .int x8)]) dX6_cargo_168 rfl (by decide) (fun _ => rfl) h 171 rfl (fun v31 h => ?_)
                  refine ww_goto C 38 dX6_cargo_171 (by decide) ?_
                  exact ww_sub [4, 5, 6, 7, 2, 1, 0] rfl ((ih).1 _ _ _ _ _ _ _ _ h)
                · refine ww_iload C 9 dX6_cargo_159 rfl 161 rfl ?_
                  refine ww_goto C 166 dX6_cargo_161 (by decide) ?_
                  refine ww_istore C [(5, .int x8), (4, .int x6), (9, .int (0 : Int32)), (0, .ref (ad 0)), (1, .int a1), (2, .int a2), (3, .int x3), (6, .int x6), (7, .int x7), (8, .int x8)] dX6_cargo_166 (by decide) rfl 168 rfl ?_
                  refine ww_iinc C 7 (1 : Int32) (by decide) (fun v32 => [(6, .int v32), (5, .int x8), (4, .int x6), (9, .int (0 : Int32)), (0, .ref (ad 0)), (1, .int a1), (2, .int a2), (3, .int x3), (7, .int x7), (8, .int x8)]) dX6_cargo_168 rfl (by decide) (fun _ => rfl) h 171 rfl (fun v32 h => ?_)
                  refine ww_goto C 38 dX6_cargo_171 (by decide) ?_
                  exact ww_sub [4, 5, 6, 7, 2, 1, 0] rfl ((ih).1 _ _ _ _ _ _ _ _ h)
            · refine ww_iconst C (1 : Int32) dX6_cargo_133 (by decide) 134 rfl ?_
              refine ww_goto C 138 dX6_cargo_134 (by decide) ?_
              refine ww_istore C [(9, .int (1 : Int32)), (0, .ref (ad 0)), (1, .int a1), (2, .int a2), (3, .int x3), (4, .int x4), (5, .int x5), (6, .int x6), (7, .int x7), (8, .int x8)] dX6_cargo_138 (by decide) rfl 140 rfl ?_
              refine ww_iload C 0 dX6_cargo_140 rfl 142 rfl ?_
              refine ww_if_eq C 150 dX6_cargo_142 (by decide) h 145 rfl (fun h => ?_) (fun h => ?_)
              · refine ww_iload C 5 dX6_cargo_150 rfl 152 rfl ?_
                refine ww_istore C [(4, .int x4), (9, .int (1 : Int32)), (0, .ref (ad 0)), (1, .int a1), (2, .int a2), (3, .int x3), (5, .int x5), (6, .int x6), (7, .int x7), (8, .int x8)] dX6_cargo_152 (by decide) rfl 154 rfl ?_
                refine ww_iload C 1 dX6_cargo_154 rfl 156 rfl ?_
                refine ww_if_eq C 164 dX6_cargo_156 (by decide) h 159 rfl (fun h => ?_) (fun h => ?_)
                · refine ww_iload C 6 dX6_cargo_164 rfl 166 rfl ?_
                  refine ww_istore C [(5, .int x5), (4, .int x4), (9, .int (1 : Int32)), (0, .ref (ad 0)), (1, .int a1), (2, .int a2), (3, .int x3), (6, .int x6), (7, .int x7), (8, .int x8)] dX6_cargo_166 (by decide) rfl 168 rfl ?_
                  refine ww_iinc C 7 (1 : Int32) (by decide) (fun v33 => [(6, .int v33), (5, .int x5), (4, .int x4), (9, .int (1 : Int32)), (0, .ref (ad 0)), (1, .int a1), (2, .int a2), (3, .int x3), (7, .int x7), (8, .int x8)]) dX6_cargo_168 rfl (by decide) (fun _ => rfl) h 171 rfl (fun v33 h => ?_)
                  refine ww_goto C 38 dX6_cargo_171 (by decide) ?_
                  exact ww_sub [4, 5, 6, 7, 2, 1, 0] rfl ((ih).1 _ _ _ _ _ _ _ _ h)
                · refine ww_iload C 9 dX6_cargo_159 rfl 161 rfl ?_
                  refine ww_goto C 166 dX6_cargo_161 (by decide) ?_
                  refine ww_istore C [(5, .int x8), (4, .int x4), (9, .int (1 : Int32)), (0, .ref (ad 0)), (1, .int a1), (2, .int a2), (3, .int x3), (6, .int x6), (7, .int x7), (8, .int x8)] dX6_cargo_166 (by decide) rfl 168 rfl ?_
                  refine ww_iinc C 7 (1 : Int32) (by decide) (fun v34 => [(6, .int v34), (5, .int x8), (4, .int x4), (9, .int (1 : Int32)), (0, .ref (ad 0)), (1, .int a1), (2, .int a2), (3, .int x3), (7, .int x7), (8, .int x8)]) dX6_cargo_168 rfl (by decide) (fun _ => rfl) h 171 rfl (fun v34 h => ?_)
                  refine ww_goto C 38 dX6_cargo_171 (by decide) ?_
                  exact ww_sub [4, 5, 6, 7, 2, 1, 0] rfl ((ih).1 _ _ _ _ _ _ _ _ h)
              · refine ww_iload C 7 dX6_cargo_145 rfl 147 rfl ?_
                refine ww_goto C 152 dX6_cargo_147 (by decide) ?_
                refine ww_istore C [(4, .int x6), (9, .int (1 : Int32)), (0, .ref (ad 0)), (1, .int a1), (2, .int a2), (3, .int x3), (5, .int x5), (6, .int x6), (7, .int x7), (8, .int x8)] dX6_cargo_152 (by decide) rfl 154 rfl ?_
                refine ww_iload C 1 dX6_cargo_154 rfl 156 rfl ?_
                refine ww_if_eq C 164 dX6_cargo_156 (by decide) h 159 rfl (fun h => ?_) (fun h => ?_)
                · refine ww_iload C 6 dX6_cargo_164 rfl 166 rfl ?_
                  refine ww_istore C [(5, .int x5), (4, .int x6), (9, .int (1 : Int32)), (0, .ref (ad 0)), (1, .int a1), (2, .int a2), (3, .int x3), (6, .int x6), (7, .int x7), (8, .int x8)] dX6_cargo_166 (by decide) rfl 168 rfl ?_
                  refine ww_iinc C 7 (1 : Int32) (by decide) (fun v35 => [(6, .int v35), (5, .int x5), (4, .int x6), (9, .int (1 : Int32)), (0, .ref (ad 0)), (1, .int a1), (2, .int a2), (3, .int x3), (7, .int x7), (8, .int x8)]) dX6_cargo_168 rfl (by decide) (fun _ => rfl) h 171 rfl (fun v35 h => ?_)
                  refine ww_goto C 38 dX6_cargo_171 (by decide) ?_
                  exact ww_sub [4, 5, 6, 7, 2, 1, 0] rfl ((ih).1 _ _ _ _ _ _ _ _ h)
                · refine ww_iload C 9 dX6_cargo_159 rfl 161 rfl ?_
                  refine ww_goto C 166 dX6_cargo_161 (by decide) ?_
                  refine ww_istore C [(5, .int x8), (4, .int x6), (9, .int (1 : Int32)), (0, .ref (ad 0)), (1, .int a1), (2, .int a2), (3, .int x3), (6, .int x6), (7, .int x7), (8, .int x8)] dX6_cargo_166 (by decide) rfl 168 rfl ?_
                  refine ww_iinc C 7 (1 : Int32) (by decide) (fun v36 => [(6, .int v36), (5, .int x8), (4, .int x6), (9, .int (1 : Int32)), (0, .ref (ad 0)), (1, .int a1), (2, .int a2), (3, .int x3), (7, .int x7), (8, .int x8)]) dX6_cargo_168 rfl (by decide) (fun _ => rfl) h 171 rfl (fun v36 h => ?_)
                  refine ww_goto C 38 dX6_cargo_171 (by decide) ?_
                  exact ww_sub [4, 5, 6, 7, 2, 1, 0] rfl ((ih).1 _ _ _ _ _ _ _ _ h)
        · refine ww_iload C 6 dX6_cargo_71 rfl 73 rfl ?_
          refine ww_iload C 9 dX6_cargo_73 rfl 75 rfl ?_
          refine ww_ishr C dX6_cargo_75 76 rfl ?_
          refine ww_iconst C (1 : Int32) dX6_cargo_76 (by decide) 77 rfl ?_
          refine ww_iand C dX6_cargo_77 78 rfl ?_
          refine ww_iconst C (1 : Int32) dX6_cargo_78 (by decide) 79 rfl ?_
          refine ww_icmp_ne C 114 dX6_cargo_79 (by decide) h 82 rfl (fun h => ?_) (fun h => ?_)
          · refine ww_iinc C 9 (1 : Int32) (by decide) (fun v37 => [(9, .int v37), (0, .ref (ad 0)), (1, .int a1), (2, .int a2), (3, .int x3), (4, .int x4), (5, .int x5), (6, .int x6), (7, .int x7), (8, .int x8)]) dX6_cargo_114 rfl (by decide) (fun _ => rfl) h 117 rfl (fun v37 h => ?_)
            refine ww_goto C 64 dX6_cargo_117 (by decide) ?_
            exact ww_sub [1, 2, 3, 4, 5, 6, 7, 8, 9, 0] rfl ((ih).2 _ _ _ _ _ _ _ _ h)
          · refine ww_iload C 7 dX6_cargo_82 rfl 84 rfl ?_
            refine ww_aload_n C 0 dX6_cargo_84 rfl rfl 85 rfl ?_
            refine ww_getS C cl_X6 (obM hn) 4 (by decide) rfl 4 rfl w_851 dX6_cargo_85 88 rfl ?_
            refine ww_iconst C (4 : Int32) dX6_cargo_88 (by decide) 89 rfl ?_
            refine ww_iload C 9 dX6_cargo_89 rfl 91 rfl ?_
            refine ww_imul C dX6_cargo_91 92 rfl ?_
            refine ww_iconst C (2 : Int32) dX6_cargo_92 (by decide) 93 rfl ?_
            refine ww_iadd C dX6_cargo_93 94 rfl ?_
            refine ww_iald C (iaM hn 4 48 (by decide) (by decide) rfl) dX6_cargo_94 h 95 rfl (fun h => ?_)
            refine ww_iadd C dX6_cargo_95 96 rfl ?_
            refine ww_bi h (fun v38 h => ?_)
            refine ww_istore C [(7, .int v38), (0, .ref (ad 0)), (1, .int a1), (2, .int a2), (3, .int x3), (4, .int x4), (5, .int x5), (6, .int x6), (8, .int x8), (9, .int x9)] dX6_cargo_96 (by decide) rfl 98 rfl ?_
            refine ww_iload C 8 dX6_cargo_98 rfl 100 rfl ?_
            refine ww_aload_n C 1 dX6_cargo_100 rfl rfl 101 rfl ?_
            refine ww_getS C cl_X6 (obM hn) 4 (by decide) rfl 4 rfl w_851 dX6_cargo_101 104 rfl ?_
            refine ww_iconst C (4 : Int32) dX6_cargo_104 (by decide) 105 rfl ?_
            refine ww_iload C 9 dX6_cargo_105 rfl 107 rfl ?_
            refine ww_imul C dX6_cargo_107 108 rfl ?_
            refine ww_iconst C (1 : Int32) dX6_cargo_108 (by decide) 109 rfl ?_
            refine ww_iadd C dX6_cargo_109 110 rfl ?_
            refine ww_iald C (iaM hn 4 48 (by decide) (by decide) rfl) dX6_cargo_110 h 111 rfl (fun h => ?_)
            refine ww_iadd C dX6_cargo_111 112 rfl ?_
            refine ww_bi h (fun v39 h => ?_)
            refine ww_istore C [(8, .int v39), (7, .int v38), (0, .ref (ad 0)), (1, .int a1), (2, .int a2), (3, .int x3), (4, .int x4), (5, .int x5), (6, .int x6), (9, .int x9)] dX6_cargo_112 (by decide) rfl 114 rfl ?_
            refine ww_iinc C 9 (1 : Int32) (by decide) (fun v40 => [(9, .int v40), (8, .int v39), (7, .int v38), (0, .ref (ad 0)), (1, .int a1), (2, .int a2), (3, .int x3), (4, .int x4), (5, .int x5), (6, .int x6)]) dX6_cargo_114 rfl (by decide) (fun _ => rfl) h 117 rfl (fun v40 h => ?_)
            refine ww_goto C 64 dX6_cargo_117 (by decide) ?_
            exact ww_sub [3, 4, 5, 6, 7, 8, 9, 2, 1, 0] rfl ((ih).2 _ _ _ _ _ _ _ _ h)
  rw [X6_cargo] at h
  refine ww_iload_n C 1 dX6_cargo_0 rfl rfl 1 rfl ?_
  refine ww_iconst C (0 : Int32) dX6_cargo_1 (by decide) 2 rfl ?_
  refine ww_sipush C (999 : Int32) dX6_cargo_2 (by decide) 5 rfl ?_
  refine ww_callSi C (As := [.int a1, .int (0 : Int32), .int (999 : Int32)]) (st := []) h (fun _ _ hF => k_X6_in hn hF) w_808 cm_X6_in (by decide) (by decide) rfl rfl (Nat.le_of_ble_eq_true rfl) dX6_cargo_5 8 rfl (fun v42 u41 h => ?_)
  refine ww_if_eq C 20 dX6_cargo_8 (by decide) h 11 rfl (fun h => ?_) (fun h => ?_)
  · refine ww_bipush C (-2 : Int32) dX6_cargo_20 (by decide) 22 rfl ?_
    exact ww_iret C dX6_cargo_22 hr h
  · refine ww_iload_n C 2 dX6_cargo_11 rfl rfl 12 rfl ?_
    refine ww_iconst C (0 : Int32) dX6_cargo_12 (by decide) 13 rfl ?_
    refine ww_iconst C (1 : Int32) dX6_cargo_13 (by decide) 14 rfl ?_
    refine ww_callSi C (As := [.int a2, .int (0 : Int32), .int (1 : Int32)]) (st := []) h (fun _ _ hF => k_X6_in hn hF) w_808 cm_X6_in (by decide) (by decide) rfl rfl (Nat.le_of_ble_eq_true rfl) dX6_cargo_14 17 rfl (fun v44 u43 h => ?_)
    refine ww_if_ne C 23 dX6_cargo_17 (by decide) h 20 rfl (fun h => ?_) (fun h => ?_)
    · refine ww_aload_n C 0 dX6_cargo_23 rfl rfl 24 rfl ?_
      refine ww_iconst C (1 : Int32) dX6_cargo_24 (by decide) 25 rfl ?_
      refine ww_callVi C (As := [.int (1 : Int32)]) (st := []) h cl_X6.1 (obM hn) (fun _ _ hF => k_X6_placed hn hF) w_954 cm_X6_placed (by decide) (by decide) rfl rfl (Nat.le_of_ble_eq_true rfl) dX6_cargo_25 28 rfl (fun v46 u45 h => ?_)
      refine ww_istore_n C [(3, .int v46), (0, .ref (ad 0)), (1, .int a1), (2, .int a2)] dX6_cargo_28 rfl (by decide) rfl 29 rfl ?_
      refine ww_iconst C (0 : Int32) dX6_cargo_29 (by decide) 30 rfl ?_
      refine ww_istore C [(4, .int (0 : Int32)), (3, .int v46), (0, .ref (ad 0)), (1, .int a1), (2, .int a2)] dX6_cargo_30 (by decide) rfl 32 rfl ?_
      refine ww_iconst C (0 : Int32) dX6_cargo_32 (by decide) 33 rfl ?_
      refine ww_istore C [(5, .int (0 : Int32)), (4, .int (0 : Int32)), (3, .int v46), (0, .ref (ad 0)), (1, .int a1), (2, .int a2)] dX6_cargo_33 (by decide) rfl 35 rfl ?_
      refine ww_iconst C (1 : Int32) dX6_cargo_35 (by decide) 36 rfl ?_
      refine ww_istore C [(6, .int (1 : Int32)), (5, .int (0 : Int32)), (4, .int (0 : Int32)), (3, .int v46), (0, .ref (ad 0)), (1, .int a1), (2, .int a2)] dX6_cargo_36 (by decide) rfl 38 rfl ?_
      exact ww_sub [4, 5, 6, 3, 2, 1, 0] rfl ((G38h N).1 _ _ _ _ _ _ _ _ h)
    · refine ww_bipush C (-2 : Int32) dX6_cargo_20 (by decide) 22 rfl ?_
      exact ww_iret C dX6_cargo_22 hr h

set_option maxRecDepth 100000 in
set_option maxHeartbeats 4000000 in
theorem k_X6_leftBy {l : Launch} {D : va_G} {ad : Nat → Nat} {cA : Nat → ClassId} {tys : List (ClassId × FieldType)} {n : Nat} {sa : Nat → Nat} (hn : 20 ≤ n) {N : Nat} {g : Mem} {a1 : Int32} {a2 : Int32} {a3 : Int32} {a4 : Int32} {r : Int32} {g1 : Mem} (h : X6_leftBy N a1 a2 a3 a4 g = some (r, g1)) : CTi l yX6_leftBy (wsm yX6_leftBy cX6_leftBy 9 (some .int)) 6 D YM ad cA tys n sa g [.ref (ad 0), .int a1, .int a2, .int a3, .int a4] r g1 := by
  refine ct_of RX6 rfl (by decide +kernel) (Nat.le_of_ble_eq_true rfl) rfl (fun sz => PBi D YM ad cA n r g1 sz) ?_
  intro p e R s m args below meth c C hr
  have L13h : ∀ (fu : Nat), (∀ (x5 : Int32) (x6 : Int32) (x7 : Int32) (g : Mem), X6_leftBy_L13 N a1 a2 a3 a4 fu x5 x6 x7 g = some (r, g1) → WW p l e R s m args below meth c 9 D YM ad cA n (MQ below (PBi D YM ad cA n r g1 s.heap.size) args s 0 0 (AA n ad s.heap.size)) g 13 [(0, .ref (ad 0)), (1, .int a1), (2, .int a2), (3, .int a3), (4, .int a4), (5, .int x5), (6, .int x6), (7, .int x7)] []) := by
    intro fu
    induction fu with
    | zero => intro x5 x6 x7 g h; cases h
    | succ fu ih =>
      intro x5 x6 x7 g h
      rw [X6_leftBy_L13] at h
      refine ww_iload C 7 dX6_leftBy_13 rfl 15 rfl ?_
      refine ww_iload C 4 dX6_leftBy_15 rfl 17 rfl ?_
      refine ww_icmp_ge C 90 dX6_leftBy_17 (by decide) h 20 rfl (fun h => ?_) (fun h => ?_)
      · refine ww_iconst C (-1 : Int32) dX6_leftBy_90 (by decide) 91 rfl ?_
        refine ww_istore C [(7, .int (-1 : Int32)), (0, .ref (ad 0)), (1, .int a1), (2, .int a2), (3, .int a3), (4, .int a4), (5, .int x5), (6, .int x6)] dX6_leftBy_91 (by decide) rfl 93 rfl ?_
        refine ww_iload C 7 dX6_leftBy_93 rfl 95 rfl ?_
        refine ww_if_eq C 128 dX6_leftBy_95 (by decide) h 98 rfl (fun h => ?_) (fun h => ?_)
        · refine ww_aload_n C 1 dX6_leftBy_128 rfl rfl 129 rfl ?_
          refine ww_callVv C (As := []) (st := []) h cl_X6.1 (obM hn) (fun _ _ hF => k_X6_lays hn hF) w_1101 cm_X6_lays (by decide) (by decide) rfl rfl (Nat.le_of_ble_eq_true rfl) dX6_leftBy_129 132 rfl (fun _ u48 h => ?_)
          refine ww_iload C 0 dX6_leftBy_132 rfl 134 rfl ?_
          exact ww_iret C dX6_leftBy_134 hr h
        · refine ww_aload_n C 1 dX6_leftBy_98 rfl rfl 99 rfl ?_
          refine ww_iload_n C 2 dX6_leftBy_99 rfl rfl 100 rfl ?_
          refine ww_iload_n C 3 dX6_leftBy_100 rfl rfl 101 rfl ?_
          refine ww_callVi C (As := [.int a1, .int a2]) (st := []) h cl_X6.1 (obM hn) (fun _ _ hF => k_X6_can hn hF) w_1029 cm_X6_can (by decide) (by decide) rfl rfl (Nat.le_of_ble_eq_true rfl) dX6_leftBy_101 104 rfl (fun v51 u50 h => ?_)
          refine ww_if_eq C 125 dX6_leftBy_104 (by decide) h 107 rfl (fun h => ?_) (fun h => ?_)
          · refine ww_iconst C (-1 : Int32) dX6_leftBy_125 (by decide) 126 rfl ?_
            refine ww_istore C [(7, .int (-1 : Int32)), (0, .ref (ad 0)), (1, .int a1), (2, .int a2), (3, .int a3), (4, .int a4), (5, .int x5), (6, .int x6)] dX6_leftBy_126 (by decide) rfl 128 rfl ?_
            refine ww_aload_n C 1 dX6_leftBy_128 rfl rfl 129 rfl ?_
            refine ww_callVv C (As := []) (st := []) h cl_X6.1 (obM hn) (fun _ _ hF => k_X6_lays hn hF) w_1101 cm_X6_lays (by decide) (by decide) rfl rfl (Nat.le_of_ble_eq_true rfl) dX6_leftBy_129 132 rfl (fun _ u52 h => ?_)
            refine ww_iload C 0 dX6_leftBy_132 rfl 134 rfl ?_
            exact ww_iret C dX6_leftBy_134 hr h
          · refine ww_aload_n C 1 dX6_leftBy_107 rfl rfl 108 rfl ?_
            refine ww_getS C cl_X6 (obM hn) 3 (by decide) rfl 3 rfl w_850 dX6_leftBy_108 111 rfl ?_
            refine ww_iconst C (2 : Int32) dX6_leftBy_111 (by decide) 112 rfl ?_
            refine ww_iload_n C 2 dX6_leftBy_112 rfl rfl 113 rfl ?_
            refine ww_imul C dX6_leftBy_113 114 rfl ?_
            refine ww_iald C (iaM hn 3 12 (by decide) (by decide) rfl) dX6_leftBy_114 h 115 rfl (fun h => ?_)
            refine ww_aload_n C 1 dX6_leftBy_115 rfl rfl 116 rfl ?_
            refine ww_iload_n C 2 dX6_leftBy_116 rfl rfl 117 rfl ?_
            refine ww_iload_n C 3 dX6_leftBy_117 rfl rfl 118 rfl ?_
            refine ww_callVi C (As := [.int a1, .int a2]) (st := [.int (u50.1 3 ((2 : Int32) * a1).toNatClampNeg)]) h cl_X6.1 (obM hn) (fun _ _ hF => k_X6_costsOf hn hF) w_1037 cm_X6_costsOf (by decide) (by decide) rfl rfl (Nat.le_of_ble_eq_true rfl) dX6_leftBy_118 121 rfl (fun v55 u54 h => ?_)
            refine ww_isub C dX6_leftBy_121 122 rfl ?_
            refine ww_goto C 126 dX6_leftBy_122 (by decide) ?_
            refine ww_bi h (fun v56 h => ?_)
            refine ww_istore C [(7, .int v56), (0, .ref (ad 0)), (1, .int a1), (2, .int a2), (3, .int a3), (4, .int a4), (5, .int x5), (6, .int x6)] dX6_leftBy_126 (by decide) rfl 128 rfl ?_
            refine ww_aload_n C 1 dX6_leftBy_128 rfl rfl 129 rfl ?_
            refine ww_callVv C (As := []) (st := []) h cl_X6.1 (obM hn) (fun _ _ hF => k_X6_lays hn hF) w_1101 cm_X6_lays (by decide) (by decide) rfl rfl (Nat.le_of_ble_eq_true rfl) dX6_leftBy_129 132 rfl (fun _ u57 h => ?_)
            refine ww_iload C 0 dX6_leftBy_132 rfl 134 rfl ?_
            exact ww_iret C dX6_leftBy_134 hr h
      · refine ww_iload C 6 dX6_leftBy_20 rfl 22 rfl ?_
        refine ww_if_eq C 90 dX6_leftBy_22 (by decide) h 25 rfl (fun h => ?_) (fun h => ?_)
        · refine ww_iconst C (-1 : Int32) dX6_leftBy_90 (by decide) 91 rfl ?_
          refine ww_istore C [(7, .int (-1 : Int32)), (0, .ref (ad 0)), (1, .int a1), (2, .int a2), (3, .int a3), (4, .int a4), (5, .int x5), (6, .int x6)] dX6_leftBy_91 (by decide) rfl 93 rfl ?_
          refine ww_iload C 7 dX6_leftBy_93 rfl 95 rfl ?_
          refine ww_if_eq C 128 dX6_leftBy_95 (by decide) h 98 rfl (fun h => ?_) (fun h => ?_)
          · refine ww_aload_n C 1 dX6_leftBy_128 rfl rfl 129 rfl ?_
            refine ww_callVv C (As := []) (st := []) h cl_X6.1 (obM hn) (fun _ _ hF => k_X6_lays hn hF) w_1101 cm_X6_lays (by decide) (by decide) rfl rfl (Nat.le_of_ble_eq_true rfl) dX6_leftBy_129 132 rfl (fun _ u59 h => ?_)
            refine ww_iload C 0 dX6_leftBy_132 rfl 134 rfl ?_
            exact ww_iret C dX6_leftBy_134 hr h
          · refine ww_aload_n C 1 dX6_leftBy_98 rfl rfl 99 rfl ?_
            refine ww_iload_n C 2 dX6_leftBy_99 rfl rfl 100 rfl ?_
            refine ww_iload_n C 3 dX6_leftBy_100 rfl rfl 101 rfl ?_
            refine ww_callVi C (As := [.int a1, .int a2]) (st := []) h cl_X6.1 (obM hn) (fun _ _ hF => k_X6_can hn hF) w_1029 cm_X6_can (by decide) (by decide) rfl rfl (Nat.le_of_ble_eq_true rfl) dX6_leftBy_101 104 rfl (fun v62 u61 h => ?_)
            refine ww_if_eq C 125 dX6_leftBy_104 (by decide) h 107 rfl (fun h => ?_) (fun h => ?_)
            · refine ww_iconst C (-1 : Int32) dX6_leftBy_125 (by decide) 126 rfl ?_
              refine ww_istore C [(7, .int (-1 : Int32)), (0, .ref (ad 0)), (1, .int a1), (2, .int a2), (3, .int a3), (4, .int a4), (5, .int x5), (6, .int x6)] dX6_leftBy_126 (by decide) rfl 128 rfl ?_
              refine ww_aload_n C 1 dX6_leftBy_128 rfl rfl 129 rfl ?_
              refine ww_callVv C (As := []) (st := []) h cl_X6.1 (obM hn) (fun _ _ hF => k_X6_lays hn hF) w_1101 cm_X6_lays (by decide) (by decide) rfl rfl (Nat.le_of_ble_eq_true rfl) dX6_leftBy_129 132 rfl (fun _ u63 h => ?_)
              refine ww_iload C 0 dX6_leftBy_132 rfl 134 rfl ?_
              exact ww_iret C dX6_leftBy_134 hr h
            · refine ww_aload_n C 1 dX6_leftBy_107 rfl rfl 108 rfl ?_
              refine ww_getS C cl_X6 (obM hn) 3 (by decide) rfl 3 rfl w_850 dX6_leftBy_108 111 rfl ?_
              refine ww_iconst C (2 : Int32) dX6_leftBy_111 (by decide) 112 rfl ?_
              refine ww_iload_n C 2 dX6_leftBy_112 rfl rfl 113 rfl ?_
              refine ww_imul C dX6_leftBy_113 114 rfl ?_
              refine ww_iald C (iaM hn 3 12 (by decide) (by decide) rfl) dX6_leftBy_114 h 115 rfl (fun h => ?_)
              refine ww_aload_n C 1 dX6_leftBy_115 rfl rfl 116 rfl ?_
              refine ww_iload_n C 2 dX6_leftBy_116 rfl rfl 117 rfl ?_
              refine ww_iload_n C 3 dX6_leftBy_117 rfl rfl 118 rfl ?_
              refine ww_callVi C (As := [.int a1, .int a2]) (st := [.int (u61.1 3 ((2 : Int32) * a1).toNatClampNeg)]) h cl_X6.1 (obM hn) (fun _ _ hF => k_X6_costsOf hn hF) w_1037 cm_X6_costsOf (by decide) (by decide) rfl rfl (Nat.le_of_ble_eq_true rfl) dX6_leftBy_118 121 rfl (fun v66 u65 h => ?_)
              refine ww_isub C dX6_leftBy_121 122 rfl ?_
              refine ww_goto C 126 dX6_leftBy_122 (by decide) ?_
              refine ww_bi h (fun v67 h => ?_)
              refine ww_istore C [(7, .int v67), (0, .ref (ad 0)), (1, .int a1), (2, .int a2), (3, .int a3), (4, .int a4), (5, .int x5), (6, .int x6)] dX6_leftBy_126 (by decide) rfl 128 rfl ?_
              refine ww_aload_n C 1 dX6_leftBy_128 rfl rfl 129 rfl ?_
              refine ww_callVv C (As := []) (st := []) h cl_X6.1 (obM hn) (fun _ _ hF => k_X6_lays hn hF) w_1101 cm_X6_lays (by decide) (by decide) rfl rfl (Nat.le_of_ble_eq_true rfl) dX6_leftBy_129 132 rfl (fun _ u68 h => ?_)
              refine ww_iload C 0 dX6_leftBy_132 rfl 134 rfl ?_
              exact ww_iret C dX6_leftBy_134 hr h
        · refine ww_iload C 5 dX6_leftBy_25 rfl 27 rfl ?_
          refine ww_bipush C (12 : Int32) dX6_leftBy_27 (by decide) 29 rfl ?_
          refine ww_irem C dX6_leftBy_29 h 30 rfl (fun h => ?_)
          refine ww_iconst C (0 : Int32) dX6_leftBy_30 (by decide) 31 rfl ?_
          refine ww_bipush C (11 : Int32) dX6_leftBy_31 (by decide) 33 rfl ?_
          refine ww_callSi C (As := [.int (x5 - x5 / (12 : Int32) * (12 : Int32)), .int (0 : Int32), .int (11 : Int32)]) (st := []) h (fun _ _ hF => k_X6_within hn hF) w_1010 cm_X6_within (by decide) (by decide) rfl rfl (Nat.le_of_ble_eq_true rfl) dX6_leftBy_33 36 rfl (fun v71 u70 h => ?_)
          refine ww_istore C [(8, .int v71), (0, .ref (ad 0)), (1, .int a1), (2, .int a2), (3, .int a3), (4, .int a4), (5, .int x5), (6, .int x6), (7, .int x7)] dX6_leftBy_36 (by decide) rfl 38 rfl ?_
          refine ww_iload C 6 dX6_leftBy_38 rfl 40 rfl ?_
          refine ww_bipush C (12 : Int32) dX6_leftBy_40 (by decide) 42 rfl ?_
          refine ww_idiv C dX6_leftBy_42 h 43 rfl (fun h => ?_)
          refine ww_bi h (fun v72 h => ?_)
          refine ww_istore C [(5, .int v72), (8, .int v71), (0, .ref (ad 0)), (1, .int a1), (2, .int a2), (3, .int a3), (4, .int a4), (6, .int x6), (7, .int x7)] dX6_leftBy_43 (by decide) rfl 45 rfl ?_
          refine ww_iload C 1 dX6_leftBy_45 rfl 47 rfl ?_
          refine ww_iload_n C 4 dX6_leftBy_47 rfl rfl 48 rfl ?_
          refine ww_icmp_eq C 55 dX6_leftBy_48 (by decide) h 51 rfl (fun h => ?_) (fun h => ?_)
          · refine ww_iconst C (0 : Int32) dX6_leftBy_55 (by decide) 56 rfl ?_
            refine ww_istore C [(6, .int (0 : Int32)), (5, .int v72), (8, .int v71), (0, .ref (ad 0)), (1, .int a1), (2, .int a2), (3, .int a3), (4, .int a4), (7, .int x7)] dX6_leftBy_56 (by decide) rfl 58 rfl ?_
            refine ww_iload C 0 dX6_leftBy_58 rfl 60 rfl ?_
            refine ww_if_eq C 72 dX6_leftBy_60 (by decide) h 63 rfl (fun h => ?_) (fun h => ?_)
            · refine ww_iload C 0 dX6_leftBy_72 rfl 74 rfl ?_
              refine ww_if_eq C 84 dX6_leftBy_74 (by decide) h 77 rfl (fun h => ?_) (fun h => ?_)
              · refine ww_iinc C 8 (1 : Int32) (by decide) (fun v73 => [(7, .int v73), (6, .int (0 : Int32)), (5, .int v72), (8, .int v71), (0, .ref (ad 0)), (1, .int a1), (2, .int a2), (3, .int a3), (4, .int a4)]) dX6_leftBy_84 rfl (by decide) (fun _ => rfl) h 87 rfl (fun v73 h => ?_)
                refine ww_goto C 13 dX6_leftBy_87 (by decide) ?_
                exact ww_sub [4, 5, 6, 7, 8, 2, 1, 0] rfl (ih _ _ _ _ h)
              · refine ww_aload_n C 3 dX6_leftBy_77 rfl rfl 78 rfl ?_
                refine ww_iload_n C 4 dX6_leftBy_78 rfl rfl 79 rfl ?_
                refine ww_iload C 2 dX6_leftBy_79 rfl 81 rfl ?_
                refine ww_callVv C (As := [.int a1, .int v71]) (st := []) h cl_X6.1 (obM hn) (fun _ _ hF => k_X6_diveOf hn hF) w_1053 cm_X6_diveOf (by decide) (by decide) rfl rfl (Nat.le_of_ble_eq_true rfl) dX6_leftBy_81 84 rfl (fun _ u74 h => ?_)
                refine ww_iinc C 8 (1 : Int32) (by decide) (fun v76 => [(7, .int v76), (6, .int (0 : Int32)), (5, .int v72), (8, .int v71), (0, .ref (ad 0)), (1, .int a1), (2, .int a2), (3, .int a3), (4, .int a4)]) dX6_leftBy_84 rfl (by decide) (fun _ => rfl) h 87 rfl (fun v76 h => ?_)
                refine ww_goto C 13 dX6_leftBy_87 (by decide) ?_
                exact ww_sub [4, 5, 6, 7, 8, 2, 1, 0] rfl (ih _ _ _ _ h)
            · refine ww_aload_n C 3 dX6_leftBy_63 rfl rfl 64 rfl ?_
              refine ww_iload_n C 4 dX6_leftBy_64 rfl rfl 65 rfl ?_
              refine ww_iload C 2 dX6_leftBy_65 rfl 67 rfl ?_
              refine ww_callVi C (As := [.int a1, .int v71]) (st := []) h cl_X6.1 (obM hn) (fun _ _ hF => k_X6_can hn hF) w_1029 cm_X6_can (by decide) (by decide) rfl rfl (Nat.le_of_ble_eq_true rfl) dX6_leftBy_67 70 rfl (fun v78 u77 h => ?_)
              refine ww_istore C [(6, .int v78), (5, .int v72), (8, .int v71), (0, .ref (ad 0)), (1, .int a1), (2, .int a2), (3, .int a3), (4, .int a4), (7, .int x7)] dX6_leftBy_70 (by decide) rfl 72 rfl ?_
              refine ww_iload C 0 dX6_leftBy_72 rfl 74 rfl ?_
              refine ww_if_eq C 84 dX6_leftBy_74 (by decide) h 77 rfl (fun h => ?_) (fun h => ?_)
              · refine ww_iinc C 8 (1 : Int32) (by decide) (fun v79 => [(7, .int v79), (6, .int v78), (5, .int v72), (8, .int v71), (0, .ref (ad 0)), (1, .int a1), (2, .int a2), (3, .int a3), (4, .int a4)]) dX6_leftBy_84 rfl (by decide) (fun _ => rfl) h 87 rfl (fun v79 h => ?_)
                refine ww_goto C 13 dX6_leftBy_87 (by decide) ?_
                exact ww_sub [4, 5, 6, 7, 8, 2, 1, 0] rfl (ih _ _ _ _ h)
              · refine ww_aload_n C 3 dX6_leftBy_77 rfl rfl 78 rfl ?_
                refine ww_iload_n C 4 dX6_leftBy_78 rfl rfl 79 rfl ?_
                refine ww_iload C 2 dX6_leftBy_79 rfl 81 rfl ?_
                refine ww_callVv C (As := [.int a1, .int v71]) (st := []) h cl_X6.1 (obM hn) (fun _ _ hF => k_X6_diveOf hn hF) w_1053 cm_X6_diveOf (by decide) (by decide) rfl rfl (Nat.le_of_ble_eq_true rfl) dX6_leftBy_81 84 rfl (fun _ u80 h => ?_)
                refine ww_iinc C 8 (1 : Int32) (by decide) (fun v82 => [(7, .int v82), (6, .int v78), (5, .int v72), (8, .int v71), (0, .ref (ad 0)), (1, .int a1), (2, .int a2), (3, .int a3), (4, .int a4)]) dX6_leftBy_84 rfl (by decide) (fun _ => rfl) h 87 rfl (fun v82 h => ?_)
                refine ww_goto C 13 dX6_leftBy_87 (by decide) ?_
                exact ww_sub [4, 5, 6, 7, 8, 2, 1, 0] rfl (ih _ _ _ _ h)
          · refine ww_iconst C (1 : Int32) dX6_leftBy_51 (by decide) 52 rfl ?_
            refine ww_goto C 56 dX6_leftBy_52 (by decide) ?_
            refine ww_istore C [(6, .int (1 : Int32)), (5, .int v72), (8, .int v71), (0, .ref (ad 0)), (1, .int a1), (2, .int a2), (3, .int a3), (4, .int a4), (7, .int x7)] dX6_leftBy_56 (by decide) rfl 58 rfl ?_
            refine ww_iload C 0 dX6_leftBy_58 rfl 60 rfl ?_
            refine ww_if_eq C 72 dX6_leftBy_60 (by decide) h 63 rfl (fun h => ?_) (fun h => ?_)
            · refine ww_iload C 0 dX6_leftBy_72 rfl 74 rfl ?_
              refine ww_if_eq C 84 dX6_leftBy_74 (by decide) h 77 rfl (fun h => ?_) (fun h => ?_)
              · refine ww_iinc C 8 (1 : Int32) (by decide) (fun v83 => [(7, .int v83), (6, .int (1 : Int32)), (5, .int v72), (8, .int v71), (0, .ref (ad 0)), (1, .int a1), (2, .int a2), (3, .int a3), (4, .int a4)]) dX6_leftBy_84 rfl (by decide) (fun _ => rfl) h 87 rfl (fun v83 h => ?_)
                refine ww_goto C 13 dX6_leftBy_87 (by decide) ?_
                exact ww_sub [4, 5, 6, 7, 8, 2, 1, 0] rfl (ih _ _ _ _ h)
              · refine ww_aload_n C 3 dX6_leftBy_77 rfl rfl 78 rfl ?_
                refine ww_iload_n C 4 dX6_leftBy_78 rfl rfl 79 rfl ?_
                refine ww_iload C 2 dX6_leftBy_79 rfl 81 rfl ?_
                refine ww_callVv C (As := [.int a1, .int v71]) (st := []) h cl_X6.1 (obM hn) (fun _ _ hF => k_X6_diveOf hn hF) w_1053 cm_X6_diveOf (by decide) (by decide) rfl rfl (Nat.le_of_ble_eq_true rfl) dX6_leftBy_81 84 rfl (fun _ u84 h => ?_)
                refine ww_iinc C 8 (1 : Int32) (by decide) (fun v86 => [(7, .int v86), (6, .int (1 : Int32)), (5, .int v72), (8, .int v71), (0, .ref (ad 0)), (1, .int a1), (2, .int a2), (3, .int a3), (4, .int a4)]) dX6_leftBy_84 rfl (by decide) (fun _ => rfl) h 87 rfl (fun v86 h => ?_)
                refine ww_goto C 13 dX6_leftBy_87 (by decide) ?_
                exact ww_sub [4, 5, 6, 7, 8, 2, 1, 0] rfl (ih _ _ _ _ h)
            · refine ww_aload_n C 3 dX6_leftBy_63 rfl rfl 64 rfl ?_
              refine ww_iload_n C 4 dX6_leftBy_64 rfl rfl 65 rfl ?_
              refine ww_iload C 2 dX6_leftBy_65 rfl 67 rfl ?_
              refine ww_callVi C (As := [.int a1, .int v71]) (st := []) h cl_X6.1 (obM hn) (fun _ _ hF => k_X6_can hn hF) w_1029 cm_X6_can (by decide) (by decide) rfl rfl (Nat.le_of_ble_eq_true rfl) dX6_leftBy_67 70 rfl (fun v88 u87 h => ?_)
              refine ww_istore C [(6, .int v88), (5, .int v72), (8, .int v71), (0, .ref (ad 0)), (1, .int a1), (2, .int a2), (3, .int a3), (4, .int a4), (7, .int x7)] dX6_leftBy_70 (by decide) rfl 72 rfl ?_
              refine ww_iload C 0 dX6_leftBy_72 rfl 74 rfl ?_
              refine ww_if_eq C 84 dX6_leftBy_74 (by decide) h 77 rfl (fun h => ?_) (fun h => ?_)
              · refine ww_iinc C 8 (1 : Int32) (by decide) (fun v89 => [(7, .int v89), (6, .int v88), (5, .int v72), (8, .int v71), (0, .ref (ad 0)), (1, .int a1), (2, .int a2), (3, .int a3), (4, .int a4)]) dX6_leftBy_84 rfl (by decide) (fun _ => rfl) h 87 rfl (fun v89 h => ?_)
                refine ww_goto C 13 dX6_leftBy_87 (by decide) ?_
                exact ww_sub [4, 5, 6, 7, 8, 2, 1, 0] rfl (ih _ _ _ _ h)
              · refine ww_aload_n C 3 dX6_leftBy_77 rfl rfl 78 rfl ?_
                refine ww_iload_n C 4 dX6_leftBy_78 rfl rfl 79 rfl ?_
                refine ww_iload C 2 dX6_leftBy_79 rfl 81 rfl ?_
                refine ww_callVv C (As := [.int a1, .int v71]) (st := []) h cl_X6.1 (obM hn) (fun _ _ hF => k_X6_diveOf hn hF) w_1053 cm_X6_diveOf (by decide) (by decide) rfl rfl (Nat.le_of_ble_eq_true rfl) dX6_leftBy_81 84 rfl (fun _ u90 h => ?_)
                refine ww_iinc C 8 (1 : Int32) (by decide) (fun v92 => [(7, .int v92), (6, .int v88), (5, .int v72), (8, .int v71), (0, .ref (ad 0)), (1, .int a1), (2, .int a2), (3, .int a3), (4, .int a4)]) dX6_leftBy_84 rfl (by decide) (fun _ => rfl) h 87 rfl (fun v92 h => ?_)
                refine ww_goto C 13 dX6_leftBy_87 (by decide) ?_
                exact ww_sub [4, 5, 6, 7, 8, 2, 1, 0] rfl (ih _ _ _ _ h)
  rw [X6_leftBy] at h
  refine ww_iload_n C 3 dX6_leftBy_0 rfl rfl 1 rfl ?_
  refine ww_istore C [(5, .int a3), (0, .ref (ad 0)), (1, .int a1), (2, .int a2), (3, .int a3), (4, .int a4)] dX6_leftBy_1 (by decide) rfl 3 rfl ?_
  refine ww_iconst C (1 : Int32) dX6_leftBy_3 (by decide) 4 rfl ?_
  refine ww_istore C [(6, .int (1 : Int32)), (5, .int a3), (0, .ref (ad 0)), (1, .int a1), (2, .int a2), (3, .int a3), (4, .int a4)] dX6_leftBy_4 (by decide) rfl 6 rfl ?_
  refine ww_aload_n C 2 dX6_leftBy_6 rfl rfl 7 rfl ?_
  refine ww_callVv C (As := []) (st := []) h cl_X6.1 (obM hn) (fun _ _ hF => k_X6_keeps hn hF) w_1093 cm_X6_keeps (by decide) (by decide) rfl rfl (Nat.le_of_ble_eq_true rfl) dX6_leftBy_7 10 rfl (fun _ u93 h => ?_)
  refine ww_iconst C (0 : Int32) dX6_leftBy_10 (by decide) 11 rfl ?_
  refine ww_istore C [(7, .int (0 : Int32)), (6, .int (1 : Int32)), (5, .int a3), (0, .ref (ad 0)), (1, .int a1), (2, .int a2), (3, .int a3), (4, .int a4)] dX6_leftBy_11 (by decide) rfl 13 rfl ?_
  exact ww_sub [3, 4, 5, 6, 7, 2, 1, 0] rfl (L13h N _ _ _ _ h)

set_option maxRecDepth 100000 in
set_option maxHeartbeats 4000000 in
theorem k_X6_last {l : Launch} {D : va_G} {ad : Nat → Nat} {cA : Nat → ClassId} {tys : List (ClassId × FieldType)} {n : Nat} {sa : Nat → Nat} (hn : 20 ≤ n) {N : Nat} {g : Mem} {a1 : Int32} {a2 : Int32} {a3 : Int32} {r : Int32} {g1 : Mem} (h : X6_last N a1 a2 a3 g = some (r, g1)) : CTi l yX6_last (wsm yX6_last cX6_last 8 (some .int)) 7 D YM ad cA tys n sa g [.ref (ad 0), .int a1, .int a2, .int a3] r g1 := by
  refine ct_of RX6 rfl (by decide +kernel) (Nat.le_of_ble_eq_true rfl) rfl (fun sz => PBi D YM ad cA n r g1 sz) ?_
  intro p e R s m args below meth c C hr
  have L64h : ∀ (fu : Nat), (∀ (x4 : Int32) (x5 : Int32) (x6 : Int32) (g : Mem), X6_last_L64 N a1 a2 a3 fu x4 x5 x6 g = some (r, g1) → WW p l e R s m args below meth c 8 D YM ad cA n (MQ below (PBi D YM ad cA n r g1 s.heap.size) args s 0 0 (AA n ad s.heap.size)) g 64 [(0, .ref (ad 0)), (1, .int a1), (2, .int a2), (3, .int a3), (4, .int x4), (5, .int x5), (6, .int x6)] []) := by
    intro fu
    induction fu with
    | zero => intro x4 x5 x6 g h; cases h
    | succ fu ih =>
      intro x4 x5 x6 g h
      rw [X6_last_L64] at h
      refine ww_iload C 6 dX6_last_64 rfl 66 rfl ?_
      refine ww_iload C 4 dX6_last_66 rfl 68 rfl ?_
      refine ww_icmp_ge C 104 dX6_last_68 (by decide) h 71 rfl (fun h => ?_) (fun h => ?_)
      · refine ww_iload C 5 dX6_last_104 rfl 106 rfl ?_
        exact ww_iret C dX6_last_106 hr h
      · refine ww_aload_n C 0 dX6_last_71 rfl rfl 72 rfl ?_
        refine ww_iload_n C 1 dX6_last_72 rfl rfl 73 rfl ?_
        refine ww_iload_n C 2 dX6_last_73 rfl rfl 74 rfl ?_
        refine ww_iload C 6 dX6_last_74 rfl 76 rfl ?_
        refine ww_iload_n C 3 dX6_last_76 rfl rfl 77 rfl ?_
        refine ww_callVi C (As := [.int a1, .int a2, .int x6, .int a3]) (st := []) h cl_X6.1 (obM hn) (fun _ _ hF => k_X6_leftBy hn hF) w_1141 cm_X6_leftBy (by decide) (by decide) rfl rfl (Nat.le_of_ble_eq_true rfl) dX6_last_77 80 rfl (fun v14 u13 h => ?_)
        refine ww_istore C [(7, .int v14), (0, .ref (ad 0)), (1, .int a1), (2, .int a2), (3, .int a3), (4, .int x4), (5, .int x5), (6, .int x6)] dX6_last_80 (by decide) rfl 82 rfl ?_
        refine ww_iload C 0 dX6_last_82 rfl 84 rfl ?_
        refine ww_iload C 6 dX6_last_84 rfl 86 rfl ?_
        refine ww_icmp_le C 94 dX6_last_86 (by decide) h 89 rfl (fun h => ?_) (fun h => ?_)
        · refine ww_iload C 6 dX6_last_94 rfl 96 rfl ?_
          refine ww_istore C [(5, .int x5), (7, .int v14), (0, .ref (ad 0)), (1, .int a1), (2, .int a2), (3, .int a3), (4, .int x4), (6, .int x6)] dX6_last_96 (by decide) rfl 98 rfl ?_
          refine ww_iinc C 7 (1 : Int32) (by decide) (fun v15 => [(6, .int v15), (5, .int x5), (7, .int v14), (0, .ref (ad 0)), (1, .int a1), (2, .int a2), (3, .int a3), (4, .int x4)]) dX6_last_98 rfl (by decide) (fun _ => rfl) h 101 rfl (fun v15 h => ?_)
          refine ww_goto C 64 dX6_last_101 (by decide) ?_
          exact ww_sub [3, 4, 5, 6, 7, 1, 0] rfl (ih _ _ _ _ h)
        · refine ww_iload C 0 dX6_last_89 rfl 91 rfl ?_
          refine ww_goto C 96 dX6_last_91 (by decide) ?_
          refine ww_istore C [(5, .int v14), (7, .int v14), (0, .ref (ad 0)), (1, .int a1), (2, .int a2), (3, .int a3), (4, .int x4), (6, .int x6)] dX6_last_96 (by decide) rfl 98 rfl ?_
          refine ww_iinc C 7 (1 : Int32) (by decide) (fun v16 => [(6, .int v16), (5, .int v14), (7, .int v14), (0, .ref (ad 0)), (1, .int a1), (2, .int a2), (3, .int a3), (4, .int x4)]) dX6_last_98 rfl (by decide) (fun _ => rfl) h 101 rfl (fun v16 h => ?_)
          refine ww_goto C 64 dX6_last_101 (by decide) ?_
          exact ww_sub [3, 4, 5, 6, 7, 1, 0] rfl (ih _ _ _ _ h)
  have L39h : ∀ (fu : Nat), (∀ (x4 : Int32) (x5 : Int32) (g : Mem), X6_last_L39 N a1 a2 a3 fu x4 x5 g = some (r, g1) → WW p l e R s m args below meth c 8 D YM ad cA n (MQ below (PBi D YM ad cA n r g1 s.heap.size) args s 0 0 (AA n ad s.heap.size)) g 39 [(0, .ref (ad 0)), (1, .int a1), (2, .int a2), (3, .int a3), (4, .int x4), (5, .int x5)] []) := by
    intro fu
    induction fu with
    | zero => intro x4 x5 g h; cases h
    | succ fu ih =>
      intro x4 x5 g h
      rw [X6_last_L39] at h
      refine ww_iload C 5 dX6_last_39 rfl 41 rfl ?_
      refine ww_iload_n C 3 dX6_last_41 rfl rfl 42 rfl ?_
      refine ww_icmp_ge C 58 dX6_last_42 (by decide) h 45 rfl (fun h => ?_) (fun h => ?_)
      · refine ww_iconst C (-1 : Int32) dX6_last_58 (by decide) 59 rfl ?_
        refine ww_istore C [(5, .int (-1 : Int32)), (0, .ref (ad 0)), (1, .int a1), (2, .int a2), (3, .int a3), (4, .int x4)] dX6_last_59 (by decide) rfl 61 rfl ?_
        refine ww_iconst C (0 : Int32) dX6_last_61 (by decide) 62 rfl ?_
        refine ww_istore C [(6, .int (0 : Int32)), (5, .int (-1 : Int32)), (0, .ref (ad 0)), (1, .int a1), (2, .int a2), (3, .int a3), (4, .int x4)] dX6_last_62 (by decide) rfl 64 rfl ?_
        exact ww_sub [2, 3, 4, 5, 6, 1, 0] rfl (L64h N _ _ _ _ h)
      · refine ww_iload C 4 dX6_last_45 rfl 47 rfl ?_
        refine ww_bipush C (12 : Int32) dX6_last_47 (by decide) 49 rfl ?_
        refine ww_imul C dX6_last_49 50 rfl ?_
        refine ww_bi h (fun v17 h => ?_)
        refine ww_istore C [(4, .int v17), (0, .ref (ad 0)), (1, .int a1), (2, .int a2), (3, .int a3), (5, .int x5)] dX6_last_50 (by decide) rfl 52 rfl ?_
        refine ww_iinc C 5 (1 : Int32) (by decide) (fun v18 => [(5, .int v18), (4, .int v17), (0, .ref (ad 0)), (1, .int a1), (2, .int a2), (3, .int a3)]) dX6_last_52 rfl (by decide) (fun _ => rfl) h 55 rfl (fun v18 h => ?_)
        refine ww_goto C 39 dX6_last_55 (by decide) ?_
        exact ww_sub [2, 3, 4, 5, 1, 0] rfl (ih _ _ _ h)
  rw [X6_last] at h
  refine ww_aload_n C 0 dX6_last_0 rfl rfl 1 rfl ?_
  refine ww_iload_n C 1 dX6_last_1 rfl rfl 2 rfl ?_
  refine ww_callVi C (As := [.int a1]) (st := []) h cl_X6.1 (obM hn) (fun _ _ hF => k_X6_isOne hn hF) w_995 cm_X6_isOne (by decide) (by decide) rfl rfl (Nat.le_of_ble_eq_true rfl) dX6_last_2 5 rfl (fun v20 u19 h => ?_)
  refine ww_if_ne C 11 dX6_last_5 (by decide) h 8 rfl (fun h => ?_) (fun h => ?_)
  · refine ww_iload_n C 2 dX6_last_11 rfl rfl 12 rfl ?_
    refine ww_callSi C (As := [.int a2]) (st := []) h (fun _ _ hF => k_X6_isCask hn hF) w_965 cm_X6_isCask (by decide) (by decide) rfl rfl (Nat.le_of_ble_eq_true rfl) dX6_last_12 15 rfl (fun v22 u21 h => ?_)
    refine ww_if_ne C 21 dX6_last_15 (by decide) h 18 rfl (fun h => ?_) (fun h => ?_)
    · refine ww_iload_n C 3 dX6_last_21 rfl rfl 22 rfl ?_
      refine ww_iconst C (0 : Int32) dX6_last_22 (by decide) 23 rfl ?_
      refine ww_iconst C (3 : Int32) dX6_last_23 (by decide) 24 rfl ?_
      refine ww_callSi C (As := [.int a3, .int (0 : Int32), .int (3 : Int32)]) (st := []) h (fun _ _ hF => k_X6_in hn hF) w_808 cm_X6_in (by decide) (by decide) rfl rfl (Nat.le_of_ble_eq_true rfl) dX6_last_24 27 rfl (fun v24 u23 h => ?_)
      refine ww_if_ne C 33 dX6_last_27 (by decide) h 30 rfl (fun h => ?_) (fun h => ?_)
      · refine ww_iconst C (1 : Int32) dX6_last_33 (by decide) 34 rfl ?_
        refine ww_istore C [(4, .int (1 : Int32)), (0, .ref (ad 0)), (1, .int a1), (2, .int a2), (3, .int a3)] dX6_last_34 (by decide) rfl 36 rfl ?_
        refine ww_iconst C (0 : Int32) dX6_last_36 (by decide) 37 rfl ?_
        refine ww_istore C [(5, .int (0 : Int32)), (4, .int (1 : Int32)), (0, .ref (ad 0)), (1, .int a1), (2, .int a2), (3, .int a3)] dX6_last_37 (by decide) rfl 39 rfl ?_
        exact ww_sub [2, 3, 4, 5, 1, 0] rfl (L39h N _ _ _ h)
      · refine ww_bipush C (-7 : Int32) dX6_last_30 (by decide) 32 rfl ?_
        exact ww_iret C dX6_last_32 hr h
    · refine ww_bipush C (-6 : Int32) dX6_last_18 (by decide) 20 rfl ?_
      exact ww_iret C dX6_last_20 hr h
  · refine ww_bipush C (-5 : Int32) dX6_last_8 (by decide) 10 rfl ?_
    exact ww_iret C dX6_last_10 hr h

set_option maxRecDepth 100000 in
set_option maxHeartbeats 4000000 in
theorem k_X6_best {l : Launch} {D : va_G} {ad : Nat → Nat} {cA : Nat → ClassId} {tys : List (ClassId × FieldType)} {n : Nat} {sa : Nat → Nat} (hn : 20 ≤ n) {N : Nat} {g : Mem} {a1 : Int32} {r : Int32} {g1 : Mem} (h : X6_best N a1 g = some (r, g1)) : CTi l yX6_best (wsm yX6_best cX6_best 6 (some .int)) 7 D YM ad cA tys n sa g [.ref (ad 0), .int a1] r g1 := by
  refine ct_of RX6 rfl (by decide +kernel) (Nat.le_of_ble_eq_true rfl) rfl (fun sz => PBi D YM ad cA n r g1 sz) ?_
  intro p e R s m args below meth c C hr
  have L19h : ∀ (fu : Nat), (∀ (x2 : Int32) (x3 : Int32) (x4 : Int32) (g : Mem), X6_best_L19 N a1 fu x2 x3 x4 g = some (r, g1) → WW p l e R s m args below meth c 6 D YM ad cA n (MQ below (PBi D YM ad cA n r g1 s.heap.size) args s 0 0 (AA n ad s.heap.size)) g 19 [(0, .ref (ad 0)), (1, .int a1), (2, .int x2), (3, .int x3), (4, .int x4)] []) := by
    intro fu
    induction fu with
    | zero => intro x2 x3 x4 g h; cases h
    | succ fu ih =>
      intro x2 x3 x4 g h
      rw [X6_best_L19] at h
      refine ww_iload C 4 dX6_best_19 rfl 21 rfl ?_
      refine ww_aload_n C 0 dX6_best_21 rfl rfl 22 rfl ?_
      refine ww_getI C cl_X6 (obM hn) 0 (by decide) rfl w_847 dX6_best_22 25 rfl ?_
      refine ww_icmp_ge C 71 dX6_best_25 (by decide) h 28 rfl (fun h => ?_) (fun h => ?_)
      · refine ww_iload_n C 1 dX6_best_71 rfl rfl 72 rfl ?_
        refine ww_if_ne C 79 dX6_best_72 (by decide) h 75 rfl (fun h => ?_) (fun h => ?_)
        · refine ww_iload_n C 3 dX6_best_79 rfl rfl 80 rfl ?_
          exact ww_iret C dX6_best_80 hr h
        · refine ww_iload_n C 2 dX6_best_75 rfl rfl 76 rfl ?_
          refine ww_goto C 80 dX6_best_76 (by decide) ?_
          exact ww_iret C dX6_best_80 hr h
      · refine ww_aload_n C 0 dX6_best_28 rfl rfl 29 rfl ?_
        refine ww_iload C 4 dX6_best_29 rfl 31 rfl ?_
        refine ww_callVi C (As := [.int x4]) (st := []) h cl_X6.1 (obM hn) (fun _ _ hF => k_X6_canSet hn hF) w_1025 cm_X6_canSet (by decide) (by decide) rfl rfl (Nat.le_of_ble_eq_true rfl) dX6_best_31 34 rfl (fun v12 u11 h => ?_)
        refine ww_callSi C (As := [.int v12]) (st := []) h (fun _ _ hF => k_X6_onesOf hn hF) w_958 cm_X6_onesOf (by decide) (by decide) rfl rfl (Nat.le_of_ble_eq_true rfl) dX6_best_34 37 rfl (fun v14 u13 h => ?_)
        refine ww_istore C [(5, .int v14), (0, .ref (ad 0)), (1, .int a1), (2, .int x2), (3, .int x3), (4, .int x4)] dX6_best_37 (by decide) rfl 39 rfl ?_
        refine ww_iload C 0 dX6_best_39 rfl 41 rfl ?_
        refine ww_iload_n C 4 dX6_best_41 rfl rfl 42 rfl ?_
        refine ww_icmp_le C 50 dX6_best_42 (by decide) h 45 rfl (fun h => ?_) (fun h => ?_)
        · refine ww_iload_n C 3 dX6_best_50 rfl rfl 51 rfl ?_
          refine ww_istore_n C [(2, .int x2), (5, .int v14), (0, .ref (ad 0)), (1, .int a1), (3, .int x3), (4, .int x4)] dX6_best_51 rfl (by decide) rfl 52 rfl ?_
          refine ww_iload C 1 dX6_best_52 rfl 54 rfl ?_
          refine ww_iload_n C 4 dX6_best_54 rfl rfl 55 rfl ?_
          refine ww_icmp_le C 63 dX6_best_55 (by decide) h 58 rfl (fun h => ?_) (fun h => ?_)
          · refine ww_iload_n C 4 dX6_best_63 rfl rfl 64 rfl ?_
            refine ww_istore_n C [(3, .int x3), (2, .int x2), (5, .int v14), (0, .ref (ad 0)), (1, .int a1), (4, .int x4)] dX6_best_64 rfl (by decide) rfl 65 rfl ?_
            refine ww_iinc C 5 (1 : Int32) (by decide) (fun v15 => [(4, .int v15), (3, .int x3), (2, .int x2), (5, .int v14), (0, .ref (ad 0)), (1, .int a1)]) dX6_best_65 rfl (by decide) (fun _ => rfl) h 68 rfl (fun v15 h => ?_)
            refine ww_goto C 19 dX6_best_68 (by decide) ?_
            exact ww_sub [4, 5, 2, 1, 0] rfl (ih _ _ _ _ h)
          · refine ww_iload C 1 dX6_best_58 rfl 60 rfl ?_
            refine ww_goto C 64 dX6_best_60 (by decide) ?_
            refine ww_istore_n C [(3, .int v14), (2, .int x2), (5, .int v14), (0, .ref (ad 0)), (1, .int a1), (4, .int x4)] dX6_best_64 rfl (by decide) rfl 65 rfl ?_
            refine ww_iinc C 5 (1 : Int32) (by decide) (fun v16 => [(4, .int v16), (3, .int v14), (2, .int x2), (5, .int v14), (0, .ref (ad 0)), (1, .int a1)]) dX6_best_65 rfl (by decide) (fun _ => rfl) h 68 rfl (fun v16 h => ?_)
            refine ww_goto C 19 dX6_best_68 (by decide) ?_
            exact ww_sub [4, 5, 2, 1, 0] rfl (ih _ _ _ _ h)
        · refine ww_iload C 5 dX6_best_45 rfl 47 rfl ?_
          refine ww_goto C 51 dX6_best_47 (by decide) ?_
          refine ww_istore_n C [(2, .int x4), (5, .int v14), (0, .ref (ad 0)), (1, .int a1), (3, .int x3), (4, .int x4)] dX6_best_51 rfl (by decide) rfl 52 rfl ?_
          refine ww_iload C 1 dX6_best_52 rfl 54 rfl ?_
          refine ww_iload_n C 4 dX6_best_54 rfl rfl 55 rfl ?_
          refine ww_icmp_le C 63 dX6_best_55 (by decide) h 58 rfl (fun h => ?_) (fun h => ?_)
          · refine ww_iload_n C 4 dX6_best_63 rfl rfl 64 rfl ?_
            refine ww_istore_n C [(3, .int x3), (2, .int x4), (5, .int v14), (0, .ref (ad 0)), (1, .int a1), (4, .int x4)] dX6_best_64 rfl (by decide) rfl 65 rfl ?_
            refine ww_iinc C 5 (1 : Int32) (by decide) (fun v17 => [(4, .int v17), (3, .int x3), (2, .int x4), (5, .int v14), (0, .ref (ad 0)), (1, .int a1)]) dX6_best_65 rfl (by decide) (fun _ => rfl) h 68 rfl (fun v17 h => ?_)
            refine ww_goto C 19 dX6_best_68 (by decide) ?_
            exact ww_sub [4, 5, 2, 1, 0] rfl (ih _ _ _ _ h)
          · refine ww_iload C 1 dX6_best_58 rfl 60 rfl ?_
            refine ww_goto C 64 dX6_best_60 (by decide) ?_
            refine ww_istore_n C [(3, .int v14), (2, .int x4), (5, .int v14), (0, .ref (ad 0)), (1, .int a1), (4, .int x4)] dX6_best_64 rfl (by decide) rfl 65 rfl ?_
            refine ww_iinc C 5 (1 : Int32) (by decide) (fun v18 => [(4, .int v18), (3, .int v14), (2, .int x4), (5, .int v14), (0, .ref (ad 0)), (1, .int a1)]) dX6_best_65 rfl (by decide) (fun _ => rfl) h 68 rfl (fun v18 h => ?_)
            refine ww_goto C 19 dX6_best_68 (by decide) ?_
            exact ww_sub [4, 5, 2, 1, 0] rfl (ih _ _ _ _ h)
  rw [X6_best] at h
  refine ww_iload_n C 1 dX6_best_0 rfl rfl 1 rfl ?_
  refine ww_iconst C (0 : Int32) dX6_best_1 (by decide) 2 rfl ?_
  refine ww_iconst C (1 : Int32) dX6_best_2 (by decide) 3 rfl ?_
  refine ww_callSi C (As := [.int a1, .int (0 : Int32), .int (1 : Int32)]) (st := []) h (fun _ _ hF => k_X6_in hn hF) w_808 cm_X6_in (by decide) (by decide) rfl rfl (Nat.le_of_ble_eq_true rfl) dX6_best_3 6 rfl (fun v20 u19 h => ?_)
  refine ww_if_ne C 12 dX6_best_6 (by decide) h 9 rfl (fun h => ?_) (fun h => ?_)
  · refine ww_iconst C (-1 : Int32) dX6_best_12 (by decide) 13 rfl ?_
    refine ww_istore_n C [(2, .int (-1 : Int32)), (0, .ref (ad 0)), (1, .int a1)] dX6_best_13 rfl (by decide) rfl 14 rfl ?_
    refine ww_iconst C (0 : Int32) dX6_best_14 (by decide) 15 rfl ?_
    refine ww_istore_n C [(3, .int (0 : Int32)), (2, .int (-1 : Int32)), (0, .ref (ad 0)), (1, .int a1)] dX6_best_15 rfl (by decide) rfl 16 rfl ?_
    refine ww_iconst C (0 : Int32) dX6_best_16 (by decide) 17 rfl ?_
    refine ww_istore C [(4, .int (0 : Int32)), (3, .int (0 : Int32)), (2, .int (-1 : Int32)), (0, .ref (ad 0)), (1, .int a1)] dX6_best_17 (by decide) rfl 19 rfl ?_
    exact ww_sub [3, 4, 2, 1, 0] rfl (L19h N _ _ _ _ h)
  · refine ww_bipush C (-2 : Int32) dX6_best_9 (by decide) 11 rfl ?_
    exact ww_iret C dX6_best_11 hr h

set_option maxRecDepth 100000 in
set_option maxHeartbeats 4000000 in
theorem k_X6_lowest {l : Launch} {D : va_G} {ad : Nat → Nat} {cA : Nat → ClassId} {tys : List (ClassId × FieldType)} {n : Nat} {sa : Nat → Nat} (hn : 20 ≤ n) {N : Nat} {g : Mem} {a1 : Int64} {a2 : Int64} {a3 : Int32} {r : Int64} {g1 : Mem} (h : X6_lowest N a1 a2 a3 g = some (r, g1)) : CTl l yX6_lowest (wsm yX6_lowest cX6_lowest 11 (some .long)) 1 D YM ad cA tys n sa g [.long a1, .long a2, .int a3] r g1 := by
  refine ct_of RX6 rfl (by decide +kernel) (Nat.le_of_ble_eq_true rfl) rfl (fun sz => PBl D YM ad cA n r g1 sz) ?_
  intro p e R s m args below meth c C hr
  have L16h : ∀ (fu : Nat), (∀ (x5l : Int64) (x7l : Int64) (g : Mem), X6_lowest_L16 N a1 a2 a3 fu x5l x7l g = some (r, g1) → WW p l e R s m args below meth c 11 D YM ad cA n (MQ below (PBl D YM ad cA n r g1 s.heap.size) args s 0 0 (AA n ad s.heap.size)) g 16 [(0, .long a1), (2, .long a2), (4, .int a3), (5, .long x5l), (7, .long x7l)] []) := by
    intro fu
    induction fu with
    | zero => intro x5l x7l g h; cases h
    | succ fu ih =>
      intro x5l x7l g h
      rw [X6_lowest_L16] at h
      refine ww_lload C 4 dX6_lowest_16 rfl 18 rfl ?_
      refine ww_lconst C (0 : Int64) dX6_lowest_18 (by decide) 19 rfl ?_
      refine ww_lcmp C dX6_lowest_19 20 rfl ?_
      refine ww_if_eq C 41 dX6_lowest_20 (by decide) h 23 rfl (fun h => ?_) (fun h => ?_)
      · refine ww_iload C 2 dX6_lowest_41 rfl 43 rfl ?_
        refine ww_if_ne C 50 dX6_lowest_43 (by decide) h 46 rfl (fun h => ?_) (fun h => ?_)
        · refine ww_lload_n C 1 dX6_lowest_50 rfl rfl 51 rfl ?_
          refine ww_lload C 3 dX6_lowest_51 rfl 53 rfl ?_
          refine ww_ldiv C dX6_lowest_53 h 54 rfl (fun h => ?_)
          exact ww_lret C dX6_lowest_54 hr h
        · refine ww_lload_n C 0 dX6_lowest_46 rfl rfl 47 rfl ?_
          refine ww_goto C 51 dX6_lowest_47 (by decide) ?_
          refine ww_lload C 3 dX6_lowest_51 rfl 53 rfl ?_
          refine ww_ldiv C dX6_lowest_53 h 54 rfl (fun h => ?_)
          exact ww_lret C dX6_lowest_54 hr h
      · refine ww_lload C 3 dX6_lowest_23 rfl 25 rfl ?_
        refine ww_lload C 4 dX6_lowest_25 rfl 27 rfl ?_
        refine ww_lrem C dX6_lowest_27 h 28 rfl (fun h => ?_)
        refine ww_bl h (fun v2 h => ?_)
        refine ww_lstore C [(9, .long v2), (0, .long a1), (2, .long a2), (4, .int a3), (5, .long x5l), (7, .long x7l)] dX6_lowest_28 (by decide) rfl 30 rfl ?_
        refine ww_lload C 5 dX6_lowest_30 rfl 32 rfl ?_
        refine ww_lstore C [(5, .long x7l), (9, .long v2), (0, .long a1), (2, .long a2), (4, .int a3), (7, .long x7l)] dX6_lowest_32 (by decide) rfl 34 rfl ?_
        refine ww_lload C 1 dX6_lowest_34 rfl 36 rfl ?_
        refine ww_lstore C [(7, .long v2), (5, .long x7l), (9, .long v2), (0, .long a1), (2, .long a2), (4, .int a3)] dX6_lowest_36 (by decide) rfl 38 rfl ?_
        refine ww_goto C 16 dX6_lowest_38 (by decide) ?_
        exact ww_sub [3, 4, 5, 1, 0] rfl (ih _ _ _ h)
  rw [X6_lowest] at h
  refine ww_lload_n C 0 dX6_lowest_0 rfl rfl 1 rfl ?_
  refine ww_lconst C (0 : Int64) dX6_lowest_1 (by decide) 2 rfl ?_
  refine ww_lcmp C dX6_lowest_2 3 rfl ?_
  refine ww_if_ne C 10 dX6_lowest_3 (by decide) h 6 rfl (fun h => ?_) (fun h => ?_)
  · refine ww_lload_n C 0 dX6_lowest_10 rfl rfl 11 rfl ?_
    refine ww_lstore C [(5, .long a1), (0, .long a1), (2, .long a2), (4, .int a3)] dX6_lowest_11 (by decide) rfl 13 rfl ?_
    refine ww_lload_n C 2 dX6_lowest_13 rfl rfl 14 rfl ?_
    refine ww_lstore C [(7, .long a2), (5, .long a1), (0, .long a1), (2, .long a2), (4, .int a3)] dX6_lowest_14 (by decide) rfl 16 rfl ?_
    exact ww_sub [2, 3, 4, 1, 0] rfl (L16h N _ _ _ h)
  · refine ww_iload C 2 dX6_lowest_6 rfl 8 rfl ?_
    refine ww_i2l C dX6_lowest_8 9 rfl ?_
    exact ww_lret C dX6_lowest_9 hr h

set_option maxRecDepth 100000 in
set_option maxHeartbeats 4000000 in
theorem k_X6_share {l : Launch} {D : va_G} {ad : Nat → Nat} {cA : Nat → ClassId} {tys : List (ClassId × FieldType)} {n : Nat} {sa : Nat → Nat} (hn : 20 ≤ n) {N : Nat} {g : Mem} {a1 : Int32} {a2 : Int32} {r : Int64} {g1 : Mem} (h : X6_share N a1 a2 g = some (r, g1)) : CTl l yX6_share (wsm yX6_share cX6_share 5 (some .long)) 3 D YM ad cA tys n sa g [.ref (ad 0), .int a1, .int a2] r g1 := by
  refine ct_of RX6 rfl (by decide +kernel) (Nat.le_of_ble_eq_true rfl) rfl (fun sz => PBl D YM ad cA n r g1 sz) ?_
  intro p e R s m args below meth c C hr
  have L5h : ∀ (fu : Nat), (∀ (x3 : Int32) (x4 : Int32) (g : Mem), X6_share_L5 N a1 a2 fu x3 x4 g = some (r, g1) → WW p l e R s m args below meth c 5 D YM ad cA n (MQ below (PBl D YM ad cA n r g1 s.heap.size) args s 0 0 (AA n ad s.heap.size)) g 5 [(0, .ref (ad 0)), (1, .int a1), (2, .int a2), (3, .int x3), (4, .int x4)] []) := by
    intro fu
    induction fu with
    | zero => intro x3 x4 g h; cases h
    | succ fu ih =>
      intro x3 x4 g h
      rw [X6_share_L5] at h
      refine ww_iload C 4 dX6_share_5 rfl 7 rfl ?_
      refine ww_bipush C (6 : Int32) dX6_share_7 (by decide) 9 rfl ?_
      refine ww_icmp_ge C 28 dX6_share_9 (by decide) h 12 rfl (fun h => ?_) (fun h => ?_)
      · refine ww_iload_n C 1 dX6_share_28 rfl rfl 29 rfl ?_
        refine ww_callSi C (As := [.int a1]) (st := []) h (fun _ _ hF => k_X6_isSky hn hF) w_992 cm_X6_isSky (by decide) (by decide) rfl rfl (Nat.le_of_ble_eq_true rfl) dX6_share_29 32 rfl (fun v10 u9 h => ?_)
        refine ww_if_eq C 64 dX6_share_32 (by decide) h 35 rfl (fun h => ?_) (fun h => ?_)
        · refine ww_ldc2 C (-4611686018427387904 : Int64) w_1156 dX6_share_64 67 rfl ?_
          exact ww_lret C dX6_share_67 hr h
        · refine ww_iload_n C 2 dX6_share_35 rfl rfl 36 rfl ?_
          refine ww_iconst C (0 : Int32) dX6_share_36 (by decide) 37 rfl ?_
          refine ww_iconst C (1 : Int32) dX6_share_37 (by decide) 38 rfl ?_
          refine ww_callSi C (As := [.int a2, .int (0 : Int32), .int (1 : Int32)]) (st := []) h (fun _ _ hF => k_X6_in hn hF) w_808 cm_X6_in (by decide) (by decide) rfl rfl (Nat.le_of_ble_eq_true rfl) dX6_share_38 41 rfl (fun v12 u11 h => ?_)
          refine ww_if_eq C 64 dX6_share_41 (by decide) h 44 rfl (fun h => ?_) (fun h => ?_)
          · refine ww_ldc2 C (-4611686018427387904 : Int64) w_1156 dX6_share_64 67 rfl ?_
            exact ww_lret C dX6_share_67 hr h
          · refine ww_iload_n C 3 dX6_share_44 rfl rfl 45 rfl ?_
            refine ww_if_le C 64 dX6_share_45 (by decide) h 48 rfl (fun h => ?_) (fun h => ?_)
            · refine ww_ldc2 C (-4611686018427387904 : Int64) w_1156 dX6_share_64 67 rfl ?_
              exact ww_lret C dX6_share_67 hr h
            · refine ww_aload_n C 0 dX6_share_48 rfl rfl 49 rfl ?_
              refine ww_getS C cl_X6 (obM hn) 5 (by decide) rfl 5 rfl w_852 dX6_share_49 52 rfl ?_
              refine ww_iload_n C 1 dX6_share_52 rfl rfl 53 rfl ?_
              refine ww_iald C (iaM hn 5 6 (by decide) (by decide) rfl) dX6_share_53 h 54 rfl (fun h => ?_)
              refine ww_i2l C dX6_share_54 55 rfl ?_
              refine ww_iload_n C 3 dX6_share_55 rfl rfl 56 rfl ?_
              refine ww_i2l C dX6_share_56 57 rfl ?_
              refine ww_iload_n C 2 dX6_share_57 rfl rfl 58 rfl ?_
              refine ww_callSl C (As := [.long ((u11.1 5 (a1).toNatClampNeg).toInt64), .long ((x3).toInt64), .int a2]) (st := []) h (fun _ _ hF => k_X6_lowest hn hF) w_1153 cm_X6_lowest (by decide) (by decide) rfl rfl (Nat.le_of_ble_eq_true rfl) dX6_share_58 61 rfl (fun v14 u13 h => ?_)
              refine ww_goto C 67 dX6_share_61 (by decide) ?_
              exact ww_lret C dX6_share_67 hr h
      · refine ww_iload_n C 3 dX6_share_12 rfl rfl 13 rfl ?_
        refine ww_aload_n C 0 dX6_share_13 rfl rfl 14 rfl ?_
        refine ww_getS C cl_X6 (obM hn) 5 (by decide) rfl 5 rfl w_852 dX6_share_14 17 rfl ?_
        refine ww_iload C 4 dX6_share_17 rfl 19 rfl ?_
        refine ww_iald C (iaM hn 5 6 (by decide) (by decide) rfl) dX6_share_19 h 20 rfl (fun h => ?_)
        refine ww_iadd C dX6_share_20 21 rfl ?_
        refine ww_bi h (fun v15 h => ?_)
        refine ww_istore_n C [(3, .int v15), (0, .ref (ad 0)), (1, .int a1), (2, .int a2), (4, .int x4)] dX6_share_21 rfl (by decide) rfl 22 rfl ?_
        refine ww_iinc C 4 (1 : Int32) (by decide) (fun v16 => [(4, .int v16), (3, .int v15), (0, .ref (ad 0)), (1, .int a1), (2, .int a2)]) dX6_share_22 rfl (by decide) (fun _ => rfl) h 25 rfl (fun v16 h => ?_)
        refine ww_goto C 5 dX6_share_25 (by decide) ?_
        exact ww_sub [2, 3, 4, 1, 0] rfl (ih _ _ _ h)
  rw [X6_share] at h
  refine ww_iconst C (0 : Int32) dX6_share_0 (by decide) 1 rfl ?_
  refine ww_istore_n C [(3, .int (0 : Int32)), (0, .ref (ad 0)), (1, .int a1), (2, .int a2)] dX6_share_1 rfl (by decide) rfl 2 rfl ?_
  refine ww_iconst C (0 : Int32) dX6_share_2 (by decide) 3 rfl ?_
  refine ww_istore C [(4, .int (0 : Int32)), (3, .int (0 : Int32)), (0, .ref (ad 0)), (1, .int a1), (2, .int a2)] dX6_share_3 (by decide) rfl 5 rfl ?_
  exact ww_sub [2, 3, 4, 1, 0] rfl (L5h N _ _ _ h)

set_option maxRecDepth 100000 in
set_option maxHeartbeats 4000000 in
theorem k_X6_sheetWrong {l : Launch} {D : va_G} {ad : Nat → Nat} {cA : Nat → ClassId} {tys : List (ClassId × FieldType)} {n : Nat} {sa : Nat → Nat} (hn : 20 ≤ n) {N : Nat} {g : Mem} {a1 : Int32} {a2 : Int32} {r : Int32} {g1 : Mem} (h : X6_sheetWrong N a1 a2 g = some (r, g1)) : CTi l yX6_sheetWrong (wsm yX6_sheetWrong cX6_sheetWrong 3 (some .int)) 2 D YM ad cA tys n sa g [.ref (ad 0), .int a1, .int a2] r g1 := by
  refine ct_of RX6 rfl (by decide +kernel) (Nat.le_of_ble_eq_true rfl) rfl (fun sz => PBi D YM ad cA n r g1 sz) ?_
  intro p e R s m args below meth c C hr
  rw [X6_sheetWrong] at h
  refine ww_iload_n C 1 dX6_sheetWrong_0 rfl rfl 1 rfl ?_
  refine ww_iconst C (0 : Int32) dX6_sheetWrong_1 (by decide) 2 rfl ?_
  refine ww_iconst C (3 : Int32) dX6_sheetWrong_2 (by decide) 3 rfl ?_
  refine ww_callSi C (As := [.int a1, .int (0 : Int32), .int (3 : Int32)]) (st := []) h (fun _ _ hF => k_X6_in hn hF) w_808 cm_X6_in (by decide) (by decide) rfl rfl (Nat.le_of_ble_eq_true rfl) dX6_sheetWrong_3 6 rfl (fun v4 u3 h => ?_)
  refine ww_if_ne C 12 dX6_sheetWrong_6 (by decide) h 9 rfl (fun h => ?_) (fun h => ?_)
  · refine ww_aload_n C 0 dX6_sheetWrong_12 rfl rfl 13 rfl ?_
    refine ww_getS C cl_X6 (obM hn) 16 (by decide) rfl 11 rfl w_863 dX6_sheetWrong_13 16 rfl ?_
    refine ww_iload_n C 1 dX6_sheetWrong_16 rfl rfl 17 rfl ?_
    refine ww_iald C (iaM hn 11 4 (by decide) (by decide) rfl) dX6_sheetWrong_17 h 18 rfl (fun h => ?_)
    refine ww_iconst C (-1 : Int32) dX6_sheetWrong_18 (by decide) 19 rfl ?_
    refine ww_icmp_ne C 25 dX6_sheetWrong_19 (by decide) h 22 rfl (fun h => ?_) (fun h => ?_)
    · refine ww_aload_n C 0 dX6_sheetWrong_25 rfl rfl 26 rfl ?_
      refine ww_getS C cl_X6 (obM hn) 17 (by decide) rfl 12 rfl w_864 dX6_sheetWrong_26 29 rfl ?_
      refine ww_iload_n C 1 dX6_sheetWrong_29 rfl rfl 30 rfl ?_
      refine ww_iald C (iaM hn 12 4 (by decide) (by decide) rfl) dX6_sheetWrong_30 h 31 rfl (fun h => ?_)
      refine ww_iload_n C 2 dX6_sheetWrong_31 rfl rfl 32 rfl ?_
      refine ww_icmp_le C 40 dX6_sheetWrong_32 (by decide) h 35 rfl (fun h => ?_) (fun h => ?_)
      · refine ww_iconst C (0 : Int32) dX6_sheetWrong_40 (by decide) 41 rfl ?_
        exact ww_iret C dX6_sheetWrong_41 hr h
      · refine ww_bipush C (-2 : Int32) dX6_sheetWrong_35 (by decide) 37 rfl ?_
        refine ww_goto C 41 dX6_sheetWrong_37 (by decide) ?_
        exact ww_iret C dX6_sheetWrong_41 hr h
    · refine ww_bipush C (-11 : Int32) dX6_sheetWrong_22 (by decide) 24 rfl ?_
      exact ww_iret C dX6_sheetWrong_24 hr h
  · refine ww_bipush C (-2 : Int32) dX6_sheetWrong_9 (by decide) 11 rfl ?_
    exact ww_iret C dX6_sheetWrong_11 hr h

set_option maxRecDepth 100000 in
set_option maxHeartbeats 4000000 in
theorem k_X6_toldWrong {l : Launch} {D : va_G} {ad : Nat → Nat} {cA : Nat → ClassId} {tys : List (ClassId × FieldType)} {n : Nat} {sa : Nat → Nat} (hn : 20 ≤ n) {N : Nat} {g : Mem} {a1 : Int32} {a2 : Int32} {r : Int32} {g1 : Mem} (h : X6_toldWrong N a1 a2 g = some (r, g1)) : CTi l yX6_toldWrong (wsm yX6_toldWrong cX6_toldWrong 4 (some .int)) 3 D YM ad cA tys n sa g [.ref (ad 0), .int a1, .int a2] r g1 := by
  refine ct_of RX6 rfl (by decide +kernel) (Nat.le_of_ble_eq_true rfl) rfl (fun sz => PBi D YM ad cA n r g1 sz) ?_
  intro p e R s m args below meth c C hr
  rw [X6_toldWrong] at h
  refine ww_aload_n C 0 dX6_toldWrong_0 rfl rfl 1 rfl ?_
  refine ww_iload_n C 1 dX6_toldWrong_1 rfl rfl 2 rfl ?_
  refine ww_bipush C (20 : Int32) dX6_toldWrong_2 (by decide) 4 rfl ?_
  refine ww_callVi C (As := [.int a1, .int (20 : Int32)]) (st := []) h cl_X6.1 (obM hn) (fun _ _ hF => k_X6_sheetWrong hn hF) w_1165 cm_X6_sheetWrong (by decide) (by decide) rfl rfl (Nat.le_of_ble_eq_true rfl) dX6_toldWrong_4 7 rfl (fun v6 u5 h => ?_)
  refine ww_istore_n C [(3, .int v6), (0, .ref (ad 0)), (1, .int a1), (2, .int a2)] dX6_toldWrong_7 rfl (by decide) rfl 8 rfl ?_
  refine ww_iload_n C 0 dX6_toldWrong_8 rfl rfl 9 rfl ?_
  refine ww_if_eq C 16 dX6_toldWrong_9 (by decide) h 12 rfl (fun h => ?_) (fun h => ?_)
  · refine ww_iload_n C 3 dX6_toldWrong_16 rfl rfl 17 rfl ?_
    refine ww_callSi C (As := [.int a2]) (st := []) h (fun _ _ hF => k_X6_isSky hn hF) w_992 cm_X6_isSky (by decide) (by decide) rfl rfl (Nat.le_of_ble_eq_true rfl) dX6_toldWrong_17 20 rfl (fun v8 u7 h => ?_)
    refine ww_if_eq C 27 dX6_toldWrong_20 (by decide) h 23 rfl (fun h => ?_) (fun h => ?_)
    · refine ww_bipush C (-5 : Int32) dX6_toldWrong_27 (by decide) 29 rfl ?_
      exact ww_iret C dX6_toldWrong_29 hr h
    · refine ww_iconst C (0 : Int32) dX6_toldWrong_23 (by decide) 24 rfl ?_
      refine ww_goto C 29 dX6_toldWrong_24 (by decide) ?_
      exact ww_iret C dX6_toldWrong_29 hr h
  · refine ww_iload_n C 0 dX6_toldWrong_12 rfl rfl 13 rfl ?_
    refine ww_goto C 29 dX6_toldWrong_13 (by decide) ?_
    exact ww_iret C dX6_toldWrong_29 hr h

set_option maxRecDepth 100000 in
set_option maxHeartbeats 4000000 in
theorem k_X6_unlike {l : Launch} {D : va_G} {ad : Nat → Nat} {cA : Nat → ClassId} {tys : List (ClassId × FieldType)} {n : Nat} {sa : Nat → Nat} (hn : 20 ≤ n) {N : Nat} {g : Mem} {a1 : Int32} {a2 : Int32} {r : Int32} {g1 : Mem} (h : X6_unlike N a1 a2 g = some (r, g1)) : CTi l yX6_unlike (wsm yX6_unlike cX6_unlike 5 (some .int)) 5 D YM ad cA tys n sa g [.ref (ad 0), .int a1, .int a2] r g1 := by
  refine ct_of RX6 rfl (by decide +kernel) (Nat.le_of_ble_eq_true rfl) rfl (fun sz => PBi D YM ad cA n r g1 sz) ?_
  intro p e R s m args below meth c C hr
  have L9h : ∀ (fu : Nat), (∀ (x3 : Int32) (x4 : Int32) (g : Mem), X6_unlike_L9 N a1 a2 fu x3 x4 g = some (r, g1) → WW p l e R s m args below meth c 5 D YM ad cA n (MQ below (PBi D YM ad cA n r g1 s.heap.size) args s 0 0 (AA n ad s.heap.size)) g 9 [(0, .ref (ad 0)), (1, .int a1), (2, .int a2), (3, .int x3), (4, .int x4)] []) := by
    intro fu
    induction fu with
    | zero => intro x3 x4 g h; cases h
    | succ fu ih =>
      intro x3 x4 g h
      rw [X6_unlike_L9] at h
      refine ww_iload C 4 dX6_unlike_9 rfl 11 rfl ?_
      refine ww_aload_n C 0 dX6_unlike_11 rfl rfl 12 rfl ?_
      refine ww_getS C cl_X6 (obM hn) 17 (by decide) rfl 12 rfl w_864 dX6_unlike_12 15 rfl ?_
      refine ww_iload_n C 1 dX6_unlike_15 rfl rfl 16 rfl ?_
      refine ww_iald C (iaM hn 12 4 (by decide) (by decide) rfl) dX6_unlike_16 h 17 rfl (fun h => ?_)
      refine ww_icmp_ge C 63 dX6_unlike_17 (by decide) h 20 rfl (fun h => ?_) (fun h => ?_)
      · refine ww_aload_n C 0 dX6_unlike_63 rfl rfl 64 rfl ?_
        refine ww_callVv C (As := []) (st := []) h cl_X6.1 (obM hn) (fun _ _ hF => k_X6_lays hn hF) w_1101 cm_X6_lays (by decide) (by decide) rfl rfl (Nat.le_of_ble_eq_true rfl) dX6_unlike_64 67 rfl (fun _ u11 h => ?_)
        refine ww_iload_n C 3 dX6_unlike_67 rfl rfl 68 rfl ?_
        exact ww_iret C dX6_unlike_68 hr h
      · refine ww_iload_n C 3 dX6_unlike_20 rfl rfl 21 rfl ?_
        refine ww_iconst C (-1 : Int32) dX6_unlike_21 (by decide) 22 rfl ?_
        refine ww_icmp_ne C 63 dX6_unlike_22 (by decide) h 25 rfl (fun h => ?_) (fun h => ?_)
        · refine ww_aload_n C 0 dX6_unlike_63 rfl rfl 64 rfl ?_
          refine ww_callVv C (As := []) (st := []) h cl_X6.1 (obM hn) (fun _ _ hF => k_X6_lays hn hF) w_1101 cm_X6_lays (by decide) (by decide) rfl rfl (Nat.le_of_ble_eq_true rfl) dX6_unlike_64 67 rfl (fun _ u13 h => ?_)
          refine ww_iload_n C 3 dX6_unlike_67 rfl rfl 68 rfl ?_
          exact ww_iret C dX6_unlike_68 hr h
        · refine ww_aload_n C 0 dX6_unlike_25 rfl rfl 26 rfl ?_
          refine ww_callVv C (As := []) (st := []) h cl_X6.1 (obM hn) (fun _ _ hF => k_X6_hourOf hn hF) w_1069 cm_X6_hourOf (by decide) (by decide) rfl rfl (Nat.le_of_ble_eq_true rfl) dX6_unlike_26 29 rfl (fun _ u15 h => ?_)
          refine ww_aload_n C 0 dX6_unlike_29 rfl rfl 30 rfl ?_
          refine ww_getS C cl_X6 (obM hn) 18 (by decide) rfl 13 rfl w_865 dX6_unlike_30 33 rfl ?_
          refine ww_bipush C (40 : Int32) dX6_unlike_33 (by decide) 35 rfl ?_
          refine ww_iload_n C 1 dX6_unlike_35 rfl rfl 36 rfl ?_
          refine ww_imul C dX6_unlike_36 37 rfl ?_
          refine ww_iload C 4 dX6_unlike_37 rfl 39 rfl ?_
          refine ww_iadd C dX6_unlike_39 40 rfl ?_
          refine ww_iald C (iaM hn 13 160 (by decide) (by decide) rfl) dX6_unlike_40 h 41 rfl (fun h => ?_)
          refine ww_aload_n C 0 dX6_unlike_41 rfl rfl 42 rfl ?_
          refine ww_getS C cl_X6 (obM hn) 5 (by decide) rfl 5 rfl w_852 dX6_unlike_42 45 rfl ?_
          refine ww_iload_n C 2 dX6_unlike_45 rfl rfl 46 rfl ?_
          refine ww_iald C (iaM hn 5 6 (by decide) (by decide) rfl) dX6_unlike_46 h 47 rfl (fun h => ?_)
          refine ww_icmp_ne C 54 dX6_unlike_47 (by decide) h 50 rfl (fun h => ?_) (fun h => ?_)
          · refine ww_iload C 4 dX6_unlike_54 rfl 56 rfl ?_
            refine ww_istore_n C [(3, .int x4), (0, .ref (ad 0)), (1, .int a1), (2, .int a2), (4, .int x4)] dX6_unlike_56 rfl (by decide) rfl 57 rfl ?_
            refine ww_iinc C 4 (1 : Int32) (by decide) (fun v17 => [(4, .int v17), (3, .int x4), (0, .ref (ad 0)), (1, .int a1), (2, .int a2)]) dX6_unlike_57 rfl (by decide) (fun _ => rfl) h 60 rfl (fun v17 h => ?_)
            refine ww_goto C 9 dX6_unlike_60 (by decide) ?_
            exact ww_sub [2, 3, 4, 1, 0] rfl (ih _ _ _ h)
          · refine ww_iconst C (-1 : Int32) dX6_unlike_50 (by decide) 51 rfl ?_
            refine ww_goto C 56 dX6_unlike_51 (by decide) ?_
            refine ww_istore_n C [(3, .int (-1 : Int32)), (0, .ref (ad 0)), (1, .int a1), (2, .int a2), (4, .int x4)] dX6_unlike_56 rfl (by decide) rfl 57 rfl ?_
            refine ww_iinc C 4 (1 : Int32) (by decide) (fun v18 => [(4, .int v18), (3, .int (-1 : Int32)), (0, .ref (ad 0)), (1, .int a1), (2, .int a2)]) dX6_unlike_57 rfl (by decide) (fun _ => rfl) h 60 rfl (fun v18 h => ?_)
            refine ww_goto C 9 dX6_unlike_60 (by decide) ?_
            exact ww_sub [2, 3, 4, 1, 0] rfl (ih _ _ _ h)
  rw [X6_unlike] at h
  refine ww_iconst C (-1 : Int32) dX6_unlike_0 (by decide) 1 rfl ?_
  refine ww_istore_n C [(3, .int (-1 : Int32)), (0, .ref (ad 0)), (1, .int a1), (2, .int a2)] dX6_unlike_1 rfl (by decide) rfl 2 rfl ?_
  refine ww_aload_n C 1 dX6_unlike_2 rfl rfl 3 rfl ?_
  refine ww_callVv C (As := []) (st := []) h cl_X6.1 (obM hn) (fun _ _ hF => k_X6_keeps hn hF) w_1093 cm_X6_keeps (by decide) (by decide) rfl rfl (Nat.le_of_ble_eq_true rfl) dX6_unlike_3 6 rfl (fun _ u19 h => ?_)
  refine ww_iconst C (0 : Int32) dX6_unlike_6 (by decide) 7 rfl ?_
  refine ww_istore C [(4, .int (0 : Int32)), (3, .int (-1 : Int32)), (0, .ref (ad 0)), (1, .int a1), (2, .int a2)] dX6_unlike_7 (by decide) rfl 9 rfl ?_
  exact ww_sub [2, 3, 4, 1, 0] rfl (L9h N _ _ _ h)

set_option maxRecDepth 100000 in
set_option maxHeartbeats 4000000 in
theorem k_X6_judge {l : Launch} {D : va_G} {ad : Nat → Nat} {cA : Nat → ClassId} {tys : List (ClassId × FieldType)} {n : Nat} {sa : Nat → Nat} (hn : 20 ≤ n) {N : Nat} {g : Mem} {a1 : Int32} {a2 : Int32} {r : Int32} {g1 : Mem} (h : X6_judge N a1 a2 g = some (r, g1)) : CTi l yX6_judge (wsm yX6_judge cX6_judge 4 (some .int)) 6 D YM ad cA tys n sa g [.ref (ad 0), .int a1, .int a2] r g1 := by
  refine ct_of RX6 rfl (by decide +kernel) (Nat.le_of_ble_eq_true rfl) rfl (fun sz => PBi D YM ad cA n r g1 sz) ?_
  intro p e R s m args below meth c C hr
  rw [X6_judge] at h
  refine ww_aload_n C 0 dX6_judge_0 rfl rfl 1 rfl ?_
  refine ww_iload_n C 1 dX6_judge_1 rfl rfl 2 rfl ?_
  refine ww_iload_n C 2 dX6_judge_2 rfl rfl 3 rfl ?_
  refine ww_callVi C (As := [.int a1, .int a2]) (st := []) h cl_X6.1 (obM hn) (fun _ _ hF => k_X6_toldWrong hn hF) w_1161 cm_X6_toldWrong (by decide) (by decide) rfl rfl (Nat.le_of_ble_eq_true rfl) dX6_judge_3 6 rfl (fun v6 u5 h => ?_)
  refine ww_istore_n C [(3, .int v6), (0, .ref (ad 0)), (1, .int a1), (2, .int a2)] dX6_judge_6 rfl (by decide) rfl 7 rfl ?_
  refine ww_iload_n C 0 dX6_judge_7 rfl rfl 8 rfl ?_
  refine ww_if_ne C 20 dX6_judge_8 (by decide) h 11 rfl (fun h => ?_) (fun h => ?_)
  · refine ww_iload_n C 0 dX6_judge_20 rfl rfl 21 rfl ?_
    exact ww_iret C dX6_judge_21 hr h
  · refine ww_aload_n C 1 dX6_judge_11 rfl rfl 12 rfl ?_
    refine ww_iload_n C 2 dX6_judge_12 rfl rfl 13 rfl ?_
    refine ww_iload_n C 3 dX6_judge_13 rfl rfl 14 rfl ?_
    refine ww_callVi C (As := [.int a1, .int a2]) (st := []) h cl_X6.1 (obM hn) (fun _ _ hF => k_X6_unlike hn hF) w_1169 cm_X6_unlike (by decide) (by decide) rfl rfl (Nat.le_of_ble_eq_true rfl) dX6_judge_14 17 rfl (fun v8 u7 h => ?_)
    refine ww_goto C 21 dX6_judge_17 (by decide) ?_
    exact ww_iret C dX6_judge_21 hr h

set_option maxRecDepth 100000 in
set_option maxHeartbeats 4000000 in
theorem k_X6_opened {l : Launch} {D : va_G} {ad : Nat → Nat} {cA : Nat → ClassId} {tys : List (ClassId × FieldType)} {n : Nat} {sa : Nat → Nat} (hn : 20 ≤ n) {N : Nat} {g : Mem} {a1 : Int32} {a2 : Int32} {r : Int32} {g1 : Mem} (h : X6_opened N a1 a2 g = some (r, g1)) : CTi l yX6_opened (wsm yX6_opened cX6_opened 8 (some .int)) 6 D YM ad cA tys n sa g [.ref (ad 0), .int a1, .int a2] r g1 := by
  refine ct_of RX6 rfl (by decide +kernel) (Nat.le_of_ble_eq_true rfl) rfl (fun sz => PBi D YM ad cA n r g1 sz) ?_
  intro p e R s m args below meth c C hr
  have L19h : ∀ (fu : Nat), (∀ (x4 : Int32) (x5 : Int32) (g : Mem), X6_opened_L19 N a1 a2 fu x4 x5 g = some (r, g1) → WW p l e R s m args below meth c 8 D YM ad cA n (MQ below (PBi D YM ad cA n r g1 s.heap.size) args s 0 0 (AA n ad s.heap.size)) g 19 [(0, .ref (ad 0)), (1, .int a1), (2, .int a2), (4, .int x4), (5, .int x5)] []) := by
    intro fu
    induction fu with
    | zero => intro x4 x5 g h; cases h
    | succ fu ih =>
      intro x4 x5 g h
      rw [X6_opened_L19] at h
      refine ww_iload C 4 dX6_opened_19 rfl 21 rfl ?_
      refine ww_bipush C (12 : Int32) dX6_opened_21 (by decide) 23 rfl ?_
      refine ww_icmp_ge C 117 dX6_opened_23 (by decide) h 26 rfl (fun h => ?_) (fun h => ?_)
      · refine ww_iload C 3 dX6_opened_117 rfl 119 rfl ?_
        exact ww_iret C dX6_opened_119 hr h
      · refine ww_aload_n C 0 dX6_opened_26 rfl rfl 27 rfl ?_
        refine ww_getS C cl_X6 (obM hn) 4 (by decide) rfl 4 rfl w_851 dX6_opened_27 30 rfl ?_
        refine ww_iconst C (4 : Int32) dX6_opened_30 (by decide) 31 rfl ?_
        refine ww_iload C 4 dX6_opened_31 rfl 33 rfl ?_
        refine ww_imul C dX6_opened_33 34 rfl ?_
        refine ww_iconst C (3 : Int32) dX6_opened_34 (by decide) 35 rfl ?_
        refine ww_iadd C dX6_opened_35 36 rfl ?_
        refine ww_iald C (iaM hn 4 48 (by decide) (by decide) rfl) dX6_opened_36 h 37 rfl (fun h => ?_)
        refine ww_iconst C (1 : Int32) dX6_opened_37 (by decide) 38 rfl ?_
        refine ww_icmp_ne C 111 dX6_opened_38 (by decide) h 41 rfl (fun h => ?_) (fun h => ?_)
        · refine ww_iinc C 4 (1 : Int32) (by decide) (fun v18 => [(5, .int v18), (0, .ref (ad 0)), (1, .int a1), (2, .int a2), (4, .int x4)]) dX6_opened_111 rfl (by decide) (fun _ => rfl) h 114 rfl (fun v18 h => ?_)
          refine ww_goto C 19 dX6_opened_114 (by decide) ?_
          exact ww_sub [1, 2, 3, 4, 0] rfl (ih _ _ _ h)
        · refine ww_aload_n C 0 dX6_opened_41 rfl rfl 42 rfl ?_
          refine ww_getS C cl_X6 (obM hn) 4 (by decide) rfl 4 rfl w_851 dX6_opened_42 45 rfl ?_
          refine ww_iconst C (4 : Int32) dX6_opened_45 (by decide) 46 rfl ?_
          refine ww_iload C 4 dX6_opened_46 rfl 48 rfl ?_
          refine ww_imul C dX6_opened_48 49 rfl ?_
          refine ww_iald C (iaM hn 4 48 (by decide) (by decide) rfl) dX6_opened_49 h 50 rfl (fun h => ?_)
          refine ww_bi h (fun v19 h => ?_)
          refine ww_istore C [(6, .int v19), (0, .ref (ad 0)), (1, .int a1), (2, .int a2), (4, .int x4), (5, .int x5)] dX6_opened_50 (by decide) rfl 52 rfl ?_
          refine ww_aload_n C 1 dX6_opened_52 rfl rfl 53 rfl ?_
          refine ww_getS C cl_X6 (obM hn) 5 (by decide) rfl 5 rfl w_852 dX6_opened_53 56 rfl ?_
          refine ww_iload C 0 dX6_opened_56 rfl 58 rfl ?_
          refine ww_iald C (iaM hn 5 6 (by decide) (by decide) rfl) dX6_opened_58 h 59 rfl (fun h => ?_)
          refine ww_bi h (fun v20 h => ?_)
          refine ww_istore C [(7, .int v20), (6, .int v19), (0, .ref (ad 0)), (1, .int a1), (2, .int a2), (4, .int x4), (5, .int x5)] dX6_opened_59 (by decide) rfl 61 rfl ?_
          refine ww_aload_n C 2 dX6_opened_61 rfl rfl 62 rfl ?_
          refine ww_iload C 6 dX6_opened_62 rfl 64 rfl ?_
          refine ww_callVv C (As := [.int x5]) (st := []) h cl_X6.1 (obM hn) (fun _ _ hF => k_X6_opens0 hn hF) w_1061 cm_X6_opens0 (by decide) (by decide) rfl rfl (Nat.le_of_ble_eq_true rfl) dX6_opened_64 67 rfl (fun _ u21 h => ?_)
          refine ww_iload C 5 dX6_opened_67 rfl 69 rfl ?_
          refine ww_aload_n C 2 dX6_opened_69 rfl rfl 70 rfl ?_
          refine ww_iload_n C 3 dX6_opened_70 rfl rfl 71 rfl ?_
          refine ww_iload_n C 4 dX6_opened_71 rfl rfl 72 rfl ?_
          refine ww_callVi C (As := [.int a1, .int a2]) (st := [.int x4]) h cl_X6.1 (obM hn) (fun _ _ hF => k_X6_unlike hn hF) w_1169 cm_X6_unlike (by decide) (by decide) rfl rfl (Nat.le_of_ble_eq_true rfl) dX6_opened_72 75 rfl (fun v24 u23 h => ?_)
          refine ww_iconst C (-1 : Int32) dX6_opened_75 (by decide) 76 rfl ?_
          refine ww_icmp_ne C 86 dX6_opened_76 (by decide) h 79 rfl (fun h => ?_) (fun h => ?_)
          · refine ww_iconst C (0 : Int32) dX6_opened_86 (by decide) 87 rfl ?_
            refine ww_ior C dX6_opened_87 88 rfl ?_
            refine ww_bi h (fun v25 h => ?_)
            refine ww_istore C [(4, .int v25), (7, .int v20), (6, .int v19), (0, .ref (ad 0)), (1, .int a1), (2, .int a2), (5, .int x5)] dX6_opened_88 (by decide) rfl 90 rfl ?_
            refine ww_aload_n C 3 dX6_opened_90 rfl rfl 91 rfl ?_
            refine ww_getS C cl_X6 (obM hn) 5 (by decide) rfl 5 rfl w_852 dX6_opened_91 94 rfl ?_
            refine ww_iload C 2 dX6_opened_94 rfl 96 rfl ?_
            refine ww_iload C 1 dX6_opened_96 rfl 98 rfl ?_
            refine ww_iast C (iaM hn 5 6 (by decide) (by decide) rfl) dX6_opened_98 h 99 rfl (fun u26 h => ?_)
            refine ww_aload_n C 3 dX6_opened_99 rfl rfl 100 rfl ?_
            refine ww_getS C cl_X6 (obM hn) 4 (by decide) rfl 4 rfl w_851 dX6_opened_100 103 rfl ?_
            refine ww_iconst C (4 : Int32) dX6_opened_103 (by decide) 104 rfl ?_
            refine ww_iload C 6 dX6_opened_104 rfl 106 rfl ?_
            refine ww_imul C dX6_opened_106 107 rfl ?_
            refine ww_iconst C (3 : Int32) dX6_opened_107 (by decide) 108 rfl ?_
            refine ww_iadd C dX6_opened_108 109 rfl ?_
            refine ww_iconst C (1 : Int32) dX6_opened_109 (by decide) 110 rfl ?_
            refine ww_iast C (iaM hn 4 48 (by decide) (by decide) rfl) dX6_opened_110 h 111 rfl (fun u27 h => ?_)
            refine ww_iinc C 6 (1 : Int32) (by decide) (fun v28 => [(5, .int v28), (4, .int v25), (7, .int v20), (6, .int v19), (0, .ref (ad 0)), (1, .int a1), (2, .int a2)]) dX6_opened_111 rfl (by decide) (fun _ => rfl) h 114 rfl (fun v28 h => ?_)
            refine ww_goto C 19 dX6_opened_114 (by decide) ?_
            exact ww_sub [4, 5, 6, 1, 0] rfl (ih _ _ _ h)
          · refine ww_iconst C (1 : Int32) dX6_opened_79 (by decide) 80 rfl ?_
            refine ww_iload C 6 dX6_opened_80 rfl 82 rfl ?_
            refine ww_ishl C dX6_opened_82 83 rfl ?_
            refine ww_goto C 87 dX6_opened_83 (by decide) ?_
            refine ww_ior C dX6_opened_87 88 rfl ?_
            refine ww_bi h (fun v29 h => ?_)
            refine ww_istore C [(4, .int v29), (7, .int v20), (6, .int v19), (0, .ref (ad 0)), (1, .int a1), (2, .int a2), (5, .int x5)] dX6_opened_88 (by decide) rfl 90 rfl ?_
            refine ww_aload_n C 3 dX6_opened_90 rfl rfl 91 rfl ?_
            refine ww_getS C cl_X6 (obM hn) 5 (by decide) rfl 5 rfl w_852 dX6_opened_91 94 rfl ?_
            refine ww_iload C 2 dX6_opened_94 rfl 96 rfl ?_
            refine ww_iload C 1 dX6_opened_96 rfl 98 rfl ?_
            refine ww_iast C (iaM hn 5 6 (by decide) (by decide) rfl) dX6_opened_98 h 99 rfl (fun u30 h => ?_)
            refine ww_aload_n C 3 dX6_opened_99 rfl rfl 100 rfl ?_
            refine ww_getS C cl_X6 (obM hn) 4 (by decide) rfl 4 rfl w_851 dX6_opened_100 103 rfl ?_
            refine ww_iconst C (4 : Int32) dX6_opened_103 (by decide) 104 rfl ?_
            refine ww_iload C 6 dX6_opened_104 rfl 106 rfl ?_
            refine ww_imul C dX6_opened_106 107 rfl ?_
            refine ww_iconst C (3 : Int32) dX6_opened_107 (by decide) 108 rfl ?_
            refine ww_iadd C dX6_opened_108 109 rfl ?_
            refine ww_iconst C (1 : Int32) dX6_opened_109 (by decide) 110 rfl ?_
            refine ww_iast C (iaM hn 4 48 (by decide) (by decide) rfl) dX6_opened_110 h 111 rfl (fun u31 h => ?_)
            refine ww_iinc C 6 (1 : Int32) (by decide) (fun v32 => [(5, .int v32), (4, .int v29), (7, .int v20), (6, .int v19), (0, .ref (ad 0)), (1, .int a1), (2, .int a2)]) dX6_opened_111 rfl (by decide) (fun _ => rfl) h 114 rfl (fun v32 h => ?_)
            refine ww_goto C 19 dX6_opened_114 (by decide) ?_
            exact ww_sub [4, 5, 6, 1, 0] rfl (ih _ _ _ h)
  rw [X6_opened] at h
  refine ww_aload_n C 0 dX6_opened_0 rfl rfl 1 rfl ?_
  refine ww_iload_n C 1 dX6_opened_1 rfl rfl 2 rfl ?_
  refine ww_iload_n C 2 dX6_opened_2 rfl rfl 3 rfl ?_
  refine ww_callVi C (As := [.int a1, .int a2]) (st := []) h cl_X6.1 (obM hn) (fun _ _ hF => k_X6_toldWrong hn hF) w_1161 cm_X6_toldWrong (by decide) (by decide) rfl rfl (Nat.le_of_ble_eq_true rfl) dX6_opened_3 6 rfl (fun v34 u33 h => ?_)
  refine ww_istore_n C [(3, .int v34), (0, .ref (ad 0)), (1, .int a1), (2, .int a2)] dX6_opened_6 rfl (by decide) rfl 7 rfl ?_
  refine ww_iload_n C 0 dX6_opened_7 rfl rfl 8 rfl ?_
  refine ww_if_eq C 13 dX6_opened_8 (by decide) h 11 rfl (fun h => ?_) (fun h => ?_)
  · refine ww_iconst C (0 : Int32) dX6_opened_13 (by decide) 14 rfl ?_
    refine ww_istore C [(4, .int (0 : Int32)), (3, .int v34), (0, .ref (ad 0)), (1, .int a1), (2, .int a2)] dX6_opened_14 (by decide) rfl 16 rfl ?_
    refine ww_iconst C (0 : Int32) dX6_opened_16 (by decide) 17 rfl ?_
    refine ww_istore C [(5, .int (0 : Int32)), (4, .int (0 : Int32)), (3, .int v34), (0, .ref (ad 0)), (1, .int a1), (2, .int a2)] dX6_opened_17 (by decide) rfl 19 rfl ?_
    exact ww_sub [3, 4, 5, 1, 0] rfl (L19h N _ _ _ h)
  · refine ww_iload_n C 0 dX6_opened_11 rfl rfl 12 rfl ?_
    exact ww_iret C dX6_opened_12 hr h

set_option maxRecDepth 100000 in
set_option maxHeartbeats 4000000 in
theorem k_X6_skies {l : Launch} {D : va_G} {ad : Nat → Nat} {cA : Nat → ClassId} {tys : List (ClassId × FieldType)} {n : Nat} {sa : Nat → Nat} (hn : 20 ≤ n) {N : Nat} {g : Mem} {a1 : Int32} {a2 : Int32} {a3 : Int32} {r : Int32} {g1 : Mem} (h : X6_skies N a1 a2 a3 g = some (r, g1)) : CTi l yX6_skies (wsm yX6_skies cX6_skies 10 (some .int)) 6 D YM ad cA tys n sa g [.ref (ad 0), .int a1, .int a2, .int a3] r g1 := by
  refine ct_of RX6 rfl (by decide +kernel) (Nat.le_of_ble_eq_true rfl) rfl (fun sz => PBi D YM ad cA n r g1 sz) ?_
  intro p e R s m args below meth c C hr
  have L45h : ∀ (fu : Nat), (∀ (x5 : Int32) (x6 : Int32) (x7 : Int32) (x8 : Int32) (g : Mem), X6_skies_L45 N a1 a2 a3 fu x5 x6 x7 x8 g = some (r, g1) → WW p l e R s m args below meth c 10 D YM ad cA n (MQ below (PBi D YM ad cA n r g1 s.heap.size) args s 0 0 (AA n ad s.heap.size)) g 45 [(0, .ref (ad 0)), (1, .int a1), (2, .int a2), (3, .int a3), (5, .int x5), (6, .int x6), (7, .int x7), (8, .int x8)] []) := by
    intro fu
    induction fu with
    | zero => intro x5 x6 x7 x8 g h; cases h
    | succ fu ih =>
      intro x5 x6 x7 x8 g h
      rw [X6_skies_L45] at h
      refine ww_iload C 7 dX6_skies_45 rfl 47 rfl ?_
      refine ww_bipush C (99 : Int32) dX6_skies_47 (by decide) 49 rfl ?_
      refine ww_icmp_gt C 118 dX6_skies_49 (by decide) h 52 rfl (fun h => ?_) (fun h => ?_)
      · refine ww_aload_n C 0 dX6_skies_118 rfl rfl 119 rfl ?_
        refine ww_getS C cl_X6 (obM hn) 5 (by decide) rfl 5 rfl w_852 dX6_skies_119 122 rfl ?_
        refine ww_iload_n C 2 dX6_skies_122 rfl rfl 123 rfl ?_
        refine ww_iload C 4 dX6_skies_123 rfl 125 rfl ?_
        refine ww_iast C (iaM hn 5 6 (by decide) (by decide) rfl) dX6_skies_125 h 126 rfl (fun u26 h => ?_)
        refine ww_iload_n C 3 dX6_skies_126 rfl rfl 127 rfl ?_
        refine ww_if_ne C 135 dX6_skies_127 (by decide) h 130 rfl (fun h => ?_) (fun h => ?_)
        · refine ww_iload C 6 dX6_skies_135 rfl 137 rfl ?_
          exact ww_iret C dX6_skies_137 hr h
        · refine ww_iload C 5 dX6_skies_130 rfl 132 rfl ?_
          refine ww_goto C 137 dX6_skies_132 (by decide) ?_
          exact ww_iret C dX6_skies_137 hr h
      · refine ww_aload_n C 0 dX6_skies_52 rfl rfl 53 rfl ?_
        refine ww_getS C cl_X6 (obM hn) 5 (by decide) rfl 5 rfl w_852 dX6_skies_53 56 rfl ?_
        refine ww_iload_n C 2 dX6_skies_56 rfl rfl 57 rfl ?_
        refine ww_iload C 7 dX6_skies_57 rfl 59 rfl ?_
        refine ww_iast C (iaM hn 5 6 (by decide) (by decide) rfl) dX6_skies_59 h 60 rfl (fun u27 h => ?_)
        refine ww_aload_n C 0 dX6_skies_60 rfl rfl 61 rfl ?_
        refine ww_iload_n C 1 dX6_skies_61 rfl rfl 62 rfl ?_
        refine ww_iload_n C 2 dX6_skies_62 rfl rfl 63 rfl ?_
        refine ww_callVi C (As := [.int a1, .int a2]) (st := []) h cl_X6.1 (obM hn) (fun _ _ hF => k_X6_unlike hn hF) w_1169 cm_X6_unlike (by decide) (by decide) rfl rfl (Nat.le_of_ble_eq_true rfl) dX6_skies_63 66 rfl (fun v29 u28 h => ?_)
        refine ww_iconst C (-1 : Int32) dX6_skies_66 (by decide) 67 rfl ?_
        refine ww_icmp_ne C 74 dX6_skies_67 (by decide) h 70 rfl (fun h => ?_) (fun h => ?_)
        · refine ww_iconst C (0 : Int32) dX6_skies_74 (by decide) 75 rfl ?_
          refine ww_istore C [(9, .int (0 : Int32)), (0, .ref (ad 0)), (1, .int a1), (2, .int a2), (3, .int a3), (5, .int x5), (6, .int x6), (7, .int x7), (8, .int x8)] dX6_skies_75 (by decide) rfl 77 rfl ?_
          refine ww_iload C 6 dX6_skies_77 rfl 79 rfl ?_
          refine ww_iload C 0 dX6_skies_79 rfl 81 rfl ?_
          refine ww_if_eq C 88 dX6_skies_81 (by decide) h 84 rfl (fun h => ?_) (fun h => ?_)
          · refine ww_iconst C (0 : Int32) dX6_skies_88 (by decide) 89 rfl ?_
            refine ww_iadd C dX6_skies_89 90 rfl ?_
            refine ww_bi h (fun v30 h => ?_)
            refine ww_istore C [(6, .int v30), (9, .int (0 : Int32)), (0, .ref (ad 0)), (1, .int a1), (2, .int a2), (3, .int a3), (5, .int x5), (7, .int x7), (8, .int x8)] dX6_skies_90 (by decide) rfl 92 rfl ?_
            refine ww_iload C 1 dX6_skies_92 rfl 94 rfl ?_
            refine ww_if_eq C 108 dX6_skies_94 (by decide) h 97 rfl (fun h => ?_) (fun h => ?_)
            · refine ww_iload C 7 dX6_skies_108 rfl 110 rfl ?_
              refine ww_istore C [(7, .int x7), (6, .int v30), (9, .int (0 : Int32)), (0, .ref (ad 0)), (1, .int a1), (2, .int a2), (3, .int a3), (5, .int x5), (8, .int x8)] dX6_skies_110 (by decide) rfl 112 rfl ?_
              refine ww_iinc C 8 (1 : Int32) (by decide) (fun v31 => [(8, .int v31), (7, .int x7), (6, .int v30), (9, .int (0 : Int32)), (0, .ref (ad 0)), (1, .int a1), (2, .int a2), (3, .int a3), (5, .int x5)]) dX6_skies_112 rfl (by decide) (fun _ => rfl) h 115 rfl (fun v31 h => ?_)
              refine ww_goto C 45 dX6_skies_115 (by decide) ?_
              exact ww_sub [4, 5, 6, 7, 8, 2, 1, 0] rfl (ih _ _ _ _ _ h)
            · refine ww_iload C 7 dX6_skies_97 rfl 99 rfl ?_
              refine ww_iconst C (-1 : Int32) dX6_skies_99 (by decide) 100 rfl ?_
              refine ww_icmp_ne C 108 dX6_skies_100 (by decide) h 103 rfl (fun h => ?_) (fun h => ?_)
              · refine ww_iload C 7 dX6_skies_108 rfl 110 rfl ?_
                refine ww_istore C [(7, .int x7), (6, .int v30), (9, .int (0 : Int32)), (0, .ref (ad 0)), (1, .int a1), (2, .int a2), (3, .int a3), (5, .int x5), (8, .int x8)] dX6_skies_110 (by decide) rfl 112 rfl ?_
                refine ww_iinc C 8 (1 : Int32) (by decide) (fun v32 => [(8, .int v32), (7, .int x7), (6, .int v30), (9, .int (0 : Int32)), (0, .ref (ad 0)), (1, .int a1), (2, .int a2), (3, .int a3), (5, .int x5)]) dX6_skies_112 rfl (by decide) (fun _ => rfl) h 115 rfl (fun v32 h => ?_)
                refine ww_goto C 45 dX6_skies_115 (by decide) ?_
                exact ww_sub [4, 5, 6, 7, 8, 2, 1, 0] rfl (ih _ _ _ _ _ h)
              · refine ww_iload C 8 dX6_skies_103 rfl 105 rfl ?_
                refine ww_goto C 110 dX6_skies_105 (by decide) ?_
                refine ww_istore C [(7, .int x8), (6, .int v30), (9, .int (0 : Int32)), (0, .ref (ad 0)), (1, .int a1), (2, .int a2), (3, .int a3), (5, .int x5), (8, .int x8)] dX6_skies_110 (by decide) rfl 112 rfl ?_
                refine ww_iinc C 8 (1 : Int32) (by decide) (fun v33 => [(8, .int v33), (7, .int x8), (6, .int v30), (9, .int (0 : Int32)), (0, .ref (ad 0)), (1, .int a1), (2, .int a2), (3, .int a3), (5, .int x5)]) dX6_skies_112 rfl (by decide) (fun _ => rfl) h 115 rfl (fun v33 h => ?_)
                refine ww_goto C 45 dX6_skies_115 (by decide) ?_
                exact ww_sub [4, 5, 6, 7, 8, 2, 1, 0] rfl (ih _ _ _ _ _ h)
          · refine ww_iconst C (1 : Int32) dX6_skies_84 (by decide) 85 rfl ?_
            refine ww_goto C 89 dX6_skies_85 (by decide) ?_
            refine ww_iadd C dX6_skies_89 90 rfl ?_
            refine ww_bi h (fun v34 h => ?_)
            refine ww_istore C [(6, .int v34), (9, .int (0 : Int32)), (0, .ref (ad 0)), (1, .int a1), (2, .int a2), (3, .int a3), (5, .int x5), (7, .int x7), (8, .int x8)] dX6_skies_90 (by decide) rfl 92 rfl ?_
            refine ww_iload C 1 dX6_skies_92 rfl 94 rfl ?_
            refine ww_if_eq C 108 dX6_skies_94 (by decide) h 97 rfl (fun h => ?_) (fun h => ?_)
            · refine ww_iload C 7 dX6_skies_108 rfl 110 rfl ?_
              refine ww_istore C [(7, .int x7), (6, .int v34), (9, .int (0 : Int32)), (0, .ref (ad 0)), (1, .int a1), (2, .int a2), (3, .int a3), (5, .int x5), (8, .int x8)] dX6_skies_110 (by decide) rfl 112 rfl ?_
              refine ww_iinc C 8 (1 : Int32) (by decide) (fun v35 => [(8, .int v35), (7, .int x7), (6, .int v34), (9, .int (0 : Int32)), (0, .ref (ad 0)), (1, .int a1), (2, .int a2), (3, .int a3), (5, .int x5)]) dX6_skies_112 rfl (by decide) (fun _ => rfl) h 115 rfl (fun v35 h => ?_)
              refine ww_goto C 45 dX6_skies_115 (by decide) ?_
              exact ww_sub [4, 5, 6, 7, 8, 2, 1, 0] rfl (ih _ _ _ _ _ h)
            · refine ww_iload C 7 dX6_skies_97 rfl 99 rfl ?_
              refine ww_iconst C (-1 : Int32) dX6_skies_99 (by decide) 100 rfl ?_
              refine ww_icmp_ne C 108 dX6_skies_100 (by decide) h 103 rfl (fun h => ?_) (fun h => ?_)
              · refine ww_iload C 7 dX6_skies_108 rfl 110 rfl ?_
                refine ww_istore C [(7, .int x7), (6, .int v34), (9, .int (0 : Int32)), (0, .ref (ad 0)), (1, .int a1), (2, .int a2), (3, .int a3), (5, .int x5), (8, .int x8)] dX6_skies_110 (by decide) rfl 112 rfl ?_
                refine ww_iinc C 8 (1 : Int32) (by decide) (fun v36 => [(8, .int v36), (7, .int x7), (6, .int v34), (9, .int (0 : Int32)), (0, .ref (ad 0)), (1, .int a1), (2, .int a2), (3, .int a3), (5, .int x5)]) dX6_skies_112 rfl (by decide) (fun _ => rfl) h 115 rfl (fun v36 h => ?_)
                refine ww_goto C 45 dX6_skies_115 (by decide) ?_
                exact ww_sub [4, 5, 6, 7, 8, 2, 1, 0] rfl (ih _ _ _ _ _ h)
              · refine ww_iload C 8 dX6_skies_103 rfl 105 rfl ?_
                refine ww_goto C 110 dX6_skies_105 (by decide) ?_
                refine ww_istore C [(7, .int x8), (6, .int v34), (9, .int (0 : Int32)), (0, .ref (ad 0)), (1, .int a1), (2, .int a2), (3, .int a3), (5, .int x5), (8, .int x8)] dX6_skies_110 (by decide) rfl 112 rfl ?_
                refine ww_iinc C 8 (1 : Int32) (by decide) (fun v37 => [(8, .int v37), (7, .int x8), (6, .int v34), (9, .int (0 : Int32)), (0, .ref (ad 0)), (1, .int a1), (2, .int a2), (3, .int a3), (5, .int x5)]) dX6_skies_112 rfl (by decide) (fun _ => rfl) h 115 rfl (fun v37 h => ?_)
                refine ww_goto C 45 dX6_skies_115 (by decide) ?_
                exact ww_sub [4, 5, 6, 7, 8, 2, 1, 0] rfl (ih _ _ _ _ _ h)
        · refine ww_iconst C (1 : Int32) dX6_skies_70 (by decide) 71 rfl ?_
          refine ww_goto C 75 dX6_skies_71 (by decide) ?_
          refine ww_istore C [(9, .int (1 : Int32)), (0, .ref (ad 0)), (1, .int a1), (2, .int a2), (3, .int a3), (5, .int x5), (6, .int x6), (7, .int x7), (8, .int x8)] dX6_skies_75 (by decide) rfl 77 rfl ?_
          refine ww_iload C 6 dX6_skies_77 rfl 79 rfl ?_
          refine ww_iload C 0 dX6_skies_79 rfl 81 rfl ?_
          refine ww_if_eq C 88 dX6_skies_81 (by decide) h 84 rfl (fun h => ?_) (fun h => ?_)
          · refine ww_iconst C (0 : Int32) dX6_skies_88 (by decide) 89 rfl ?_
            refine ww_iadd C dX6_skies_89 90 rfl ?_
            refine ww_bi h (fun v38 h => ?_)
            refine ww_istore C [(6, .int v38), (9, .int (1 : Int32)), (0, .ref (ad 0)), (1, .int a1), (2, .int a2), (3, .int a3), (5, .int x5), (7, .int x7), (8, .int x8)] dX6_skies_90 (by decide) rfl 92 rfl ?_
            refine ww_iload C 1 dX6_skies_92 rfl 94 rfl ?_
            refine ww_if_eq C 108 dX6_skies_94 (by decide) h 97 rfl (fun h => ?_) (fun h => ?_)
            · refine ww_iload C 7 dX6_skies_108 rfl 110 rfl ?_
              refine ww_istore C [(7, .int x7), (6, .int v38), (9, .int (1 : Int32)), (0, .ref (ad 0)), (1, .int a1), (2, .int a2), (3, .int a3), (5, .int x5), (8, .int x8)] dX6_skies_110 (by decide) rfl 112 rfl ?_
              refine ww_iinc C 8 (1 : Int32) (by decide) (fun v39 => [(8, .int v39), (7, .int x7), (6, .int v38), (9, .int (1 : Int32)), (0, .ref (ad 0)), (1, .int a1), (2, .int a2), (3, .int a3), (5, .int x5)]) dX6_skies_112 rfl (by decide) (fun _ => rfl) h 115 rfl (fun v39 h => ?_)
              refine ww_goto C 45 dX6_skies_115 (by decide) ?_
              exact ww_sub [4, 5, 6, 7, 8, 2, 1, 0] rfl (ih _ _ _ _ _ h)
            · refine ww_iload C 7 dX6_skies_97 rfl 99 rfl ?_
              refine ww_iconst C (-1 : Int32) dX6_skies_99 (by decide) 100 rfl ?_
              refine ww_icmp_ne C 108 dX6_skies_100 (by decide) h 103 rfl (fun h => ?_) (fun h => ?_)
              · refine ww_iload C 7 dX6_skies_108 rfl 110 rfl ?_
                refine ww_istore C [(7, .int x7), (6, .int v38), (9, .int (1 : Int32)), (0, .ref (ad 0)), (1, .int a1), (2, .int a2), (3, .int a3), (5, .int x5), (8, .int x8)] dX6_skies_110 (by decide) rfl 112 rfl ?_
                refine ww_iinc C 8 (1 : Int32) (by decide) (fun v40 => [(8, .int v40), (7, .int x7), (6, .int v38), (9, .int (1 : Int32)), (0, .ref (ad 0)), (1, .int a1), (2, .int a2), (3, .int a3), (5, .int x5)]) dX6_skies_112 rfl (by decide) (fun _ => rfl) h 115 rfl (fun v40 h => ?_)
                refine ww_goto C 45 dX6_skies_115 (by decide) ?_
                exact ww_sub [4, 5, 6, 7, 8, 2, 1, 0] rfl (ih _ _ _ _ _ h)
              · refine ww_iload C 8 dX6_skies_103 rfl 105 rfl ?_
                refine ww_goto C 110 dX6_skies_105 (by decide) ?_
                refine ww_istore C [(7, .int x8), (6, .int v38), (9, .int (1 : Int32)), (0, .ref (ad 0)), (1, .int a1), (2, .int a2), (3, .int a3), (5, .int x5), (8, .int x8)] dX6_skies_110 (by decide) rfl 112 rfl ?_
                refine ww_iinc C 8 (1 : Int32) (by decide) (fun v41 => [(8, .int v41), (7, .int x8), (6, .int v38), (9, .int (1 : Int32)), (0, .ref (ad 0)), (1, .int a1), (2, .int a2), (3, .int a3), (5, .int x5)]) dX6_skies_112 rfl (by decide) (fun _ => rfl) h 115 rfl (fun v41 h => ?_)
                refine ww_goto C 45 dX6_skies_115 (by decide) ?_
                exact ww_sub [4, 5, 6, 7, 8, 2, 1, 0] rfl (ih _ _ _ _ _ h)
          · refine ww_iconst C (1 : Int32) dX6_skies_84 (by decide) 85 rfl ?_
            refine ww_goto C 89 dX6_skies_85 (by decide) ?_
            refine ww_iadd C dX6_skies_89 90 rfl ?_
            refine ww_bi h (fun v42 h => ?_)
            refine ww_istore C [(6, .int v42), (9, .int (1 : Int32)), (0, .ref (ad 0)), (1, .int a1), (2, .int a2), (3, .int a3), (5, .int x5), (7, .int x7), (8, .int x8)] dX6_skies_90 (by decide) rfl 92 rfl ?_
            refine ww_iload C 1 dX6_skies_92 rfl 94 rfl ?_
            refine ww_if_eq C 108 dX6_skies_94 (by decide) h 97 rfl (fun h => ?_) (fun h => ?_)
            · refine ww_iload C 7 dX6_skies_108 rfl 110 rfl ?_
              refine ww_istore C [(7, .int x7), (6, .int v42), (9, .int (1 : Int32)), (0, .ref (ad 0)), (1, .int a1), (2, .int a2), (3, .int a3), (5, .int x5), (8, .int x8)] dX6_skies_110 (by decide) rfl 112 rfl ?_
              refine ww_iinc C 8 (1 : Int32) (by decide) (fun v43 => [(8, .int v43), (7, .int x7), (6, .int v42), (9, .int (1 : Int32)), (0, .ref (ad 0)), (1, .int a1), (2, .int a2), (3, .int a3), (5, .int x5)]) dX6_skies_112 rfl (by decide) (fun _ => rfl) h 115 rfl (fun v43 h => ?_)
              refine ww_goto C 45 dX6_skies_115 (by decide) ?_
              exact ww_sub [4, 5, 6, 7, 8, 2, 1, 0] rfl (ih _ _ _ _ _ h)
            · refine ww_iload C 7 dX6_skies_97 rfl 99 rfl ?_
              refine ww_iconst C (-1 : Int32) dX6_skies_99 (by decide) 100 rfl ?_
              refine ww_icmp_ne C 108 dX6_skies_100 (by decide) h 103 rfl (fun h => ?_) (fun h => ?_)
              · refine ww_iload C 7 dX6_skies_108 rfl 110 rfl ?_
                refine ww_istore C [(7, .int x7), (6, .int v42), (9, .int (1 : Int32)), (0, .ref (ad 0)), (1, .int a1), (2, .int a2), (3, .int a3), (5, .int x5), (8, .int x8)] dX6_skies_110 (by decide) rfl 112 rfl ?_
                refine ww_iinc C 8 (1 : Int32) (by decide) (fun v44 => [(8, .int v44), (7, .int x7), (6, .int v42), (9, .int (1 : Int32)), (0, .ref (ad 0)), (1, .int a1), (2, .int a2), (3, .int a3), (5, .int x5)]) dX6_skies_112 rfl (by decide) (fun _ => rfl) h 115 rfl (fun v44 h => ?_)
                refine ww_goto C 45 dX6_skies_115 (by decide) ?_
                exact ww_sub [4, 5, 6, 7, 8, 2, 1, 0] rfl (ih _ _ _ _ _ h)
              · refine ww_iload C 8 dX6_skies_103 rfl 105 rfl ?_
                refine ww_goto C 110 dX6_skies_105 (by decide) ?_
                refine ww_istore C [(7, .int x8), (6, .int v42), (9, .int (1 : Int32)), (0, .ref (ad 0)), (1, .int a1), (2, .int a2), (3, .int a3), (5, .int x5), (8, .int x8)] dX6_skies_110 (by decide) rfl 112 rfl ?_
                refine ww_iinc C 8 (1 : Int32) (by decide) (fun v45 => [(8, .int v45), (7, .int x8), (6, .int v42), (9, .int (1 : Int32)), (0, .ref (ad 0)), (1, .int a1), (2, .int a2), (3, .int a3), (5, .int x5)]) dX6_skies_112 rfl (by decide) (fun _ => rfl) h 115 rfl (fun v45 h => ?_)
                refine ww_goto C 45 dX6_skies_115 (by decide) ?_
                exact ww_sub [4, 5, 6, 7, 8, 2, 1, 0] rfl (ih _ _ _ _ _ h)
  rw [X6_skies] at h
  refine ww_aload_n C 0 dX6_skies_0 rfl rfl 1 rfl ?_
  refine ww_iload_n C 1 dX6_skies_1 rfl rfl 2 rfl ?_
  refine ww_iload_n C 2 dX6_skies_2 rfl rfl 3 rfl ?_
  refine ww_callVi C (As := [.int a1, .int a2]) (st := []) h cl_X6.1 (obM hn) (fun _ _ hF => k_X6_toldWrong hn hF) w_1161 cm_X6_toldWrong (by decide) (by decide) rfl rfl (Nat.le_of_ble_eq_true rfl) dX6_skies_3 6 rfl (fun v47 u46 h => ?_)
  refine ww_istore C [(4, .int v47), (0, .ref (ad 0)), (1, .int a1), (2, .int a2), (3, .int a3)] dX6_skies_6 (by decide) rfl 8 rfl ?_
  refine ww_iload C 0 dX6_skies_8 rfl 10 rfl ?_
  refine ww_if_eq C 16 dX6_skies_10 (by decide) h 13 rfl (fun h => ?_) (fun h => ?_)
  · refine ww_iload_n C 4 dX6_skies_16 rfl rfl 17 rfl ?_
    refine ww_iconst C (0 : Int32) dX6_skies_17 (by decide) 18 rfl ?_
    refine ww_iconst C (1 : Int32) dX6_skies_18 (by decide) 19 rfl ?_
    refine ww_callSi C (As := [.int a3, .int (0 : Int32), .int (1 : Int32)]) (st := []) h (fun _ _ hF => k_X6_in hn hF) w_808 cm_X6_in (by decide) (by decide) rfl rfl (Nat.le_of_ble_eq_true rfl) dX6_skies_19 22 rfl (fun v49 u48 h => ?_)
    refine ww_if_ne C 28 dX6_skies_22 (by decide) h 25 rfl (fun h => ?_) (fun h => ?_)
    · refine ww_aload_n C 1 dX6_skies_28 rfl rfl 29 rfl ?_
      refine ww_getS C cl_X6 (obM hn) 5 (by decide) rfl 5 rfl w_852 dX6_skies_29 32 rfl ?_
      refine ww_iload_n C 3 dX6_skies_32 rfl rfl 33 rfl ?_
      refine ww_iald C (iaM hn 5 6 (by decide) (by decide) rfl) dX6_skies_33 h 34 rfl (fun h => ?_)
      refine ww_bi h (fun v50 h => ?_)
      refine ww_istore C [(5, .int v50), (4, .int v47), (0, .ref (ad 0)), (1, .int a1), (2, .int a2), (3, .int a3)] dX6_skies_34 (by decide) rfl 36 rfl ?_
      refine ww_iconst C (0 : Int32) dX6_skies_36 (by decide) 37 rfl ?_
      refine ww_istore C [(6, .int (0 : Int32)), (5, .int v50), (4, .int v47), (0, .ref (ad 0)), (1, .int a1), (2, .int a2), (3, .int a3)] dX6_skies_37 (by decide) rfl 39 rfl ?_
      refine ww_iconst C (-1 : Int32) dX6_skies_39 (by decide) 40 rfl ?_
      refine ww_istore C [(7, .int (-1 : Int32)), (6, .int (0 : Int32)), (5, .int v50), (4, .int v47), (0, .ref (ad 0)), (1, .int a1), (2, .int a2), (3, .int a3)] dX6_skies_40 (by decide) rfl 42 rfl ?_
      refine ww_iconst C (0 : Int32) dX6_skies_42 (by decide) 43 rfl ?_
      refine ww_istore C [(8, .int (0 : Int32)), (7, .int (-1 : Int32)), (6, .int (0 : Int32)), (5, .int v50), (4, .int v47), (0, .ref (ad 0)), (1, .int a1), (2, .int a2), (3, .int a3)] dX6_skies_43 (by decide) rfl 45 rfl ?_
      exact ww_sub [5, 6, 7, 8, 3, 2, 1, 0] rfl (L45h N _ _ _ _ _ h)
    · refine ww_bipush C (-7 : Int32) dX6_skies_25 (by decide) 27 rfl ?_
      exact ww_iret C dX6_skies_27 hr h
  · refine ww_iload C 0 dX6_skies_13 rfl 15 rfl ?_
    exact ww_iret C dX6_skies_15 hr h

set_option maxRecDepth 100000 in
set_option maxHeartbeats 4000000 in
theorem k_X6_whose {l : Launch} {D : va_G} {ad : Nat → Nat} {cA : Nat → ClassId} {tys : List (ClassId × FieldType)} {n : Nat} {sa : Nat → Nat} (hn : 20 ≤ n) {N : Nat} {g : Mem} {a1 : Int32} {r : Int32} {g1 : Mem} (h : X6_whose N a1 g = some (r, g1)) : CTi l yX6_whose (wsm yX6_whose cX6_whose 5 (some .int)) 6 D YM ad cA tys n sa g [.ref (ad 0), .int a1] r g1 := by
  refine ct_of RX6 rfl (by decide +kernel) (Nat.le_of_ble_eq_true rfl) rfl (fun sz => PBi D YM ad cA n r g1 sz) ?_
  intro p e R s m args below meth c C hr
  have L19h : ∀ (fu : Nat), (∀ (x3 : Int32) (x4 : Int32) (g : Mem), X6_whose_L19 N a1 fu x3 x4 g = some (r, g1) → WW p l e R s m args below meth c 5 D YM ad cA n (MQ below (PBi D YM ad cA n r g1 s.heap.size) args s 0 0 (AA n ad s.heap.size)) g 19 [(0, .ref (ad 0)), (1, .int a1), (3, .int x3), (4, .int x4)] []) := by
    intro fu
    induction fu with
    | zero => intro x3 x4 g h; cases h
    | succ fu ih =>
      intro x3 x4 g h
      rw [X6_whose_L19] at h
      refine ww_iload C 3 dX6_whose_19 rfl 21 rfl ?_
      refine ww_bipush C (6 : Int32) dX6_whose_21 (by decide) 23 rfl ?_
      refine ww_icmp_ge C 54 dX6_whose_23 (by decide) h 26 rfl (fun h => ?_) (fun h => ?_)
      · refine ww_iload_n C 2 dX6_whose_54 rfl rfl 55 rfl ?_
        exact ww_iret C dX6_whose_55 hr h
      · refine ww_iload_n C 2 dX6_whose_26 rfl rfl 27 rfl ?_
        refine ww_aload_n C 0 dX6_whose_27 rfl rfl 28 rfl ?_
        refine ww_iload_n C 1 dX6_whose_28 rfl rfl 29 rfl ?_
        refine ww_iload C 3 dX6_whose_29 rfl 31 rfl ?_
        refine ww_callVi C (As := [.int a1, .int x4]) (st := [.int x3]) h cl_X6.1 (obM hn) (fun _ _ hF => k_X6_unlike hn hF) w_1169 cm_X6_unlike (by decide) (by decide) rfl rfl (Nat.le_of_ble_eq_true rfl) dX6_whose_31 34 rfl (fun v10 u9 h => ?_)
        refine ww_iconst C (-1 : Int32) dX6_whose_34 (by decide) 35 rfl ?_
        refine ww_icmp_ne C 45 dX6_whose_35 (by decide) h 38 rfl (fun h => ?_) (fun h => ?_)
        · refine ww_iconst C (0 : Int32) dX6_whose_45 (by decide) 46 rfl ?_
          refine ww_ior C dX6_whose_46 47 rfl ?_
          refine ww_bi h (fun v11 h => ?_)
          refine ww_istore_n C [(3, .int v11), (0, .ref (ad 0)), (1, .int a1), (4, .int x4)] dX6_whose_47 rfl (by decide) rfl 48 rfl ?_
          refine ww_iinc C 3 (1 : Int32) (by decide) (fun v12 => [(4, .int v12), (3, .int v11), (0, .ref (ad 0)), (1, .int a1)]) dX6_whose_48 rfl (by decide) (fun _ => rfl) h 51 rfl (fun v12 h => ?_)
          refine ww_goto C 19 dX6_whose_51 (by decide) ?_
          exact ww_sub [2, 3, 1, 0] rfl (ih _ _ _ h)
        · refine ww_iconst C (1 : Int32) dX6_whose_38 (by decide) 39 rfl ?_
          refine ww_iload C 3 dX6_whose_39 rfl 41 rfl ?_
          refine ww_ishl C dX6_whose_41 42 rfl ?_
          refine ww_goto C 46 dX6_whose_42 (by decide) ?_
          refine ww_ior C dX6_whose_46 47 rfl ?_
          refine ww_bi h (fun v13 h => ?_)
          refine ww_istore_n C [(3, .int v13), (0, .ref (ad 0)), (1, .int a1), (4, .int x4)] dX6_whose_47 rfl (by decide) rfl 48 rfl ?_
          refine ww_iinc C 3 (1 : Int32) (by decide) (fun v14 => [(4, .int v14), (3, .int v13), (0, .ref (ad 0)), (1, .int a1)]) dX6_whose_48 rfl (by decide) (fun _ => rfl) h 51 rfl (fun v14 h => ?_)
          refine ww_goto C 19 dX6_whose_51 (by decide) ?_
          exact ww_sub [2, 3, 1, 0] rfl (ih _ _ _ h)
  rw [X6_whose] at h
  refine ww_aload_n C 0 dX6_whose_0 rfl rfl 1 rfl ?_
  refine ww_iload_n C 1 dX6_whose_1 rfl rfl 2 rfl ?_
  refine ww_bipush C (20 : Int32) dX6_whose_2 (by decide) 4 rfl ?_
  refine ww_callVi C (As := [.int a1, .int (20 : Int32)]) (st := []) h cl_X6.1 (obM hn) (fun _ _ hF => k_X6_sheetWrong hn hF) w_1165 cm_X6_sheetWrong (by decide) (by decide) rfl rfl (Nat.le_of_ble_eq_true rfl) dX6_whose_4 7 rfl (fun v16 u15 h => ?_)
  refine ww_istore_n C [(2, .int v16), (0, .ref (ad 0)), (1, .int a1)] dX6_whose_7 rfl (by decide) rfl 8 rfl ?_
  refine ww_iload_n C 0 dX6_whose_8 rfl rfl 9 rfl ?_
  refine ww_if_eq C 14 dX6_whose_9 (by decide) h 12 rfl (fun h => ?_) (fun h => ?_)
  · refine ww_iconst C (0 : Int32) dX6_whose_14 (by decide) 15 rfl ?_
    refine ww_istore_n C [(3, .int (0 : Int32)), (2, .int v16), (0, .ref (ad 0)), (1, .int a1)] dX6_whose_15 rfl (by decide) rfl 16 rfl ?_
    refine ww_iconst C (0 : Int32) dX6_whose_16 (by decide) 17 rfl ?_
    refine ww_istore C [(4, .int (0 : Int32)), (3, .int (0 : Int32)), (2, .int v16), (0, .ref (ad 0)), (1, .int a1)] dX6_whose_17 (by decide) rfl 19 rfl ?_
    exact ww_sub [3, 4, 1, 0] rfl (L19h N _ _ _ h)
  · refine ww_iload_n C 0 dX6_whose_12 rfl rfl 13 rfl ?_
    exact ww_iret C dX6_whose_13 hr h

set_option maxRecDepth 100000 in
set_option maxHeartbeats 4000000 in
theorem k_X6_laws {l : Launch} {D : va_G} {ad : Nat → Nat} {cA : Nat → ClassId} {tys : List (ClassId × FieldType)} {n : Nat} {sa : Nat → Nat} (hn : 20 ≤ n) {N : Nat} {g : Mem} {a1 : Int32} {a2 : Int32} {r : Int32} {g1 : Mem} (h : X6_laws N a1 a2 g = some (r, g1)) : CTi l yX6_laws (wsm yX6_laws cX6_laws 7 (some .int)) 6 D YM ad cA tys n sa g [.ref (ad 0), .int a1, .int a2] r g1 := by
  refine ct_of RX6 rfl (by decide +kernel) (Nat.le_of_ble_eq_true rfl) rfl (fun sz => PBi D YM ad cA n r g1 sz) ?_
  intro p e R s m args below meth c C hr
  have L25h : ∀ (fu : Nat), (∀ (x4 : Int32) (x5 : Int32) (x6 : Int32) (g : Mem), X6_laws_L25 N a1 a2 fu x4 x5 x6 g = some (r, g1) → WW p l e R s m args below meth c 7 D YM ad cA n (MQ below (PBi D YM ad cA n r g1 s.heap.size) args s 0 0 (AA n ad s.heap.size)) g 25 [(0, .ref (ad 0)), (1, .int a1), (2, .int a2), (4, .int x4), (5, .int x5), (6, .int x6)] []) := by
    intro fu
    induction fu with
    | zero => intro x4 x5 x6 g h; cases h
    | succ fu ih =>
      intro x4 x5 x6 g h
      rw [X6_laws_L25] at h
      refine ww_iload C 5 dX6_laws_25 rfl 27 rfl ?_
      refine ww_aload_n C 0 dX6_laws_27 rfl rfl 28 rfl ?_
      refine ww_getI C cl_X6 (obM hn) 11 (by decide) rfl w_858 dX6_laws_28 31 rfl ?_
      refine ww_icmp_ge C 69 dX6_laws_31 (by decide) h 34 rfl (fun h => ?_) (fun h => ?_)
      · refine ww_aload_n C 0 dX6_laws_69 rfl rfl 70 rfl ?_
        refine ww_iload C 3 dX6_laws_70 rfl 72 rfl ?_
        refine ww_putI C cl_X6 (obM hn) 12 (by decide) rfl tyX6 tyX6_ok nmX6 rfl rfl rfl w_859 dX6_laws_72 h 75 rfl (fun u12 h => ?_)
        refine ww_iload C 4 dX6_laws_75 rfl 77 rfl ?_
        exact ww_iret C dX6_laws_77 hr h
      · refine ww_aload_n C 0 dX6_laws_34 rfl rfl 35 rfl ?_
        refine ww_iload C 5 dX6_laws_35 rfl 37 rfl ?_
        refine ww_putI C cl_X6 (obM hn) 12 (by decide) rfl tyX6 tyX6_ok nmX6 rfl rfl rfl w_859 dX6_laws_37 h 40 rfl (fun u13 h => ?_)
        refine ww_iload C 4 dX6_laws_40 rfl 42 rfl ?_
        refine ww_aload_n C 0 dX6_laws_42 rfl rfl 43 rfl ?_
        refine ww_iload_n C 1 dX6_laws_43 rfl rfl 44 rfl ?_
        refine ww_iload_n C 2 dX6_laws_44 rfl rfl 45 rfl ?_
        refine ww_callVi C (As := [.int a1, .int a2]) (st := [.int x5]) h cl_X6.1 (obM hn) (fun _ _ hF => k_X6_unlike hn hF) w_1169 cm_X6_unlike (by decide) (by decide) rfl rfl (Nat.le_of_ble_eq_true rfl) dX6_laws_45 48 rfl (fun v15 u14 h => ?_)
        refine ww_iconst C (-1 : Int32) dX6_laws_48 (by decide) 49 rfl ?_
        refine ww_icmp_ne C 59 dX6_laws_49 (by decide) h 52 rfl (fun h => ?_) (fun h => ?_)
        · refine ww_iconst C (0 : Int32) dX6_laws_59 (by decide) 60 rfl ?_
          refine ww_ior C dX6_laws_60 61 rfl ?_
          refine ww_bi h (fun v16 h => ?_)
          refine ww_istore C [(5, .int v16), (0, .ref (ad 0)), (1, .int a1), (2, .int a2), (4, .int x4), (6, .int x6)] dX6_laws_61 (by decide) rfl 63 rfl ?_
          refine ww_iinc C 5 (1 : Int32) (by decide) (fun v17 => [(6, .int v17), (5, .int v16), (0, .ref (ad 0)), (1, .int a1), (2, .int a2), (4, .int x4)]) dX6_laws_63 rfl (by decide) (fun _ => rfl) h 66 rfl (fun v17 h => ?_)
          refine ww_goto C 25 dX6_laws_66 (by decide) ?_
          exact ww_sub [2, 3, 4, 5, 1, 0] rfl (ih _ _ _ _ h)
        · refine ww_iconst C (1 : Int32) dX6_laws_52 (by decide) 53 rfl ?_
          refine ww_iload C 5 dX6_laws_53 rfl 55 rfl ?_
          refine ww_ishl C dX6_laws_55 56 rfl ?_
          refine ww_goto C 60 dX6_laws_56 (by decide) ?_
          refine ww_ior C dX6_laws_60 61 rfl ?_
          refine ww_bi h (fun v18 h => ?_)
          refine ww_istore C [(5, .int v18), (0, .ref (ad 0)), (1, .int a1), (2, .int a2), (4, .int x4), (6, .int x6)] dX6_laws_61 (by decide) rfl 63 rfl ?_
          refine ww_iinc C 5 (1 : Int32) (by decide) (fun v19 => [(6, .int v19), (5, .int v18), (0, .ref (ad 0)), (1, .int a1), (2, .int a2), (4, .int x4)]) dX6_laws_63 rfl (by decide) (fun _ => rfl) h 66 rfl (fun v19 h => ?_)
          refine ww_goto C 25 dX6_laws_66 (by decide) ?_
          exact ww_sub [2, 3, 4, 5, 1, 0] rfl (ih _ _ _ _ h)
  rw [X6_laws] at h
  refine ww_aload_n C 0 dX6_laws_0 rfl rfl 1 rfl ?_
  refine ww_iload_n C 1 dX6_laws_1 rfl rfl 2 rfl ?_
  refine ww_iload_n C 2 dX6_laws_2 rfl rfl 3 rfl ?_
  refine ww_callVi C (As := [.int a1, .int a2]) (st := []) h cl_X6.1 (obM hn) (fun _ _ hF => k_X6_toldWrong hn hF) w_1161 cm_X6_toldWrong (by decide) (by decide) rfl rfl (Nat.le_of_ble_eq_true rfl) dX6_laws_3 6 rfl (fun v21 u20 h => ?_)
  refine ww_istore_n C [(3, .int v21), (0, .ref (ad 0)), (1, .int a1), (2, .int a2)] dX6_laws_6 rfl (by decide) rfl 7 rfl ?_
  refine ww_iload_n C 0 dX6_laws_7 rfl rfl 8 rfl ?_
  refine ww_if_eq C 13 dX6_laws_8 (by decide) h 11 rfl (fun h => ?_) (fun h => ?_)
  · refine ww_aload_n C 1 dX6_laws_13 rfl rfl 14 rfl ?_
    refine ww_getI C cl_X6 (obM hn) 12 (by decide) rfl w_859 dX6_laws_14 17 rfl ?_
    refine ww_bi h (fun v22 h => ?_)
    refine ww_istore C [(4, .int v22), (3, .int v21), (0, .ref (ad 0)), (1, .int a1), (2, .int a2)] dX6_laws_17 (by decide) rfl 19 rfl ?_
    refine ww_iconst C (0 : Int32) dX6_laws_19 (by decide) 20 rfl ?_
    refine ww_istore C [(5, .int (0 : Int32)), (4, .int v22), (3, .int v21), (0, .ref (ad 0)), (1, .int a1), (2, .int a2)] dX6_laws_20 (by decide) rfl 22 rfl ?_
    refine ww_iconst C (0 : Int32) dX6_laws_22 (by decide) 23 rfl ?_
    refine ww_istore C [(6, .int (0 : Int32)), (5, .int (0 : Int32)), (4, .int v22), (3, .int v21), (0, .ref (ad 0)), (1, .int a1), (2, .int a2)] dX6_laws_23 (by decide) rfl 25 rfl ?_
    exact ww_sub [4, 5, 6, 2, 1, 0] rfl (L25h N _ _ _ _ h)
  · refine ww_iload_n C 0 dX6_laws_11 rfl rfl 12 rfl ?_
    exact ww_iret C dX6_laws_12 hr h

set_option maxRecDepth 100000 in
set_option maxHeartbeats 4000000 in
theorem k_X6_film {l : Launch} {D : va_G} {ad : Nat → Nat} {cA : Nat → ClassId} {tys : List (ClassId × FieldType)} {n : Nat} {sa : Nat → Nat} (hn : 20 ≤ n) {N : Nat} {g : Mem} {a1 : Int32} {a2 : Int32} {a3 : Int32} {r : Int32} {g1 : Mem} (h : X6_film N a1 a2 a3 g = some (r, g1)) : CTi l yX6_film (wsm yX6_film cX6_film 5 (some .int)) 5 D YM ad cA tys n sa g [.ref (ad 0), .int a1, .int a2, .int a3] r g1 := by
  refine ct_of RX6 rfl (by decide +kernel) (Nat.le_of_ble_eq_true rfl) rfl (fun sz => PBi D YM ad cA n r g1 sz) ?_
  intro p e R s m args below meth c C hr
  have L56h : ∀ (fu : Nat), (∀ (x4 : Int32) (g : Mem), X6_film_L56 N a1 a2 a3 fu x4 g = some (r, g1) → WW p l e R s m args below meth c 5 D YM ad cA n (MQ below (PBi D YM ad cA n r g1 s.heap.size) args s 0 0 (AA n ad s.heap.size)) g 56 [(0, .ref (ad 0)), (1, .int a1), (2, .int a2), (3, .int a3), (4, .int x4)] []) := by
    intro fu
    induction fu with
    | zero => intro x4 g h; cases h
    | succ fu ih =>
      intro x4 g h
      rw [X6_film_L56] at h
      refine ww_iload C 4 dX6_film_56 rfl 58 rfl ?_
      refine ww_bipush C (40 : Int32) dX6_film_58 (by decide) 60 rfl ?_
      refine ww_icmp_ge C 110 dX6_film_60 (by decide) h 63 rfl (fun h => ?_) (fun h => ?_)
      · refine ww_aload_n C 0 dX6_film_110 rfl rfl 111 rfl ?_
        refine ww_callVv C (As := []) (st := []) h cl_X6.1 (obM hn) (fun _ _ hF => k_X6_lays hn hF) w_1101 cm_X6_lays (by decide) (by decide) rfl rfl (Nat.le_of_ble_eq_true rfl) dX6_film_111 114 rfl (fun _ u19 h => ?_)
        refine ww_iload_n C 3 dX6_film_114 rfl rfl 115 rfl ?_
        exact ww_iret C dX6_film_115 hr h
      · refine ww_aload_n C 0 dX6_film_63 rfl rfl 64 rfl ?_
        refine ww_getS C cl_X6 (obM hn) 18 (by decide) rfl 13 rfl w_865 dX6_film_64 67 rfl ?_
        refine ww_bipush C (40 : Int32) dX6_film_67 (by decide) 69 rfl ?_
        refine ww_iload_n C 1 dX6_film_69 rfl rfl 70 rfl ?_
        refine ww_imul C dX6_film_70 71 rfl ?_
        refine ww_iload C 4 dX6_film_71 rfl 73 rfl ?_
        refine ww_iadd C dX6_film_73 74 rfl ?_
        refine ww_iconst C (0 : Int32) dX6_film_74 (by decide) 75 rfl ?_
        refine ww_iast C (iaM hn 13 160 (by decide) (by decide) rfl) dX6_film_75 h 76 rfl (fun u21 h => ?_)
        refine ww_iload C 4 dX6_film_76 rfl 78 rfl ?_
        refine ww_iload_n C 3 dX6_film_78 rfl rfl 79 rfl ?_
        refine ww_icmp_ge C 104 dX6_film_79 (by decide) h 82 rfl (fun h => ?_) (fun h => ?_)
        · refine ww_iinc C 4 (1 : Int32) (by decide) (fun v22 => [(4, .int v22), (0, .ref (ad 0)), (1, .int a1), (2, .int a2), (3, .int a3)]) dX6_film_104 rfl (by decide) (fun _ => rfl) h 107 rfl (fun v22 h => ?_)
          refine ww_goto C 56 dX6_film_107 (by decide) ?_
          exact ww_sub [1, 2, 3, 4, 0] rfl (ih _ _ h)
        · refine ww_aload_n C 0 dX6_film_82 rfl rfl 83 rfl ?_
          refine ww_callVv C (As := []) (st := []) h cl_X6.1 (obM hn) (fun _ _ hF => k_X6_hourOf hn hF) w_1069 cm_X6_hourOf (by decide) (by decide) rfl rfl (Nat.le_of_ble_eq_true rfl) dX6_film_83 86 rfl (fun _ u23 h => ?_)
          refine ww_aload_n C 0 dX6_film_86 rfl rfl 87 rfl ?_
          refine ww_getS C cl_X6 (obM hn) 18 (by decide) rfl 13 rfl w_865 dX6_film_87 90 rfl ?_
          refine ww_bipush C (40 : Int32) dX6_film_90 (by decide) 92 rfl ?_
          refine ww_iload_n C 1 dX6_film_92 rfl rfl 93 rfl ?_
          refine ww_imul C dX6_film_93 94 rfl ?_
          refine ww_iload C 4 dX6_film_94 rfl 96 rfl ?_
          refine ww_iadd C dX6_film_96 97 rfl ?_
          refine ww_aload_n C 0 dX6_film_97 rfl rfl 98 rfl ?_
          refine ww_getS C cl_X6 (obM hn) 5 (by decide) rfl 5 rfl w_852 dX6_film_98 101 rfl ?_
          refine ww_iload_n C 2 dX6_film_101 rfl rfl 102 rfl ?_
          refine ww_iald C (iaM hn 5 6 (by decide) (by decide) rfl) dX6_film_102 h 103 rfl (fun h => ?_)
          refine ww_iast C (iaM hn 13 160 (by decide) (by decide) rfl) dX6_film_103 h 104 rfl (fun u25 h => ?_)
          refine ww_iinc C 4 (1 : Int32) (by decide) (fun v26 => [(4, .int v26), (0, .ref (ad 0)), (1, .int a1), (2, .int a2), (3, .int a3)]) dX6_film_104 rfl (by decide) (fun _ => rfl) h 107 rfl (fun v26 h => ?_)
          refine ww_goto C 56 dX6_film_107 (by decide) ?_
          exact ww_sub [1, 2, 3, 4, 0] rfl (ih _ _ h)
  rw [X6_film] at h
  refine ww_iload_n C 1 dX6_film_0 rfl rfl 1 rfl ?_
  refine ww_iconst C (0 : Int32) dX6_film_1 (by decide) 2 rfl ?_
  refine ww_iconst C (3 : Int32) dX6_film_2 (by decide) 3 rfl ?_
  refine ww_callSi C (As := [.int a1, .int (0 : Int32), .int (3 : Int32)]) (st := []) h (fun _ _ hF => k_X6_in hn hF) w_808 cm_X6_in (by decide) (by decide) rfl rfl (Nat.le_of_ble_eq_true rfl) dX6_film_3 6 rfl (fun v28 u27 h => ?_)
  refine ww_if_ne C 12 dX6_film_6 (by decide) h 9 rfl (fun h => ?_) (fun h => ?_)
  · refine ww_iload_n C 2 dX6_film_12 rfl rfl 13 rfl ?_
    refine ww_callSi C (As := [.int a2]) (st := []) h (fun _ _ hF => k_X6_isSky hn hF) w_992 cm_X6_isSky (by decide) (by decide) rfl rfl (Nat.le_of_ble_eq_true rfl) dX6_film_13 16 rfl (fun v30 u29 h => ?_)
    refine ww_if_ne C 22 dX6_film_16 (by decide) h 19 rfl (fun h => ?_) (fun h => ?_)
    · refine ww_iload_n C 3 dX6_film_22 rfl rfl 23 rfl ?_
      refine ww_iconst C (0 : Int32) dX6_film_23 (by decide) 24 rfl ?_
      refine ww_bipush C (20 : Int32) dX6_film_24 (by decide) 26 rfl ?_
      refine ww_callSi C (As := [.int a3, .int (0 : Int32), .int (20 : Int32)]) (st := []) h (fun _ _ hF => k_X6_in hn hF) w_808 cm_X6_in (by decide) (by decide) rfl rfl (Nat.le_of_ble_eq_true rfl) dX6_film_26 29 rfl (fun v32 u31 h => ?_)
      refine ww_if_ne C 35 dX6_film_29 (by decide) h 32 rfl (fun h => ?_) (fun h => ?_)
      · refine ww_aload_n C 0 dX6_film_35 rfl rfl 36 rfl ?_
        refine ww_getS C cl_X6 (obM hn) 16 (by decide) rfl 11 rfl w_863 dX6_film_36 39 rfl ?_
        refine ww_iload_n C 1 dX6_film_39 rfl rfl 40 rfl ?_
        refine ww_iconst C (0 : Int32) dX6_film_40 (by decide) 41 rfl ?_
        refine ww_iast C (iaM hn 11 4 (by decide) (by decide) rfl) dX6_film_41 h 42 rfl (fun u33 h => ?_)
        refine ww_aload_n C 0 dX6_film_42 rfl rfl 43 rfl ?_
        refine ww_getS C cl_X6 (obM hn) 17 (by decide) rfl 12 rfl w_864 dX6_film_43 46 rfl ?_
        refine ww_iload_n C 1 dX6_film_46 rfl rfl 47 rfl ?_
        refine ww_iload_n C 3 dX6_film_47 rfl rfl 48 rfl ?_
        refine ww_iast C (iaM hn 12 4 (by decide) (by decide) rfl) dX6_film_48 h 49 rfl (fun u34 h => ?_)
        refine ww_aload_n C 0 dX6_film_49 rfl rfl 50 rfl ?_
        refine ww_callVv C (As := []) (st := []) h cl_X6.1 (obM hn) (fun _ _ hF => k_X6_keeps hn hF) w_1093 cm_X6_keeps (by decide) (by decide) rfl rfl (Nat.le_of_ble_eq_true rfl) dX6_film_50 53 rfl (fun _ u35 h => ?_)
        refine ww_iconst C (0 : Int32) dX6_film_53 (by decide) 54 rfl ?_
        refine ww_istore C [(4, .int (0 : Int32)), (0, .ref (ad 0)), (1, .int a1), (2, .int a2), (3, .int a3)] dX6_film_54 (by decide) rfl 56 rfl ?_
        exact ww_sub [1, 2, 3, 4, 0] rfl (L56h N _ _ h)
      · refine ww_bipush C (-7 : Int32) dX6_film_32 (by decide) 34 rfl ?_
        exact ww_iret C dX6_film_34 hr h
    · refine ww_bipush C (-5 : Int32) dX6_film_19 (by decide) 21 rfl ?_
      exact ww_iret C dX6_film_21 hr h
  · refine ww_bipush C (-2 : Int32) dX6_film_9 (by decide) 11 rfl ?_
    exact ww_iret C dX6_film_11 hr h

set_option maxRecDepth 100000 in
set_option maxHeartbeats 4000000 in
theorem k_X6_divesWrong {l : Launch} {D : va_G} {ad : Nat → Nat} {cA : Nat → ClassId} {tys : List (ClassId × FieldType)} {n : Nat} {sa : Nat → Nat} (hn : 20 ≤ n) {N : Nat} {g : Mem} {a1 : Int32} {a2 : Int32} {r : Int32} {g1 : Mem} (h : X6_divesWrong N a1 a2 g = some (r, g1)) : CTi l yX6_divesWrong (wsm yX6_divesWrong cX6_divesWrong 4 (some .int)) 3 D YM ad cA tys n sa g [.ref (ad 0), .int a1, .int a2] r g1 := by
  refine ct_of RX6 rfl (by decide +kernel) (Nat.le_of_ble_eq_true rfl) rfl (fun sz => PBi D YM ad cA n r g1 sz) ?_
  intro p e R s m args below meth c C hr
  rw [X6_divesWrong] at h
  refine ww_aload_n C 0 dX6_divesWrong_0 rfl rfl 1 rfl ?_
  refine ww_iload_n C 1 dX6_divesWrong_1 rfl rfl 2 rfl ?_
  refine ww_bipush C (12 : Int32) dX6_divesWrong_2 (by decide) 4 rfl ?_
  refine ww_callVi C (As := [.int a1, .int (12 : Int32)]) (st := []) h cl_X6.1 (obM hn) (fun _ _ hF => k_X6_sheetWrong hn hF) w_1165 cm_X6_sheetWrong (by decide) (by decide) rfl rfl (Nat.le_of_ble_eq_true rfl) dX6_divesWrong_4 7 rfl (fun v6 u5 h => ?_)
  refine ww_istore_n C [(3, .int v6), (0, .ref (ad 0)), (1, .int a1), (2, .int a2)] dX6_divesWrong_7 rfl (by decide) rfl 8 rfl ?_
  refine ww_iload_n C 0 dX6_divesWrong_8 rfl rfl 9 rfl ?_
  refine ww_if_eq C 16 dX6_divesWrong_9 (by decide) h 12 rfl (fun h => ?_) (fun h => ?_)
  · refine ww_aload_n C 1 dX6_divesWrong_16 rfl rfl 17 rfl ?_
    refine ww_iload_n C 3 dX6_divesWrong_17 rfl rfl 18 rfl ?_
    refine ww_callVi C (As := [.int a2]) (st := []) h cl_X6.1 (obM hn) (fun _ _ hF => k_X6_isOne hn hF) w_995 cm_X6_isOne (by decide) (by decide) rfl rfl (Nat.le_of_ble_eq_true rfl) dX6_divesWrong_18 21 rfl (fun v8 u7 h => ?_)
    refine ww_if_eq C 28 dX6_divesWrong_21 (by decide) h 24 rfl (fun h => ?_) (fun h => ?_)
    · refine ww_bipush C (-5 : Int32) dX6_divesWrong_28 (by decide) 30 rfl ?_
      exact ww_iret C dX6_divesWrong_30 hr h
    · refine ww_iconst C (0 : Int32) dX6_divesWrong_24 (by decide) 25 rfl ?_
      refine ww_goto C 30 dX6_divesWrong_25 (by decide) ?_
      exact ww_iret C dX6_divesWrong_30 hr h
  · refine ww_iload_n C 0 dX6_divesWrong_12 rfl rfl 13 rfl ?_
    refine ww_goto C 30 dX6_divesWrong_13 (by decide) ?_
    exact ww_iret C dX6_divesWrong_30 hr h

set_option maxRecDepth 100000 in
set_option maxHeartbeats 4000000 in
theorem k_X6_divesSo {l : Launch} {D : va_G} {ad : Nat → Nat} {cA : Nat → ClassId} {tys : List (ClassId × FieldType)} {n : Nat} {sa : Nat → Nat} (hn : 20 ≤ n) {N : Nat} {g : Mem} {a1 : Int32} {a2 : Int32} {r : Int32} {g1 : Mem} (h : X6_divesSo N a1 a2 g = some (r, g1)) : CTi l yX6_divesSo (wsm yX6_divesSo cX6_divesSo 4 (some .boolean)) 6 D YM ad cA tys n sa g [.ref (ad 0), .int a1, .int a2] r g1 := by
  refine ct_of RX6 rfl (by decide +kernel) (Nat.le_of_ble_eq_true rfl) rfl (fun sz => PBi D YM ad cA n r g1 sz) ?_
  intro p e R s m args below meth c C hr
  have L2h : ∀ (fu : Nat), (∀ (x3 : Int32) (g : Mem), X6_divesSo_L2 N a1 a2 fu x3 g = some (r, g1) → WW p l e R s m args below meth c 4 D YM ad cA n (MQ below (PBi D YM ad cA n r g1 s.heap.size) args s 0 0 (AA n ad s.heap.size)) g 2 [(0, .ref (ad 0)), (1, .int a1), (2, .int a2), (3, .int x3)] []) := by
    intro fu
    induction fu with
    | zero => intro x3 g h; cases h
    | succ fu ih =>
      intro x3 g h
      rw [X6_divesSo_L2] at h
      refine ww_iload_n C 3 dX6_divesSo_2 rfl rfl 3 rfl ?_
      refine ww_aload_n C 0 dX6_divesSo_3 rfl rfl 4 rfl ?_
      refine ww_getS C cl_X6 (obM hn) 17 (by decide) rfl 12 rfl w_864 dX6_divesSo_4 7 rfl ?_
      refine ww_iload_n C 1 dX6_divesSo_7 rfl rfl 8 rfl ?_
      refine ww_iald C (iaM hn 12 4 (by decide) (by decide) rfl) dX6_divesSo_8 h 9 rfl (fun h => ?_)
      refine ww_icmp_ge C 54 dX6_divesSo_9 (by decide) h 12 rfl (fun h => ?_) (fun h => ?_)
      · refine ww_iconst C (1 : Int32) dX6_divesSo_54 (by decide) 55 rfl ?_
        exact ww_zret C dX6_divesSo_55 hr rfl h
      · refine ww_iload_n C 3 dX6_divesSo_12 rfl rfl 13 rfl ?_
        refine ww_bipush C (12 : Int32) dX6_divesSo_13 (by decide) 15 rfl ?_
        refine ww_icmp_ge C 54 dX6_divesSo_15 (by decide) h 18 rfl (fun h => ?_) (fun h => ?_)
        · refine ww_iconst C (1 : Int32) dX6_divesSo_54 (by decide) 55 rfl ?_
          exact ww_zret C dX6_divesSo_55 hr rfl h
        · refine ww_aload_n C 0 dX6_divesSo_18 rfl rfl 19 rfl ?_
          refine ww_getS C cl_X6 (obM hn) 18 (by decide) rfl 13 rfl w_865 dX6_divesSo_19 22 rfl ?_
          refine ww_bipush C (40 : Int32) dX6_divesSo_22 (by decide) 24 rfl ?_
          refine ww_iload_n C 1 dX6_divesSo_24 rfl rfl 25 rfl ?_
          refine ww_imul C dX6_divesSo_25 26 rfl ?_
          refine ww_iload_n C 3 dX6_divesSo_26 rfl rfl 27 rfl ?_
          refine ww_iadd C dX6_divesSo_27 28 rfl ?_
          refine ww_iald C (iaM hn 13 160 (by decide) (by decide) rfl) dX6_divesSo_28 h 29 rfl (fun h => ?_)
          refine ww_aload_n C 0 dX6_divesSo_29 rfl rfl 30 rfl ?_
          refine ww_iload_n C 2 dX6_divesSo_30 rfl rfl 31 rfl ?_
          refine ww_iload_n C 3 dX6_divesSo_31 rfl rfl 32 rfl ?_
          refine ww_callVi C (As := [.int a2, .int x3]) (st := [.int (g.1 13 (((40 : Int32) * a1) + x3).toNatClampNeg)]) h cl_X6.1 (obM hn) (fun _ _ hF => k_X6_can hn hF) w_1029 cm_X6_can (by decide) (by decide) rfl rfl (Nat.le_of_ble_eq_true rfl) dX6_divesSo_32 35 rfl (fun v6 u5 h => ?_)
          refine ww_if_eq C 42 dX6_divesSo_35 (by decide) h 38 rfl (fun h => ?_) (fun h => ?_)
          · refine ww_iconst C (0 : Int32) dX6_divesSo_42 (by decide) 43 rfl ?_
            refine ww_icmp_eq C 48 dX6_divesSo_43 (by decide) h 46 rfl (fun h => ?_) (fun h => ?_)
            · refine ww_iinc C 3 (1 : Int32) (by decide) (fun v7 => [(3, .int v7), (0, .ref (ad 0)), (1, .int a1), (2, .int a2)]) dX6_divesSo_48 rfl (by decide) (fun _ => rfl) h 51 rfl (fun v7 h => ?_)
              refine ww_goto C 2 dX6_divesSo_51 (by decide) ?_
              exact ww_sub [1, 2, 3, 0] rfl (ih _ _ h)
            · refine ww_iconst C (0 : Int32) dX6_divesSo_46 (by decide) 47 rfl ?_
              exact ww_zret C dX6_divesSo_47 hr rfl h
          · refine ww_iconst C (1 : Int32) dX6_divesSo_38 (by decide) 39 rfl ?_
            refine ww_goto C 43 dX6_divesSo_39 (by decide) ?_
            refine ww_icmp_eq C 48 dX6_divesSo_43 (by decide) h 46 rfl (fun h => ?_) (fun h => ?_)
            · refine ww_iinc C 3 (1 : Int32) (by decide) (fun v8 => [(3, .int v8), (0, .ref (ad 0)), (1, .int a1), (2, .int a2)]) dX6_divesSo_48 rfl (by decide) (fun _ => rfl) h 51 rfl (fun v8 h => ?_)
              refine ww_goto C 2 dX6_divesSo_51 (by decide) ?_
              exact ww_sub [1, 2, 3, 0] rfl (ih _ _ h)
            · refine ww_iconst C (0 : Int32) dX6_divesSo_46 (by decide) 47 rfl ?_
              exact ww_zret C dX6_divesSo_47 hr rfl h
  rw [X6_divesSo] at h
  refine ww_iconst C (0 : Int32) dX6_divesSo_0 (by decide) 1 rfl ?_
  refine ww_istore_n C [(3, .int (0 : Int32)), (0, .ref (ad 0)), (1, .int a1), (2, .int a2)] dX6_divesSo_1 rfl (by decide) rfl 2 rfl ?_
  exact ww_sub [1, 2, 3, 0] rfl (L2h N _ _ h)

set_option maxRecDepth 100000 in
set_option maxHeartbeats 4000000 in
theorem k_X6_kinds {l : Launch} {D : va_G} {ad : Nat → Nat} {cA : Nat → ClassId} {tys : List (ClassId × FieldType)} {n : Nat} {sa : Nat → Nat} (hn : 20 ≤ n) {N : Nat} {g : Mem} {a1 : Int32} {a2 : Int32} {a3 : Int32} {r : Int32} {g1 : Mem} (h : X6_kinds N a1 a2 a3 g = some (r, g1)) : CTi l yX6_kinds (wsm yX6_kinds cX6_kinds 9 (some .int)) 7 D YM ad cA tys n sa g [.ref (ad 0), .int a1, .int a2, .int a3] r g1 := by
  refine ct_of RX6 rfl (by decide +kernel) (Nat.le_of_ble_eq_true rfl) rfl (fun sz => PBi D YM ad cA n r g1 sz) ?_
  intro p e R s m args below meth c C hr
  have L50h : ∀ (fu : Nat), (∀ (x5 : Int32) (x6 : Int32) (x7 : Int32) (x8 : Int32) (g : Mem), X6_kinds_L50 N a1 a2 a3 fu x5 x6 x7 x8 g = some (r, g1) → WW p l e R s m args below meth c 9 D YM ad cA n (MQ below (PBi D YM ad cA n r g1 s.heap.size) args s 0 0 (AA n ad s.heap.size)) g 50 [(0, .ref (ad 0)), (1, .int a1), (2, .int a2), (3, .int a3), (5, .int x5), (6, .int x6), (7, .int x7), (8, .int x8)] []) := by
    intro fu
    induction fu with
    | zero => intro x5 x6 x7 x8 g h; cases h
    | succ fu ih =>
      intro x5 x6 x7 x8 g h
      rw [X6_kinds_L50] at h
      refine ww_iload C 7 dX6_kinds_50 rfl 52 rfl ?_
      refine ww_iload_n C 3 dX6_kinds_52 rfl rfl 53 rfl ?_
      refine ww_if_ne C 61 dX6_kinds_53 (by decide) h 56 rfl (fun h => ?_) (fun h => ?_)
      · refine ww_bipush C (10 : Int32) dX6_kinds_61 (by decide) 63 rfl ?_
        refine ww_icmp_ge C 129 dX6_kinds_63 (by decide) h 66 rfl (fun h => ?_) (fun h => ?_)
        · refine ww_aload_n C 0 dX6_kinds_129 rfl rfl 130 rfl ?_
          refine ww_getS C cl_X6 (obM hn) 1 (by decide) rfl 1 rfl w_848 dX6_kinds_130 133 rfl ?_
          refine ww_iload_n C 2 dX6_kinds_133 rfl rfl 134 rfl ?_
          refine ww_iload C 4 dX6_kinds_134 rfl 136 rfl ?_
          refine ww_iast C (iaM hn 1 6 (by decide) (by decide) rfl) dX6_kinds_136 h 137 rfl (fun u71 h => ?_)
          refine ww_aload_n C 0 dX6_kinds_137 rfl rfl 138 rfl ?_
          refine ww_getS C cl_X6 (obM hn) 2 (by decide) rfl 2 rfl w_849 dX6_kinds_138 141 rfl ?_
          refine ww_iload_n C 2 dX6_kinds_141 rfl rfl 142 rfl ?_
          refine ww_iload C 5 dX6_kinds_142 rfl 144 rfl ?_
          refine ww_iast C (iaM hn 2 6 (by decide) (by decide) rfl) dX6_kinds_144 h 145 rfl (fun u72 h => ?_)
          refine ww_iload C 6 dX6_kinds_145 rfl 147 rfl ?_
          exact ww_iret C dX6_kinds_147 hr h
        · refine ww_aload_n C 0 dX6_kinds_66 rfl rfl 67 rfl ?_
          refine ww_getS C cl_X6 (obM hn) 1 (by decide) rfl 1 rfl w_848 dX6_kinds_67 70 rfl ?_
          refine ww_iload_n C 2 dX6_kinds_70 rfl rfl 71 rfl ?_
          refine ww_iload_n C 3 dX6_kinds_71 rfl rfl 72 rfl ?_
          refine ww_if_ne C 80 dX6_kinds_72 (by decide) h 75 rfl (fun h => ?_) (fun h => ?_)
          · refine ww_iload C 4 dX6_kinds_80 rfl 82 rfl ?_
            refine ww_iast C (iaM hn 1 6 (by decide) (by decide) rfl) dX6_kinds_82 h 83 rfl (fun u73 h => ?_)
            refine ww_aload_n C 0 dX6_kinds_83 rfl rfl 84 rfl ?_
            refine ww_getS C cl_X6 (obM hn) 2 (by decide) rfl 2 rfl w_849 dX6_kinds_84 87 rfl ?_
            refine ww_iload_n C 2 dX6_kinds_87 rfl rfl 88 rfl ?_
            refine ww_iload_n C 3 dX6_kinds_88 rfl rfl 89 rfl ?_
            refine ww_iconst C (1 : Int32) dX6_kinds_89 (by decide) 90 rfl ?_
            refine ww_icmp_ne C 98 dX6_kinds_90 (by decide) h 93 rfl (fun h => ?_) (fun h => ?_)
            · refine ww_iload C 5 dX6_kinds_98 rfl 100 rfl ?_
              refine ww_iast C (iaM hn 2 6 (by decide) (by decide) rfl) dX6_kinds_100 h 101 rfl (fun u74 h => ?_)
              refine ww_iload C 6 dX6_kinds_101 rfl 103 rfl ?_
              refine ww_aload_n C 0 dX6_kinds_103 rfl rfl 104 rfl ?_
              refine ww_iload_n C 1 dX6_kinds_104 rfl rfl 105 rfl ?_
              refine ww_iload_n C 2 dX6_kinds_105 rfl rfl 106 rfl ?_
              refine ww_callVi C (As := [.int a1, .int a2]) (st := [.int x7]) h cl_X6.1 (obM hn) (fun _ _ hF => k_X6_divesSo hn hF) w_1201 cm_X6_divesSo (by decide) (by decide) rfl rfl (Nat.le_of_ble_eq_true rfl) dX6_kinds_106 109 rfl (fun v76 u75 h => ?_)
              refine ww_if_eq C 119 dX6_kinds_109 (by decide) h 112 rfl (fun h => ?_) (fun h => ?_)
              · refine ww_iconst C (0 : Int32) dX6_kinds_119 (by decide) 120 rfl ?_
                refine ww_ior C dX6_kinds_120 121 rfl ?_
                refine ww_bi h (fun v77 h => ?_)
                refine ww_istore C [(7, .int v77), (0, .ref (ad 0)), (1, .int a1), (2, .int a2), (3, .int a3), (5, .int x5), (6, .int x6), (8, .int x8)] dX6_kinds_121 (by decide) rfl 123 rfl ?_
                refine ww_iinc C 7 (1 : Int32) (by decide) (fun v78 => [(8, .int v78), (7, .int v77), (0, .ref (ad 0)), (1, .int a1), (2, .int a2), (3, .int a3), (5, .int x5), (6, .int x6)]) dX6_kinds_123 rfl (by decide) (fun _ => rfl) h 126 rfl (fun v78 h => ?_)
                refine ww_goto C 50 dX6_kinds_126 (by decide) ?_
                exact ww_sub [2, 3, 4, 5, 6, 7, 1, 0] rfl (ih _ _ _ _ _ h)
              · refine ww_iconst C (1 : Int32) dX6_kinds_112 (by decide) 113 rfl ?_
                refine ww_iload C 7 dX6_kinds_113 rfl 115 rfl ?_
                refine ww_ishl C dX6_kinds_115 116 rfl ?_
                refine ww_goto C 120 dX6_kinds_116 (by decide) ?_
                refine ww_ior C dX6_kinds_120 121 rfl ?_
                refine ww_bi h (fun v79 h => ?_)
                refine ww_istore C [(7, .int v79), (0, .ref (ad 0)), (1, .int a1), (2, .int a2), (3, .int a3), (5, .int x5), (6, .int x6), (8, .int x8)] dX6_kinds_121 (by decide) rfl 123 rfl ?_
                refine ww_iinc C 7 (1 : Int32) (by decide) (fun v80 => [(8, .int v80), (7, .int v79), (0, .ref (ad 0)), (1, .int a1), (2, .int a2), (3, .int a3), (5, .int x5), (6, .int x6)]) dX6_kinds_123 rfl (by decide) (fun _ => rfl) h 126 rfl (fun v80 h => ?_)
                refine ww_goto C 50 dX6_kinds_126 (by decide) ?_
                exact ww_sub [2, 3, 4, 5, 6, 7, 1, 0] rfl (ih _ _ _ _ _ h)
            · refine ww_iload C 7 dX6_kinds_93 rfl 95 rfl ?_
              refine ww_goto C 100 dX6_kinds_95 (by decide) ?_
              refine ww_iast C (iaM hn 2 6 (by decide) (by decide) rfl) dX6_kinds_100 h 101 rfl (fun u81 h => ?_)
              refine ww_iload C 6 dX6_kinds_101 rfl 103 rfl ?_
              refine ww_aload_n C 0 dX6_kinds_103 rfl rfl 104 rfl ?_
              refine ww_iload_n C 1 dX6_kinds_104 rfl rfl 105 rfl ?_
              refine ww_iload_n C 2 dX6_kinds_105 rfl rfl 106 rfl ?_
              refine ww_callVi C (As := [.int a1, .int a2]) (st := [.int x7]) h cl_X6.1 (obM hn) (fun _ _ hF => k_X6_divesSo hn hF) w_1201 cm_X6_divesSo (by decide) (by decide) rfl rfl (Nat.le_of_ble_eq_true rfl) dX6_kinds_106 109 rfl (fun v83 u82 h => ?_)
              refine ww_if_eq C 119 dX6_kinds_109 (by decide) h 112 rfl (fun h => ?_) (fun h => ?_)
              · refine ww_iconst C (0 : Int32) dX6_kinds_119 (by decide) 120 rfl ?_
                refine ww_ior C dX6_kinds_120 121 rfl ?_
                refine ww_bi h (fun v84 h => ?_)
                refine ww_istore C [(7, .int v84), (0, .ref (ad 0)), (1, .int a1), (2, .int a2), (3, .int a3), (5, .int x5), (6, .int x6), (8, .int x8)] dX6_kinds_121 (by decide) rfl 123 rfl ?_
                refine ww_iinc C 7 (1 : Int32) (by decide) (fun v85 => [(8, .int v85), (7, .int v84), (0, .ref (ad 0)), (1, .int a1), (2, .int a2), (3, .int a3), (5, .int x5), (6, .int x6)]) dX6_kinds_123 rfl (by decide) (fun _ => rfl) h 126 rfl (fun v85 h => ?_)
                refine ww_goto C 50 dX6_kinds_126 (by decide) ?_
                exact ww_sub [2, 3, 4, 5, 6, 7, 1, 0] rfl (ih _ _ _ _ _ h)
              · refine ww_iconst C (1 : Int32) dX6_kinds_112 (by decide) 113 rfl ?_
                refine ww_iload C 7 dX6_kinds_113 rfl 115 rfl ?_
                refine ww_ishl C dX6_kinds_115 116 rfl ?_
                refine ww_goto C 120 dX6_kinds_116 (by decide) ?_
                refine ww_ior C dX6_kinds_120 121 rfl ?_
                refine ww_bi h (fun v86 h => ?_)
                refine ww_istore C [(7, .int v86), (0, .ref (ad 0)), (1, .int a1), (2, .int a2), (3, .int a3), (5, .int x5), (6, .int x6), (8, .int x8)] dX6_kinds_121 (by decide) rfl 123 rfl ?_
                refine ww_iinc C 7 (1 : Int32) (by decide) (fun v87 => [(8, .int v87), (7, .int v86), (0, .ref (ad 0)), (1, .int a1), (2, .int a2), (3, .int a3), (5, .int x5), (6, .int x6)]) dX6_kinds_123 rfl (by decide) (fun _ => rfl) h 126 rfl (fun v87 h => ?_)
                refine ww_goto C 50 dX6_kinds_126 (by decide) ?_
                exact ww_sub [2, 3, 4, 5, 6, 7, 1, 0] rfl (ih _ _ _ _ _ h)
          · refine ww_iload C 7 dX6_kinds_75 rfl 77 rfl ?_
            refine ww_goto C 82 dX6_kinds_77 (by decide) ?_
            refine ww_iast C (iaM hn 1 6 (by decide) (by decide) rfl) dX6_kinds_82 h 83 rfl (fun u88 h => ?_)
            refine ww_aload_n C 0 dX6_kinds_83 rfl rfl 84 rfl ?_
            refine ww_getS C cl_X6 (obM hn) 2 (by decide) rfl 2 rfl w_849 dX6_kinds_84 87 rfl ?_
            refine ww_iload_n C 2 dX6_kinds_87 rfl rfl 88 rfl ?_
            refine ww_iload_n C 3 dX6_kinds_88 rfl rfl 89 rfl ?_
            refine ww_iconst C (1 : Int32) dX6_kinds_89 (by decide) 90 rfl ?_
            refine ww_icmp_ne C 98 dX6_kinds_90 (by decide) h 93 rfl (fun h => ?_) (fun h => ?_)
            · refine ww_iload C 5 dX6_kinds_98 rfl 100 rfl ?_
              refine ww_iast C (iaM hn 2 6 (by decide) (by decide) rfl) dX6_kinds_100 h 101 rfl (fun u89 h => ?_)
              refine ww_iload C 6 dX6_kinds_101 rfl 103 rfl ?_
              refine ww_aload_n C 0 dX6_kinds_103 rfl rfl 104 rfl ?_
              refine ww_iload_n C 1 dX6_kinds_104 rfl rfl 105 rfl ?_
              refine ww_iload_n C 2 dX6_kinds_105 rfl rfl 106 rfl ?_
              refine ww_callVi C (As := [.int a1, .int a2]) (st := [.int x7]) h cl_X6.1 (obM hn) (fun _ _ hF => k_X6_divesSo hn hF) w_1201 cm_X6_divesSo (by decide) (by decide) rfl rfl (Nat.le_of_ble_eq_true rfl) dX6_kinds_106 109 rfl (fun v91 u90 h => ?_)
              refine ww_if_eq C 119 dX6_kinds_109 (by decide) h 112 rfl (fun h => ?_) (fun h => ?_)
              · refine ww_iconst C (0 : Int32) dX6_kinds_119 (by decide) 120 rfl ?_
                refine ww_ior C dX6_kinds_120 121 rfl ?_
                refine ww_bi h (fun v92 h => ?_)
                refine ww_istore C [(7, .int v92), (0, .ref (ad 0)), (1, .int a1), (2, .int a2), (3, .int a3), (5, .int x5), (6, .int x6), (8, .int x8)] dX6_kinds_121 (by decide) rfl 123 rfl ?_
                refine ww_iinc C 7 (1 : Int32) (by decide) (fun v93 => [(8, .int v93), (7, .int v92), (0, .ref (ad 0)), (1, .int a1), (2, .int a2), (3, .int a3), (5, .int x5), (6, .int x6)]) dX6_kinds_123 rfl (by decide) (fun _ => rfl) h 126 rfl (fun v93 h => ?_)
                refine ww_goto C 50 dX6_kinds_126 (by decide) ?_
                exact ww_sub [2, 3, 4, 5, 6, 7, 1, 0] rfl (ih _ _ _ _ _ h)
              · refine ww_iconst C (1 : Int32) dX6_kinds_112 (by decide) 113 rfl ?_
                refine ww_iload C 7 dX6_kinds_113 rfl 115 rfl ?_
                refine ww_ishl C dX6_kinds_115 116 rfl ?_
                refine ww_goto C 120 dX6_kinds_116 (by decide) ?_
                refine ww_ior C dX6_kinds_120 121 rfl ?_
                refine ww_bi h (fun v94 h => ?_)
                refine ww_istore C [(7, .int v94), (0, .ref (ad 0)), (1, .int a1), (2, .int a2), (3, .int a3), (5, .int x5), (6, .int x6), (8, .int x8)] dX6_kinds_121 (by decide) rfl 123 rfl ?_
                refine ww_iinc C 7 (1 : Int32) (by decide) (fun v95 => [(8, .int v95), (7, .int v94), (0, .ref (ad 0)), (1, .int a1), (2, .int a2), (3, .int a3), (5, .int x5), (6, .int x6)]) dX6_kinds_123 rfl (by decide) (fun _ => rfl) h 126 rfl (fun v95 h => ?_)
                refine ww_goto C 50 dX6_kinds_126 (by decide) ?_
                exact ww_sub [2, 3, 4, 5, 6, 7, 1, 0] rfl (ih _ _ _ _ _ h)
            · refine ww_iload C 7 dX6_kinds_93 rfl 95 rfl ?_
              refine ww_goto C 100 dX6_kinds_95 (by decide) ?_
              refine ww_iast C (iaM hn 2 6 (by decide) (by decide) rfl) dX6_kinds_100 h 101 rfl (fun u96 h => ?_)
              refine ww_iload C 6 dX6_kinds_101 rfl 103 rfl ?_
              refine ww_aload_n C 0 dX6_kinds_103 rfl rfl 104 rfl ?_
              refine ww_iload_n C 1 dX6_kinds_104 rfl rfl 105 rfl ?_
              refine ww_iload_n C 2 dX6_kinds_105 rfl rfl 106 rfl ?_
              refine ww_callVi C (As := [.int a1, .int a2]) (st := [.int x7]) h cl_X6.1 (obM hn) (fun _ _ hF => k_X6_divesSo hn hF) w_1201 cm_X6_divesSo (by decide) (by decide) rfl rfl (Nat.le_of_ble_eq_true rfl) dX6_kinds_106 109 rfl (fun v98 u97 h => ?_)
              refine ww_if_eq C 119 dX6_kinds_109 (by decide) h 112 rfl (fun h => ?_) (fun h => ?_)
              · refine ww_iconst C (0 : Int32) dX6_kinds_119 (by decide) 120 rfl ?_
                refine ww_ior C dX6_kinds_120 121 rfl ?_
                refine ww_bi h (fun v99 h => ?_)
                refine ww_istore C [(7, .int v99), (0, .ref (ad 0)), (1, .int a1), (2, .int a2), (3, .int a3), (5, .int x5), (6, .int x6), (8, .int x8)] dX6_kinds_121 (by decide) rfl 123 rfl ?_
                refine ww_iinc C 7 (1 : Int32) (by decide) (fun v100 => [(8, .int v100), (7, .int v99), (0, .ref (ad 0)), (1, .int a1), (2, .int a2), (3, .int a3), (5, .int x5), (6, .int x6)]) dX6_kinds_123 rfl (by decide) (fun _ => rfl) h 126 rfl (fun v100 h => ?_)
                refine ww_goto C 50 dX6_kinds_126 (by decide) ?_
                exact ww_sub [2, 3, 4, 5, 6, 7, 1, 0] rfl (ih _ _ _ _ _ h)
              · refine ww_iconst C (1 : Int32) dX6_kinds_112 (by decide) 113 rfl ?_
                refine ww_iload C 7 dX6_kinds_113 rfl 115 rfl ?_
                refine ww_ishl C dX6_kinds_115 116 rfl ?_
                refine ww_goto C 120 dX6_kinds_116 (by decide) ?_
                refine ww_ior C dX6_kinds_120 121 rfl ?_
                refine ww_bi h (fun v101 h => ?_)
                refine ww_istore C [(7, .int v101), (0, .ref (ad 0)), (1, .int a1), (2, .int a2), (3, .int a3), (5, .int x5), (6, .int x6), (8, .int x8)] dX6_kinds_121 (by decide) rfl 123 rfl ?_
                refine ww_iinc C 7 (1 : Int32) (by decide) (fun v102 => [(8, .int v102), (7, .int v101), (0, .ref (ad 0)), (1, .int a1), (2, .int a2), (3, .int a3), (5, .int x5), (6, .int x6)]) dX6_kinds_123 rfl (by decide) (fun _ => rfl) h 126 rfl (fun v102 h => ?_)
                refine ww_goto C 50 dX6_kinds_126 (by decide) ?_
                exact ww_sub [2, 3, 4, 5, 6, 7, 1, 0] rfl (ih _ _ _ _ _ h)
      · refine ww_bipush C (6 : Int32) dX6_kinds_56 (by decide) 58 rfl ?_
        refine ww_goto C 63 dX6_kinds_58 (by decide) ?_
        refine ww_icmp_ge C 129 dX6_kinds_63 (by decide) h 66 rfl (fun h => ?_) (fun h => ?_)
        · refine ww_aload_n C 0 dX6_kinds_129 rfl rfl 130 rfl ?_
          refine ww_getS C cl_X6 (obM hn) 1 (by decide) rfl 1 rfl w_848 dX6_kinds_130 133 rfl ?_
          refine ww_iload_n C 2 dX6_kinds_133 rfl rfl 134 rfl ?_
          refine ww_iload C 4 dX6_kinds_134 rfl 136 rfl ?_
          refine ww_iast C (iaM hn 1 6 (by decide) (by decide) rfl) dX6_kinds_136 h 137 rfl (fun u103 h => ?_)
          refine ww_aload_n C 0 dX6_kinds_137 rfl rfl 138 rfl ?_
          refine ww_getS C cl_X6 (obM hn) 2 (by decide) rfl 2 rfl w_849 dX6_kinds_138 141 rfl ?_
          refine ww_iload_n C 2 dX6_kinds_141 rfl rfl 142 rfl ?_
          refine ww_iload C 5 dX6_kinds_142 rfl 144 rfl ?_
          refine ww_iast C (iaM hn 2 6 (by decide) (by decide) rfl) dX6_kinds_144 h 145 rfl (fun u104 h => ?_)
          refine ww_iload C 6 dX6_kinds_145 rfl 147 rfl ?_
          exact ww_iret C dX6_kinds_147 hr h
        · refine ww_aload_n C 0 dX6_kinds_66 rfl rfl 67 rfl ?_
          refine ww_getS C cl_X6 (obM hn) 1 (by decide) rfl 1 rfl w_848 dX6_kinds_67 70 rfl ?_
          refine ww_iload_n C 2 dX6_kinds_70 rfl rfl 71 rfl ?_
          refine ww_iload_n C 3 dX6_kinds_71 rfl rfl 72 rfl ?_
          refine ww_if_ne C 80 dX6_kinds_72 (by decide) h 75 rfl (fun h => ?_) (fun h => ?_)
          · refine ww_iload C 4 dX6_kinds_80 rfl 82 rfl ?_
            refine ww_iast C (iaM hn 1 6 (by decide) (by decide) rfl) dX6_kinds_82 h 83 rfl (fun u105 h => ?_)
            refine ww_aload_n C 0 dX6_kinds_83 rfl rfl 84 rfl ?_
            refine ww_getS C cl_X6 (obM hn) 2 (by decide) rfl 2 rfl w_849 dX6_kinds_84 87 rfl ?_
            refine ww_iload_n C 2 dX6_kinds_87 rfl rfl 88 rfl ?_
            refine ww_iload_n C 3 dX6_kinds_88 rfl rfl 89 rfl ?_
            refine ww_iconst C (1 : Int32) dX6_kinds_89 (by decide) 90 rfl ?_
            refine ww_icmp_ne C 98 dX6_kinds_90 (by decide) h 93 rfl (fun h => ?_) (fun h => ?_)
            · refine ww_iload C 5 dX6_kinds_98 rfl 100 rfl ?_
              refine ww_iast C (iaM hn 2 6 (by decide) (by decide) rfl) dX6_kinds_100 h 101 rfl (fun u106 h => ?_)
              refine ww_iload C 6 dX6_kinds_101 rfl 103 rfl ?_
              refine ww_aload_n C 0 dX6_kinds_103 rfl rfl 104 rfl ?_
              refine ww_iload_n C 1 dX6_kinds_104 rfl rfl 105 rfl ?_
              refine ww_iload_n C 2 dX6_kinds_105 rfl rfl 106 rfl ?_
              refine ww_callVi C (As := [.int a1, .int a2]) (st := [.int x7]) h cl_X6.1 (obM hn) (fun _ _ hF => k_X6_divesSo hn hF) w_1201 cm_X6_divesSo (by decide) (by decide) rfl rfl (Nat.le_of_ble_eq_true rfl) dX6_kinds_106 109 rfl (fun v108 u107 h => ?_)
              refine ww_if_eq C 119 dX6_kinds_109 (by decide) h 112 rfl (fun h => ?_) (fun h => ?_)
              · refine ww_iconst C (0 : Int32) dX6_kinds_119 (by decide) 120 rfl ?_
                refine ww_ior C dX6_kinds_120 121 rfl ?_
                refine ww_bi h (fun v109 h => ?_)
                refine ww_istore C [(7, .int v109), (0, .ref (ad 0)), (1, .int a1), (2, .int a2), (3, .int a3), (5, .int x5), (6, .int x6), (8, .int x8)] dX6_kinds_121 (by decide) rfl 123 rfl ?_
                refine ww_iinc C 7 (1 : Int32) (by decide) (fun v110 => [(8, .int v110), (7, .int v109), (0, .ref (ad 0)), (1, .int a1), (2, .int a2), (3, .int a3), (5, .int x5), (6, .int x6)]) dX6_kinds_123 rfl (by decide) (fun _ => rfl) h 126 rfl (fun v110 h => ?_)
                refine ww_goto C 50 dX6_kinds_126 (by decide) ?_
                exact ww_sub [2, 3, 4, 5, 6, 7, 1, 0] rfl (ih _ _ _ _ _ h)
              · refine ww_iconst C (1 : Int32) dX6_kinds_112 (by decide) 113 rfl ?_
                refine ww_iload C 7 dX6_kinds_113 rfl 115 rfl ?_
                refine ww_ishl C dX6_kinds_115 116 rfl ?_
                refine ww_goto C 120 dX6_kinds_116 (by decide) ?_
                refine ww_ior C dX6_kinds_120 121 rfl ?_
                refine ww_bi h (fun v111 h => ?_)
                refine ww_istore C [(7, .int v111), (0, .ref (ad 0)), (1, .int a1), (2, .int a2), (3, .int a3), (5, .int x5), (6, .int x6), (8, .int x8)] dX6_kinds_121 (by decide) rfl 123 rfl ?_
                refine ww_iinc C 7 (1 : Int32) (by decide) (fun v112 => [(8, .int v112), (7, .int v111), (0, .ref (ad 0)), (1, .int a1), (2, .int a2), (3, .int a3), (5, .int x5), (6, .int x6)]) dX6_kinds_123 rfl (by decide) (fun _ => rfl) h 126 rfl (fun v112 h => ?_)
                refine ww_goto C 50 dX6_kinds_126 (by decide) ?_
                exact ww_sub [2, 3, 4, 5, 6, 7, 1, 0] rfl (ih _ _ _ _ _ h)
            · refine ww_iload C 7 dX6_kinds_93 rfl 95 rfl ?_
              refine ww_goto C 100 dX6_kinds_95 (by decide) ?_
              refine ww_iast C (iaM hn 2 6 (by decide) (by decide) rfl) dX6_kinds_100 h 101 rfl (fun u113 h => ?_)
              refine ww_iload C 6 dX6_kinds_101 rfl 103 rfl ?_
              refine ww_aload_n C 0 dX6_kinds_103 rfl rfl 104 rfl ?_
              refine ww_iload_n C 1 dX6_kinds_104 rfl rfl 105 rfl ?_
              refine ww_iload_n C 2 dX6_kinds_105 rfl rfl 106 rfl ?_
              refine ww_callVi C (As := [.int a1, .int a2]) (st := [.int x7]) h cl_X6.1 (obM hn) (fun _ _ hF => k_X6_divesSo hn hF) w_1201 cm_X6_divesSo (by decide) (by decide) rfl rfl (Nat.le_of_ble_eq_true rfl) dX6_kinds_106 109 rfl (fun v115 u114 h => ?_)
              refine ww_if_eq C 119 dX6_kinds_109 (by decide) h 112 rfl (fun h => ?_) (fun h => ?_)
              · refine ww_iconst C (0 : Int32) dX6_kinds_119 (by decide) 120 rfl ?_
                refine ww_ior C dX6_kinds_120 121 rfl ?_
                refine ww_bi h (fun v116 h => ?_)
                refine ww_istore C [(7, .int v116), (0, .ref (ad 0)), (1, .int a1), (2, .int a2), (3, .int a3), (5, .int x5), (6, .int x6), (8, .int x8)] dX6_kinds_121 (by decide) rfl 123 rfl ?_
                refine ww_iinc C 7 (1 : Int32) (by decide) (fun v117 => [(8, .int v117), (7, .int v116), (0, .ref (ad 0)), (1, .int a1), (2, .int a2), (3, .int a3), (5, .int x5), (6, .int x6)]) dX6_kinds_123 rfl (by decide) (fun _ => rfl) h 126 rfl (fun v117 h => ?_)
                refine ww_goto C 50 dX6_kinds_126 (by decide) ?_
                exact ww_sub [2, 3, 4, 5, 6, 7, 1, 0] rfl (ih _ _ _ _ _ h)
              · refine ww_iconst C (1 : Int32) dX6_kinds_112 (by decide) 113 rfl ?_
                refine ww_iload C 7 dX6_kinds_113 rfl 115 rfl ?_
                refine ww_ishl C dX6_kinds_115 116 rfl ?_
                refine ww_goto C 120 dX6_kinds_116 (by decide) ?_
                refine ww_ior C dX6_kinds_120 121 rfl ?_
                refine ww_bi h (fun v118 h => ?_)
                refine ww_istore C [(7, .int v118), (0, .ref (ad 0)), (1, .int a1), (2, .int a2), (3, .int a3), (5, .int x5), (6, .int x6), (8, .int x8)] dX6_kinds_121 (by decide) rfl 123 rfl ?_
                refine ww_iinc C 7 (1 : Int32) (by decide) (fun v119 => [(8, .int v119), (7, .int v118), (0, .ref (ad 0)), (1, .int a1), (2, .int a2), (3, .int a3), (5, .int x5), (6, .int x6)]) dX6_kinds_123 rfl (by decide) (fun _ => rfl) h 126 rfl (fun v119 h => ?_)
                refine ww_goto C 50 dX6_kinds_126 (by decide) ?_
                exact ww_sub [2, 3, 4, 5, 6, 7, 1, 0] rfl (ih _ _ _ _ _ h)
          · refine ww_iload C 7 dX6_kinds_75 rfl 77 rfl ?_
            refine ww_goto C 82 dX6_kinds_77 (by decide) ?_
            refine ww_iast C (iaM hn 1 6 (by decide) (by decide) rfl) dX6_kinds_82 h 83 rfl (fun u120 h => ?_)
            refine ww_aload_n C 0 dX6_kinds_83 rfl rfl 84 rfl ?_
            refine ww_getS C cl_X6 (obM hn) 2 (by decide) rfl 2 rfl w_849 dX6_kinds_84 87 rfl ?_
            refine ww_iload_n C 2 dX6_kinds_87 rfl rfl 88 rfl ?_
            refine ww_iload_n C 3 dX6_kinds_88 rfl rfl 89 rfl ?_
            refine ww_iconst C (1 : Int32) dX6_kinds_89 (by decide) 90 rfl ?_
            refine ww_icmp_ne C 98 dX6_kinds_90 (by decide) h 93 rfl (fun h => ?_) (fun h => ?_)
            · refine ww_iload C 5 dX6_kinds_98 rfl 100 rfl ?_
              refine ww_iast C (iaM hn 2 6 (by decide) (by decide) rfl) dX6_kinds_100 h 101 rfl (fun u121 h => ?_)
              refine ww_iload C 6 dX6_kinds_101 rfl 103 rfl ?_
              refine ww_aload_n C 0 dX6_kinds_103 rfl rfl 104 rfl ?_
              refine ww_iload_n C 1 dX6_kinds_104 rfl rfl 105 rfl ?_
              refine ww_iload_n C 2 dX6_kinds_105 rfl rfl 106 rfl ?_
              refine ww_callVi C (As := [.int a1, .int a2]) (st := [.int x7]) h cl_X6.1 (obM hn) (fun _ _ hF => k_X6_divesSo hn hF) w_1201 cm_X6_divesSo (by decide) (by decide) rfl rfl (Nat.le_of_ble_eq_true rfl) dX6_kinds_106 109 rfl (fun v123 u122 h => ?_)
              refine ww_if_eq C 119 dX6_kinds_109 (by decide) h 112 rfl (fun h => ?_) (fun h => ?_)
              · refine ww_iconst C (0 : Int32) dX6_kinds_119 (by decide) 120 rfl ?_
                refine ww_ior C dX6_kinds_120 121 rfl ?_
                refine ww_bi h (fun v124 h => ?_)
                refine ww_istore C [(7, .int v124), (0, .ref (ad 0)), (1, .int a1), (2, .int a2), (3, .int a3), (5, .int x5), (6, .int x6), (8, .int x8)] dX6_kinds_121 (by decide) rfl 123 rfl ?_
                refine ww_iinc C 7 (1 : Int32) (by decide) (fun v125 => [(8, .int v125), (7, .int v124), (0, .ref (ad 0)), (1, .int a1), (2, .int a2), (3, .int a3), (5, .int x5), (6, .int x6)]) dX6_kinds_123 rfl (by decide) (fun _ => rfl) h 126 rfl (fun v125 h => ?_)
                refine ww_goto C 50 dX6_kinds_126 (by decide) ?_
                exact ww_sub [2, 3, 4, 5, 6, 7, 1, 0] rfl (ih _ _ _ _ _ h)
              · refine ww_iconst C (1 : Int32) dX6_kinds_112 (by decide) 113 rfl ?_
                refine ww_iload C 7 dX6_kinds_113 rfl 115 rfl ?_
                refine ww_ishl C dX6_kinds_115 116 rfl ?_
                refine ww_goto C 120 dX6_kinds_116 (by decide) ?_
                refine ww_ior C dX6_kinds_120 121 rfl ?_
                refine ww_bi h (fun v126 h => ?_)
                refine ww_istore C [(7, .int v126), (0, .ref (ad 0)), (1, .int a1), (2, .int a2), (3, .int a3), (5, .int x5), (6, .int x6), (8, .int x8)] dX6_kinds_121 (by decide) rfl 123 rfl ?_
                refine ww_iinc C 7 (1 : Int32) (by decide) (fun v127 => [(8, .int v127), (7, .int v126), (0, .ref (ad 0)), (1, .int a1), (2, .int a2), (3, .int a3), (5, .int x5), (6, .int x6)]) dX6_kinds_123 rfl (by decide) (fun _ => rfl) h 126 rfl (fun v127 h => ?_)
                refine ww_goto C 50 dX6_kinds_126 (by decide) ?_
                exact ww_sub [2, 3, 4, 5, 6, 7, 1, 0] rfl (ih _ _ _ _ _ h)
            · refine ww_iload C 7 dX6_kinds_93 rfl 95 rfl ?_
              refine ww_goto C 100 dX6_kinds_95 (by decide) ?_
              refine ww_iast C (iaM hn 2 6 (by decide) (by decide) rfl) dX6_kinds_100 h 101 rfl (fun u128 h => ?_)
              refine ww_iload C 6 dX6_kinds_101 rfl 103 rfl ?_
              refine ww_aload_n C 0 dX6_kinds_103 rfl rfl 104 rfl ?_
              refine ww_iload_n C 1 dX6_kinds_104 rfl rfl 105 rfl ?_
              refine ww_iload_n C 2 dX6_kinds_105 rfl rfl 106 rfl ?_
              refine ww_callVi C (As := [.int a1, .int a2]) (st := [.int x7]) h cl_X6.1 (obM hn) (fun _ _ hF => k_X6_divesSo hn hF) w_1201 cm_X6_divesSo (by decide) (by decide) rfl rfl (Nat.le_of_ble_eq_true rfl) dX6_kinds_106 109 rfl (fun v130 u129 h => ?_)
              refine ww_if_eq C 119 dX6_kinds_109 (by decide) h 112 rfl (fun h => ?_) (fun h => ?_)
              · refine ww_iconst C (0 : Int32) dX6_kinds_119 (by decide) 120 rfl ?_
                refine ww_ior C dX6_kinds_120 121 rfl ?_
                refine ww_bi h (fun v131 h => ?_)
                refine ww_istore C [(7, .int v131), (0, .ref (ad 0)), (1, .int a1), (2, .int a2), (3, .int a3), (5, .int x5), (6, .int x6), (8, .int x8)] dX6_kinds_121 (by decide) rfl 123 rfl ?_
                refine ww_iinc C 7 (1 : Int32) (by decide) (fun v132 => [(8, .int v132), (7, .int v131), (0, .ref (ad 0)), (1, .int a1), (2, .int a2), (3, .int a3), (5, .int x5), (6, .int x6)]) dX6_kinds_123 rfl (by decide) (fun _ => rfl) h 126 rfl (fun v132 h => ?_)
                refine ww_goto C 50 dX6_kinds_126 (by decide) ?_
                exact ww_sub [2, 3, 4, 5, 6, 7, 1, 0] rfl (ih _ _ _ _ _ h)
              · refine ww_iconst C (1 : Int32) dX6_kinds_112 (by decide) 113 rfl ?_
                refine ww_iload C 7 dX6_kinds_113 rfl 115 rfl ?_
                refine ww_ishl C dX6_kinds_115 116 rfl ?_
                refine ww_goto C 120 dX6_kinds_116 (by decide) ?_
                refine ww_ior C dX6_kinds_120 121 rfl ?_
                refine ww_bi h (fun v133 h => ?_)
                refine ww_istore C [(7, .int v133), (0, .ref (ad 0)), (1, .int a1), (2, .int a2), (3, .int a3), (5, .int x5), (6, .int x6), (8, .int x8)] dX6_kinds_121 (by decide) rfl 123 rfl ?_
                refine ww_iinc C 7 (1 : Int32) (by decide) (fun v134 => [(8, .int v134), (7, .int v133), (0, .ref (ad 0)), (1, .int a1), (2, .int a2), (3, .int a3), (5, .int x5), (6, .int x6)]) dX6_kinds_123 rfl (by decide) (fun _ => rfl) h 126 rfl (fun v134 h => ?_)
                refine ww_goto C 50 dX6_kinds_126 (by decide) ?_
                exact ww_sub [2, 3, 4, 5, 6, 7, 1, 0] rfl (ih _ _ _ _ _ h)
  rw [X6_kinds] at h
  refine ww_aload_n C 0 dX6_kinds_0 rfl rfl 1 rfl ?_
  refine ww_iload_n C 1 dX6_kinds_1 rfl rfl 2 rfl ?_
  refine ww_iload_n C 2 dX6_kinds_2 rfl rfl 3 rfl ?_
  refine ww_callVi C (As := [.int a1, .int a2]) (st := []) h cl_X6.1 (obM hn) (fun _ _ hF => k_X6_divesWrong hn hF) w_1197 cm_X6_divesWrong (by decide) (by decide) rfl rfl (Nat.le_of_ble_eq_true rfl) dX6_kinds_3 6 rfl (fun v136 u135 h => ?_)
  refine ww_istore C [(4, .int v136), (0, .ref (ad 0)), (1, .int a1), (2, .int a2), (3, .int a3)] dX6_kinds_6 (by decide) rfl 8 rfl ?_
  refine ww_iload C 0 dX6_kinds_8 rfl 10 rfl ?_
  refine ww_if_eq C 16 dX6_kinds_10 (by decide) h 13 rfl (fun h => ?_) (fun h => ?_)
  · refine ww_iload_n C 4 dX6_kinds_16 rfl rfl 17 rfl ?_
    refine ww_iconst C (0 : Int32) dX6_kinds_17 (by decide) 18 rfl ?_
    refine ww_iconst C (1 : Int32) dX6_kinds_18 (by decide) 19 rfl ?_
    refine ww_callSi C (As := [.int a3, .int (0 : Int32), .int (1 : Int32)]) (st := []) h (fun _ _ hF => k_X6_in hn hF) w_808 cm_X6_in (by decide) (by decide) rfl rfl (Nat.le_of_ble_eq_true rfl) dX6_kinds_19 22 rfl (fun v138 u137 h => ?_)
    refine ww_if_ne C 28 dX6_kinds_22 (by decide) h 25 rfl (fun h => ?_) (fun h => ?_)
    · refine ww_aload_n C 1 dX6_kinds_28 rfl rfl 29 rfl ?_
      refine ww_getS C cl_X6 (obM hn) 1 (by decide) rfl 1 rfl w_848 dX6_kinds_29 32 rfl ?_
      refine ww_iload_n C 3 dX6_kinds_32 rfl rfl 33 rfl ?_
      refine ww_iald C (iaM hn 1 6 (by decide) (by decide) rfl) dX6_kinds_33 h 34 rfl (fun h => ?_)
      refine ww_bi h (fun v139 h => ?_)
      refine ww_istore C [(5, .int v139), (4, .int v136), (0, .ref (ad 0)), (1, .int a1), (2, .int a2), (3, .int a3)] dX6_kinds_34 (by decide) rfl 36 rfl ?_
      refine ww_aload_n C 2 dX6_kinds_36 rfl rfl 37 rfl ?_
      refine ww_getS C cl_X6 (obM hn) 2 (by decide) rfl 2 rfl w_849 dX6_kinds_37 40 rfl ?_
      refine ww_iload_n C 4 dX6_kinds_40 rfl rfl 41 rfl ?_
      refine ww_iald C (iaM hn 2 6 (by decide) (by decide) rfl) dX6_kinds_41 h 42 rfl (fun h => ?_)
      refine ww_bi h (fun v140 h => ?_)
      refine ww_istore C [(6, .int v140), (5, .int v139), (4, .int v136), (0, .ref (ad 0)), (1, .int a1), (2, .int a2), (3, .int a3)] dX6_kinds_42 (by decide) rfl 44 rfl ?_
      refine ww_iconst C (0 : Int32) dX6_kinds_44 (by decide) 45 rfl ?_
      refine ww_istore C [(7, .int (0 : Int32)), (6, .int v140), (5, .int v139), (4, .int v136), (0, .ref (ad 0)), (1, .int a1), (2, .int a2), (3, .int a3)] dX6_kinds_45 (by decide) rfl 47 rfl ?_
      refine ww_iconst C (0 : Int32) dX6_kinds_47 (by decide) 48 rfl ?_
      refine ww_istore C [(8, .int (0 : Int32)), (7, .int (0 : Int32)), (6, .int v140), (5, .int v139), (4, .int v136), (0, .ref (ad 0)), (1, .int a1), (2, .int a2), (3, .int a3)] dX6_kinds_48 (by decide) rfl 50 rfl ?_
      exact ww_sub [5, 6, 7, 8, 3, 2, 1, 0] rfl (L50h N _ _ _ _ _ h)
    · refine ww_bipush C (-7 : Int32) dX6_kinds_25 (by decide) 27 rfl ?_
      exact ww_iret C dX6_kinds_27 hr h
  · refine ww_iload C 0 dX6_kinds_13 rfl 15 rfl ?_
    exact ww_iret C dX6_kinds_15 hr h

set_option maxRecDepth 100000 in
set_option maxHeartbeats 4000000 in
theorem k_X6_breaths {l : Launch} {D : va_G} {ad : Nat → Nat} {cA : Nat → ClassId} {tys : List (ClassId × FieldType)} {n : Nat} {sa : Nat → Nat} (hn : 20 ≤ n) {N : Nat} {g : Mem} {a1 : Int32} {a2 : Int32} {a3 : Int32} {r : Int32} {g1 : Mem} (h : X6_breaths N a1 a2 a3 g = some (r, g1)) : CTi l yX6_breaths (wsm yX6_breaths cX6_breaths 10 (some .int)) 7 D YM ad cA tys n sa g [.ref (ad 0), .int a1, .int a2, .int a3] r g1 := by
  refine ct_of RX6 rfl (by decide +kernel) (Nat.le_of_ble_eq_true rfl) rfl (fun sz => PBi D YM ad cA n r g1 sz) ?_
  intro p e R s m args below meth c C hr
  have L47h : ∀ (fu : Nat), (∀ (x5 : Int32) (x6 : Int32) (x7 : Int32) (x8 : Int32) (g : Mem), X6_breaths_L47 N a1 a2 a3 fu x5 x6 x7 x8 g = some (r, g1) → WW p l e R s m args below meth c 10 D YM ad cA n (MQ below (PBi D YM ad cA n r g1 s.heap.size) args s 0 0 (AA n ad s.heap.size)) g 47 [(0, .ref (ad 0)), (1, .int a1), (2, .int a2), (3, .int a3), (5, .int x5), (6, .int x6), (7, .int x7), (8, .int x8)] []) := by
    intro fu
    induction fu with
    | zero => intro x5 x6 x7 x8 g h; cases h
    | succ fu ih =>
      intro x5 x6 x7 x8 g h
      rw [X6_breaths_L47] at h
      refine ww_iload C 7 dX6_breaths_47 rfl 49 rfl ?_
      refine ww_bipush C (99 : Int32) dX6_breaths_49 (by decide) 51 rfl ?_
      refine ww_icmp_gt C 113 dX6_breaths_51 (by decide) h 54 rfl (fun h => ?_) (fun h => ?_)
      · refine ww_aload_n C 0 dX6_breaths_113 rfl rfl 114 rfl ?_
        refine ww_getS C cl_X6 (obM hn) 3 (by decide) rfl 3 rfl w_850 dX6_breaths_114 117 rfl ?_
        refine ww_iconst C (2 : Int32) dX6_breaths_117 (by decide) 118 rfl ?_
        refine ww_iload_n C 2 dX6_breaths_118 rfl rfl 119 rfl ?_
        refine ww_imul C dX6_breaths_119 120 rfl ?_
        refine ww_iload C 4 dX6_breaths_120 rfl 122 rfl ?_
        refine ww_iast C (iaM hn 3 12 (by decide) (by decide) rfl) dX6_breaths_122 h 123 rfl (fun u18 h => ?_)
        refine ww_iload_n C 3 dX6_breaths_123 rfl rfl 124 rfl ?_
        refine ww_if_ne C 132 dX6_breaths_124 (by decide) h 127 rfl (fun h => ?_) (fun h => ?_)
        · refine ww_iload C 6 dX6_breaths_132 rfl 134 rfl ?_
          exact ww_iret C dX6_breaths_134 hr h
        · refine ww_iload C 5 dX6_breaths_127 rfl 129 rfl ?_
          refine ww_goto C 134 dX6_breaths_129 (by decide) ?_
          exact ww_iret C dX6_breaths_134 hr h
      · refine ww_aload_n C 0 dX6_breaths_54 rfl rfl 55 rfl ?_
        refine ww_getS C cl_X6 (obM hn) 3 (by decide) rfl 3 rfl w_850 dX6_breaths_55 58 rfl ?_
        refine ww_iconst C (2 : Int32) dX6_breaths_58 (by decide) 59 rfl ?_
        refine ww_iload_n C 2 dX6_breaths_59 rfl rfl 60 rfl ?_
        refine ww_imul C dX6_breaths_60 61 rfl ?_
        refine ww_iload C 7 dX6_breaths_61 rfl 63 rfl ?_
        refine ww_iast C (iaM hn 3 12 (by decide) (by decide) rfl) dX6_breaths_63 h 64 rfl (fun u19 h => ?_)
        refine ww_aload_n C 0 dX6_breaths_64 rfl rfl 65 rfl ?_
        refine ww_iload_n C 1 dX6_breaths_65 rfl rfl 66 rfl ?_
        refine ww_iload_n C 2 dX6_breaths_66 rfl rfl 67 rfl ?_
        refine ww_callVi C (As := [.int a1, .int a2]) (st := []) h cl_X6.1 (obM hn) (fun _ _ hF => k_X6_divesSo hn hF) w_1201 cm_X6_divesSo (by decide) (by decide) rfl rfl (Nat.le_of_ble_eq_true rfl) dX6_breaths_67 70 rfl (fun v21 u20 h => ?_)
        refine ww_istore C [(9, .int v21), (0, .ref (ad 0)), (1, .int a1), (2, .int a2), (3, .int a3), (5, .int x5), (6, .int x6), (7, .int x7), (8, .int x8)] dX6_breaths_70 (by decide) rfl 72 rfl ?_
        refine ww_iload C 6 dX6_breaths_72 rfl 74 rfl ?_
        refine ww_iload C 0 dX6_breaths_74 rfl 76 rfl ?_
        refine ww_if_eq C 83 dX6_breaths_76 (by decide) h 79 rfl (fun h => ?_) (fun h => ?_)
        · refine ww_iconst C (0 : Int32) dX6_breaths_83 (by decide) 84 rfl ?_
          refine ww_iadd C dX6_breaths_84 85 rfl ?_
          refine ww_bi h (fun v22 h => ?_)
          refine ww_istore C [(6, .int v22), (9, .int v21), (0, .ref (ad 0)), (1, .int a1), (2, .int a2), (3, .int a3), (5, .int x5), (7, .int x7), (8, .int x8)] dX6_breaths_85 (by decide) rfl 87 rfl ?_
          refine ww_iload C 1 dX6_breaths_87 rfl 89 rfl ?_
          refine ww_if_eq C 103 dX6_breaths_89 (by decide) h 92 rfl (fun h => ?_) (fun h => ?_)
          · refine ww_iload C 7 dX6_breaths_103 rfl 105 rfl ?_
            refine ww_istore C [(7, .int x7), (6, .int v22), (9, .int v21), (0, .ref (ad 0)), (1, .int a1), (2, .int a2), (3, .int a3), (5, .int x5), (8, .int x8)] dX6_breaths_105 (by decide) rfl 107 rfl ?_
            refine ww_iinc C 8 (1 : Int32) (by decide) (fun v23 => [(8, .int v23), (7, .int x7), (6, .int v22), (9, .int v21), (0, .ref (ad 0)), (1, .int a1), (2, .int a2), (3, .int a3), (5, .int x5)]) dX6_breaths_107 rfl (by decide) (fun _ => rfl) h 110 rfl (fun v23 h => ?_)
            refine ww_goto C 47 dX6_breaths_110 (by decide) ?_
            exact ww_sub [4, 5, 6, 7, 8, 2, 1, 0] rfl (ih _ _ _ _ _ h)
          · refine ww_iload C 7 dX6_breaths_92 rfl 94 rfl ?_
            refine ww_iconst C (-1 : Int32) dX6_breaths_94 (by decide) 95 rfl ?_
            refine ww_icmp_ne C 103 dX6_breaths_95 (by decide) h 98 rfl (fun h => ?_) (fun h => ?_)
            · refine ww_iload C 7 dX6_breaths_103 rfl 105 rfl ?_
              refine ww_istore C [(7, .int x7), (6, .int v22), (9, .int v21), (0, .ref (ad 0)), (1, .int a1), (2, .int a2), (3, .int a3), (5, .int x5), (8, .int x8)] dX6_breaths_105 (by decide) rfl 107 rfl ?_
              refine ww_iinc C 8 (1 : Int32) (by decide) (fun v24 => [(8, .int v24), (7, .int x7), (6, .int v22), (9, .int v21), (0, .ref (ad 0)), (1, .int a1), (2, .int a2), (3, .int a3), (5, .int x5)]) dX6_breaths_107 rfl (by decide) (fun _ => rfl) h 110 rfl (fun v24 h => ?_)
              refine ww_goto C 47 dX6_breaths_110 (by decide) ?_
              exact ww_sub [4, 5, 6, 7, 8, 2, 1, 0] rfl (ih _ _ _ _ _ h)
            · refine ww_iload C 8 dX6_breaths_98 rfl 100 rfl ?_
              refine ww_goto C 105 dX6_breaths_100 (by decide) ?_
              refine ww_istore C [(7, .int x8), (6, .int v22), (9, .int v21), (0, .ref (ad 0)), (1, .int a1), (2, .int a2), (3, .int a3), (5, .int x5), (8, .int x8)] dX6_breaths_105 (by decide) rfl 107 rfl ?_
              refine ww_iinc C 8 (1 : Int32) (by decide) (fun v25 => [(8, .int v25), (7, .int x8), (6, .int v22), (9, .int v21), (0, .ref (ad 0)), (1, .int a1), (2, .int a2), (3, .int a3), (5, .int x5)]) dX6_breaths_107 rfl (by decide) (fun _ => rfl) h 110 rfl (fun v25 h => ?_)
              refine ww_goto C 47 dX6_breaths_110 (by decide) ?_
              exact ww_sub [4, 5, 6, 7, 8, 2, 1, 0] rfl (ih _ _ _ _ _ h)
        · refine ww_iconst C (1 : Int32) dX6_breaths_79 (by decide) 80 rfl ?_
          refine ww_goto C 84 dX6_breaths_80 (by decide) ?_
          refine ww_iadd C dX6_breaths_84 85 rfl ?_
          refine ww_bi h (fun v26 h => ?_)
          refine ww_istore C [(6, .int v26), (9, .int v21), (0, .ref (ad 0)), (1, .int a1), (2, .int a2), (3, .int a3), (5, .int x5), (7, .int x7), (8, .int x8)] dX6_breaths_85 (by decide) rfl 87 rfl ?_
          refine ww_iload C 1 dX6_breaths_87 rfl 89 rfl ?_
          refine ww_if_eq C 103 dX6_breaths_89 (by decide) h 92 rfl (fun h => ?_) (fun h => ?_)
          · refine ww_iload C 7 dX6_breaths_103 rfl 105 rfl ?_
            refine ww_istore C [(7, .int x7), (6, .int v26), (9, .int v21), (0, .ref (ad 0)), (1, .int a1), (2, .int a2), (3, .int a3), (5, .int x5), (8, .int x8)] dX6_breaths_105 (by decide) rfl 107 rfl ?_
            refine ww_iinc C 8 (1 : Int32) (by decide) (fun v27 => [(8, .int v27), (7, .int x7), (6, .int v26), (9, .int v21), (0, .ref (ad 0)), (1, .int a1), (2, .int a2), (3, .int a3), (5, .int x5)]) dX6_breaths_107 rfl (by decide) (fun _ => rfl) h 110 rfl (fun v27 h => ?_)
            refine ww_goto C 47 dX6_breaths_110 (by decide) ?_
            exact ww_sub [4, 5, 6, 7, 8, 2, 1, 0] rfl (ih _ _ _ _ _ h)
          · refine ww_iload C 7 dX6_breaths_92 rfl 94 rfl ?_
            refine ww_iconst C (-1 : Int32) dX6_breaths_94 (by decide) 95 rfl ?_
            refine ww_icmp_ne C 103 dX6_breaths_95 (by decide) h 98 rfl (fun h => ?_) (fun h => ?_)
            · refine ww_iload C 7 dX6_breaths_103 rfl 105 rfl ?_
              refine ww_istore C [(7, .int x7), (6, .int v26), (9, .int v21), (0, .ref (ad 0)), (1, .int a1), (2, .int a2), (3, .int a3), (5, .int x5), (8, .int x8)] dX6_breaths_105 (by decide) rfl 107 rfl ?_
              refine ww_iinc C 8 (1 : Int32) (by decide) (fun v28 => [(8, .int v28), (7, .int x7), (6, .int v26), (9, .int v21), (0, .ref (ad 0)), (1, .int a1), (2, .int a2), (3, .int a3), (5, .int x5)]) dX6_breaths_107 rfl (by decide) (fun _ => rfl) h 110 rfl (fun v28 h => ?_)
              refine ww_goto C 47 dX6_breaths_110 (by decide) ?_
              exact ww_sub [4, 5, 6, 7, 8, 2, 1, 0] rfl (ih _ _ _ _ _ h)
            · refine ww_iload C 8 dX6_breaths_98 rfl 100 rfl ?_
              refine ww_goto C 105 dX6_breaths_100 (by decide) ?_
              refine ww_istore C [(7, .int x8), (6, .int v26), (9, .int v21), (0, .ref (ad 0)), (1, .int a1), (2, .int a2), (3, .int a3), (5, .int x5), (8, .int x8)] dX6_breaths_105 (by decide) rfl 107 rfl ?_
              refine ww_iinc C 8 (1 : Int32) (by decide) (fun v29 => [(8, .int v29), (7, .int x8), (6, .int v26), (9, .int v21), (0, .ref (ad 0)), (1, .int a1), (2, .int a2), (3, .int a3), (5, .int x5)]) dX6_breaths_107 rfl (by decide) (fun _ => rfl) h 110 rfl (fun v29 h => ?_)
              refine ww_goto C 47 dX6_breaths_110 (by decide) ?_
              exact ww_sub [4, 5, 6, 7, 8, 2, 1, 0] rfl (ih _ _ _ _ _ h)
  rw [X6_breaths] at h
  refine ww_aload_n C 0 dX6_breaths_0 rfl rfl 1 rfl ?_
  refine ww_iload_n C 1 dX6_breaths_1 rfl rfl 2 rfl ?_
  refine ww_iload_n C 2 dX6_breaths_2 rfl rfl 3 rfl ?_
  refine ww_callVi C (As := [.int a1, .int a2]) (st := []) h cl_X6.1 (obM hn) (fun _ _ hF => k_X6_divesWrong hn hF) w_1197 cm_X6_divesWrong (by decide) (by decide) rfl rfl (Nat.le_of_ble_eq_true rfl) dX6_breaths_3 6 rfl (fun v31 u30 h => ?_)
  refine ww_istore C [(4, .int v31), (0, .ref (ad 0)), (1, .int a1), (2, .int a2), (3, .int a3)] dX6_breaths_6 (by decide) rfl 8 rfl ?_
  refine ww_iload C 0 dX6_breaths_8 rfl 10 rfl ?_
  refine ww_if_eq C 16 dX6_breaths_10 (by decide) h 13 rfl (fun h => ?_) (fun h => ?_)
  · refine ww_iload_n C 4 dX6_breaths_16 rfl rfl 17 rfl ?_
    refine ww_iconst C (0 : Int32) dX6_breaths_17 (by decide) 18 rfl ?_
    refine ww_iconst C (1 : Int32) dX6_breaths_18 (by decide) 19 rfl ?_
    refine ww_callSi C (As := [.int a3, .int (0 : Int32), .int (1 : Int32)]) (st := []) h (fun _ _ hF => k_X6_in hn hF) w_808 cm_X6_in (by decide) (by decide) rfl rfl (Nat.le_of_ble_eq_true rfl) dX6_breaths_19 22 rfl (fun v33 u32 h => ?_)
    refine ww_if_ne C 28 dX6_breaths_22 (by decide) h 25 rfl (fun h => ?_) (fun h => ?_)
    · refine ww_aload_n C 1 dX6_breaths_28 rfl rfl 29 rfl ?_
      refine ww_getS C cl_X6 (obM hn) 3 (by decide) rfl 3 rfl w_850 dX6_breaths_29 32 rfl ?_
      refine ww_iconst C (2 : Int32) dX6_breaths_32 (by decide) 33 rfl ?_
      refine ww_iload_n C 3 dX6_breaths_33 rfl rfl 34 rfl ?_
      refine ww_imul C dX6_breaths_34 35 rfl ?_
      refine ww_iald C (iaM hn 3 12 (by decide) (by decide) rfl) dX6_breaths_35 h 36 rfl (fun h => ?_)
      refine ww_bi h (fun v34 h => ?_)
      refine ww_istore C [(5, .int v34), (4, .int v31), (0, .ref (ad 0)), (1, .int a1), (2, .int a2), (3, .int a3)] dX6_breaths_36 (by decide) rfl 38 rfl ?_
      refine ww_iconst C (0 : Int32) dX6_breaths_38 (by decide) 39 rfl ?_
      refine ww_istore C [(6, .int (0 : Int32)), (5, .int v34), (4, .int v31), (0, .ref (ad 0)), (1, .int a1), (2, .int a2), (3, .int a3)] dX6_breaths_39 (by decide) rfl 41 rfl ?_
      refine ww_iconst C (-1 : Int32) dX6_breaths_41 (by decide) 42 rfl ?_
      refine ww_istore C [(7, .int (-1 : Int32)), (6, .int (0 : Int32)), (5, .int v34), (4, .int v31), (0, .ref (ad 0)), (1, .int a1), (2, .int a2), (3, .int a3)] dX6_breaths_42 (by decide) rfl 44 rfl ?_
      refine ww_iconst C (0 : Int32) dX6_breaths_44 (by decide) 45 rfl ?_
      refine ww_istore C [(8, .int (0 : Int32)), (7, .int (-1 : Int32)), (6, .int (0 : Int32)), (5, .int v34), (4, .int v31), (0, .ref (ad 0)), (1, .int a1), (2, .int a2), (3, .int a3)] dX6_breaths_45 (by decide) rfl 47 rfl ?_
      exact ww_sub [5, 6, 7, 8, 3, 2, 1, 0] rfl (L47h N _ _ _ _ _ h)
    · refine ww_bipush C (-7 : Int32) dX6_breaths_25 (by decide) 27 rfl ?_
      exact ww_iret C dX6_breaths_27 hr h
  · refine ww_iload C 0 dX6_breaths_13 rfl 15 rfl ?_
    exact ww_iret C dX6_breaths_15 hr h

set_option maxRecDepth 100000 in
set_option maxHeartbeats 4000000 in
theorem k_X6_storms {l : Launch} {D : va_G} {ad : Nat → Nat} {cA : Nat → ClassId} {tys : List (ClassId × FieldType)} {n : Nat} {sa : Nat → Nat} (hn : 20 ≤ n) {N : Nat} {g : Mem} {a1 : Int32} {r : Int32} {g1 : Mem} (h : X6_storms N a1 g = some (r, g1)) : CTi l yX6_storms (wsm yX6_storms cX6_storms 6 (some .int)) 5 D YM ad cA tys n sa g [.ref (ad 0), .int a1] r g1 := by
  refine ct_of RX6 rfl (by decide +kernel) (Nat.le_of_ble_eq_true rfl) rfl (fun sz => PBi D YM ad cA n r g1 sz) ?_
  intro p e R s m args below meth c C hr
  have L12h : ∀ (fu : Nat), (∀ (x2l : Int64) (x4 : Int32) (g : Mem), X6_storms_L12 N a1 fu x2l x4 g = some (r, g1) → WW p l e R s m args below meth c 6 D YM ad cA n (MQ below (PBi D YM ad cA n r g1 s.heap.size) args s 0 0 (AA n ad s.heap.size)) g 12 [(0, .ref (ad 0)), (1, .int a1), (2, .long x2l), (4, .int x4)] []) := by
    intro fu
    induction fu with
    | zero => intro x2l x4 g h; cases h
    | succ fu ih =>
      intro x2l x4 g h
      rw [X6_storms_L12] at h
      refine ww_iload C 3 dX6_storms_12 rfl 14 rfl ?_
      refine ww_bipush C (8 : Int32) dX6_storms_14 (by decide) 16 rfl ?_
      refine ww_icmp_ge C 89 dX6_storms_16 (by decide) h 19 rfl (fun h => ?_) (fun h => ?_)
      · refine ww_aload_n C 0 dX6_storms_89 rfl rfl 90 rfl ?_
        refine ww_callVi C (As := []) (st := []) h cl_X6.1 (obM hn) (fun _ _ hF => k_X6_main0 hn hF) w_1073 cm_X6_main0 (by decide) (by decide) rfl rfl (Nat.le_of_ble_eq_true rfl) dX6_storms_90 93 rfl (fun v22 u21 h => ?_)
        refine ww_istore C [(4, .int v22), (0, .ref (ad 0)), (1, .int a1), (2, .long x2l)] dX6_storms_93 (by decide) rfl 95 rfl ?_
        refine ww_aload_n C 1 dX6_storms_95 rfl rfl 96 rfl ?_
        refine ww_aload_n C 1 dX6_storms_96 rfl rfl 97 rfl ?_
        refine ww_callVi C (As := []) (st := [.ref (ad 0)]) h cl_X6.1 (obM hn) (fun _ _ hF => k_X6_fair hn hF) w_1085 cm_X6_fair (by decide) (by decide) rfl rfl (Nat.le_of_ble_eq_true rfl) dX6_storms_97 100 rfl (fun v24 u23 h => ?_)
        refine ww_putI C cl_X6 (obM hn) 33 (by decide) rfl tyX6 tyX6_ok nmX6 rfl rfl rfl w_880 dX6_storms_100 h 103 rfl (fun u25 h => ?_)
        refine ww_aload_n C 1 dX6_storms_103 rfl rfl 104 rfl ?_
        refine ww_callVv C (As := []) (st := []) h cl_X6.1 (obM hn) (fun _ _ hF => k_X6_lays hn hF) w_1101 cm_X6_lays (by decide) (by decide) rfl rfl (Nat.le_of_ble_eq_true rfl) dX6_storms_104 107 rfl (fun _ u26 h => ?_)
        refine ww_iload C 0 dX6_storms_107 rfl 109 rfl ?_
        exact ww_iret C dX6_storms_109 hr h
      · refine ww_lload_n C 2 dX6_storms_19 rfl rfl 20 rfl ?_
        refine ww_ldc2 C (48271 : Int64) w_1218 dX6_storms_20 23 rfl ?_
        refine ww_lmul C dX6_storms_23 24 rfl ?_
        refine ww_ldc2 C (2147483647 : Int64) w_1219 dX6_storms_24 27 rfl ?_
        refine ww_lrem C dX6_storms_27 h 28 rfl (fun h => ?_)
        refine ww_bl h (fun v28 h => ?_)
        refine ww_lstore_n C [(2, .long v28), (0, .ref (ad 0)), (1, .int a1), (4, .int x4)] dX6_storms_28 rfl (by decide) rfl 29 rfl ?_
        refine ww_lload_n C 0 dX6_storms_29 rfl rfl 30 rfl ?_
        refine ww_ldc2 C (6 : Int64) w_1220 dX6_storms_30 33 rfl ?_
        refine ww_lrem C dX6_storms_33 h 34 rfl (fun h => ?_)
        refine ww_l2i C dX6_storms_34 35 rfl ?_
        refine ww_iconst C (0 : Int32) dX6_storms_35 (by decide) 36 rfl ?_
        refine ww_iconst C (5 : Int32) dX6_storms_36 (by decide) 37 rfl ?_
        refine ww_callSi C (As := [.int ((v28 - v28 / (6 : Int64) * (6 : Int64)).toInt32), .int (0 : Int32), .int (5 : Int32)]) (st := []) h (fun _ _ hF => k_X6_within hn hF) w_1010 cm_X6_within (by decide) (by decide) rfl rfl (Nat.le_of_ble_eq_true rfl) dX6_storms_37 40 rfl (fun v30 u29 h => ?_)
        refine ww_istore C [(5, .int v30), (2, .long v28), (0, .ref (ad 0)), (1, .int a1), (4, .int x4)] dX6_storms_40 (by decide) rfl 42 rfl ?_
        refine ww_lload_n C 1 dX6_storms_42 rfl rfl 43 rfl ?_
        refine ww_ldc2 C (48271 : Int64) w_1218 dX6_storms_43 46 rfl ?_
        refine ww_lmul C dX6_storms_46 47 rfl ?_
        refine ww_ldc2 C (2147483647 : Int64) w_1219 dX6_storms_47 50 rfl ?_
        refine ww_lrem C dX6_storms_50 h 51 rfl (fun h => ?_)
        refine ww_bl h (fun v31 h => ?_)
        refine ww_lstore_n C [(2, .long v31), (5, .int v30), (0, .ref (ad 0)), (1, .int a1), (4, .int x4)] dX6_storms_51 rfl (by decide) rfl 52 rfl ?_
        refine ww_aload_n C 2 dX6_storms_52 rfl rfl 53 rfl ?_
        refine ww_getS C cl_X6 (obM hn) 5 (by decide) rfl 5 rfl w_852 dX6_storms_53 56 rfl ?_
        refine ww_iload C 1 dX6_storms_56 rfl 58 rfl ?_
        refine ww_aload_n C 2 dX6_storms_58 rfl rfl 59 rfl ?_
        refine ww_getS C cl_X6 (obM hn) 5 (by decide) rfl 5 rfl w_852 dX6_storms_59 62 rfl ?_
        refine ww_iload C 1 dX6_storms_62 rfl 64 rfl ?_
        refine ww_iald C (iaM hn 5 6 (by decide) (by decide) rfl) dX6_storms_64 h 65 rfl (fun h => ?_)
        refine ww_lload_n C 0 dX6_storms_65 rfl rfl 66 rfl ?_
        refine ww_ldc2 C (30 : Int64) w_1221 dX6_storms_66 69 rfl ?_
        refine ww_lrem C dX6_storms_69 h 70 rfl (fun h => ?_)
        refine ww_l2i C dX6_storms_70 71 rfl ?_
        refine ww_iadd C dX6_storms_71 72 rfl ?_
        refine ww_iconst C (0 : Int32) dX6_storms_72 (by decide) 73 rfl ?_
        refine ww_bipush C (99 : Int32) dX6_storms_73 (by decide) 75 rfl ?_
        refine ww_callSi C (As := [.int ((u29.1 5 (v30).toNatClampNeg) + ((v31 - v31 / (30 : Int64) * (30 : Int64)).toInt32)), .int (0 : Int32), .int (99 : Int32)]) (st := [.int v30, .ref (ad 5)]) h (fun _ _ hF => k_X6_within hn hF) w_1010 cm_X6_within (by decide) (by decide) rfl rfl (Nat.le_of_ble_eq_true rfl) dX6_storms_75 78 rfl (fun v33 u32 h => ?_)
        refine ww_iast C (iaM hn 5 6 (by decide) (by decide) rfl) dX6_storms_78 h 79 rfl (fun u34 h => ?_)
        refine ww_aload_n C 2 dX6_storms_79 rfl rfl 80 rfl ?_
        refine ww_callVv C (As := []) (st := []) h cl_X6.1 (obM hn) (fun _ _ hF => k_X6_hourOf hn hF) w_1069 cm_X6_hourOf (by decide) (by decide) rfl rfl (Nat.le_of_ble_eq_true rfl) dX6_storms_80 83 rfl (fun _ u35 h => ?_)
        refine ww_iinc C 4 (1 : Int32) (by decide) (fun v37 => [(4, .int v37), (2, .long v31), (5, .int v30), (0, .ref (ad 0)), (1, .int a1)]) dX6_storms_83 rfl (by decide) (fun _ => rfl) h 86 rfl (fun v37 h => ?_)
        refine ww_goto C 12 dX6_storms_86 (by decide) ?_
        exact ww_sub [3, 4, 1, 0] rfl (ih _ _ _ h)
  rw [X6_storms] at h
  refine ww_iload_n C 1 dX6_storms_0 rfl rfl 1 rfl ?_
  refine ww_i2l C dX6_storms_1 2 rfl ?_
  refine ww_lconst C (1 : Int64) dX6_storms_2 (by decide) 3 rfl ?_
  refine ww_ladd C dX6_storms_3 4 rfl ?_
  refine ww_bl h (fun v38 h => ?_)
  refine ww_lstore_n C [(2, .long v38), (0, .ref (ad 0)), (1, .int a1)] dX6_storms_4 rfl (by decide) rfl 5 rfl ?_
  refine ww_aload_n C 1 dX6_storms_5 rfl rfl 6 rfl ?_
  refine ww_callVv C (As := []) (st := []) h cl_X6.1 (obM hn) (fun _ _ hF => k_X6_keeps hn hF) w_1093 cm_X6_keeps (by decide) (by decide) rfl rfl (Nat.le_of_ble_eq_true rfl) dX6_storms_6 9 rfl (fun _ u39 h => ?_)
  refine ww_iconst C (0 : Int32) dX6_storms_9 (by decide) 10 rfl ?_
  refine ww_istore C [(4, .int (0 : Int32)), (2, .long v38), (0, .ref (ad 0)), (1, .int a1)] dX6_storms_10 (by decide) rfl 12 rfl ?_
  exact ww_sub [2, 3, 1, 0] rfl (L12h N _ _ _ h)

set_option maxRecDepth 100000 in
set_option maxHeartbeats 4000000 in
theorem k_X6_drawn {l : Launch} {D : va_G} {ad : Nat → Nat} {cA : Nat → ClassId} {tys : List (ClassId × FieldType)} {n : Nat} {sa : Nat → Nat} (hn : 20 ≤ n) {N : Nat} {g : Mem} {a1 : Int32} {a2 : Int32} {r : Int32} {g1 : Mem} (h : X6_drawn N a1 a2 g = some (r, g1)) : CTi l yX6_drawn (wsm yX6_drawn cX6_drawn 4 (some .int)) 6 D YM ad cA tys n sa g [.ref (ad 0), .int a1, .int a2] r g1 := by
  refine ct_of RX6 rfl (by decide +kernel) (Nat.le_of_ble_eq_true rfl) rfl (fun sz => PBi D YM ad cA n r g1 sz) ?_
  intro p e R s m args below meth c C hr
  rw [X6_drawn] at h
  refine ww_iload_n C 1 dX6_drawn_0 rfl rfl 1 rfl ?_
  refine ww_iconst C (0 : Int32) dX6_drawn_1 (by decide) 2 rfl ?_
  refine ww_ldcw C (99999 : Int32) w_1213 dX6_drawn_2 5 rfl ?_
  refine ww_callSi C (As := [.int a1, .int (0 : Int32), .int (99999 : Int32)]) (st := []) h (fun _ _ hF => k_X6_in hn hF) w_808 cm_X6_in (by decide) (by decide) rfl rfl (Nat.le_of_ble_eq_true rfl) dX6_drawn_5 8 rfl (fun v8 u7 h => ?_)
  refine ww_if_eq C 20 dX6_drawn_8 (by decide) h 11 rfl (fun h => ?_) (fun h => ?_)
  · refine ww_sipush C (-1000 : Int32) dX6_drawn_20 (by decide) 23 rfl ?_
    exact ww_iret C dX6_drawn_23 hr h
  · refine ww_iload_n C 2 dX6_drawn_11 rfl rfl 12 rfl ?_
    refine ww_iconst C (0 : Int32) dX6_drawn_12 (by decide) 13 rfl ?_
    refine ww_iconst C (1 : Int32) dX6_drawn_13 (by decide) 14 rfl ?_
    refine ww_callSi C (As := [.int a2, .int (0 : Int32), .int (1 : Int32)]) (st := []) h (fun _ _ hF => k_X6_in hn hF) w_808 cm_X6_in (by decide) (by decide) rfl rfl (Nat.le_of_ble_eq_true rfl) dX6_drawn_14 17 rfl (fun v10 u9 h => ?_)
    refine ww_if_ne C 24 dX6_drawn_17 (by decide) h 20 rfl (fun h => ?_) (fun h => ?_)
    · refine ww_aload_n C 0 dX6_drawn_24 rfl rfl 25 rfl ?_
      refine ww_iload_n C 1 dX6_drawn_25 rfl rfl 26 rfl ?_
      refine ww_callVi C (As := [.int a1]) (st := []) h cl_X6.1 (obM hn) (fun _ _ hF => k_X6_storms hn hF) w_1214 cm_X6_storms (by decide) (by decide) rfl rfl (Nat.le_of_ble_eq_true rfl) dX6_drawn_26 29 rfl (fun v12 u11 h => ?_)
      refine ww_istore_n C [(3, .int v12), (0, .ref (ad 0)), (1, .int a1), (2, .int a2)] dX6_drawn_29 rfl (by decide) rfl 30 rfl ?_
      refine ww_iload_n C 3 dX6_drawn_30 rfl rfl 31 rfl ?_
      refine ww_if_ne C 38 dX6_drawn_31 (by decide) h 34 rfl (fun h => ?_) (fun h => ?_)
      · refine ww_aload_n C 1 dX6_drawn_38 rfl rfl 39 rfl ?_
        refine ww_getI C cl_X6 (obM hn) 33 (by decide) rfl w_880 dX6_drawn_39 42 rfl ?_
        exact ww_iret C dX6_drawn_42 hr h
      · refine ww_iload_n C 0 dX6_drawn_34 rfl rfl 35 rfl ?_
        refine ww_goto C 42 dX6_drawn_35 (by decide) ?_
        exact ww_iret C dX6_drawn_42 hr h
    · refine ww_sipush C (-1000 : Int32) dX6_drawn_20 (by decide) 23 rfl ?_
      exact ww_iret C dX6_drawn_23 hr h

set_option maxRecDepth 100000 in
set_option maxHeartbeats 4000000 in
theorem k_X6_odds {l : Launch} {D : va_G} {ad : Nat → Nat} {cA : Nat → ClassId} {tys : List (ClassId × FieldType)} {n : Nat} {sa : Nat → Nat} (hn : 20 ≤ n) {N : Nat} {g : Mem} {a1 : Int32} {a2 : Int32} {a3 : Int32} {a4 : Int32} {r : Int64} {g1 : Mem} (h : X6_odds N a1 a2 a3 a4 g = some (r, g1)) : CTl l yX6_odds (wsm yX6_odds cX6_odds 8 (some .long)) 6 D YM ad cA tys n sa g [.ref (ad 0), .int a1, .int a2, .int a3, .int a4] r g1 := by
  refine ct_of RX6 rfl (by decide +kernel) (Nat.le_of_ble_eq_true rfl) rfl (fun sz => PBl D YM ad cA n r g1 sz) ?_
  intro p e R s m args below meth c C hr
  have L48h : ∀ (fu : Nat), (∀ (x5l : Int64) (x7 : Int32) (g : Mem), X6_odds_L48 N a1 a2 a3 a4 fu x5l x7 g = some (r, g1) → WW p l e R s m args below meth c 8 D YM ad cA n (MQ below (PBl D YM ad cA n r g1 s.heap.size) args s 0 0 (AA n ad s.heap.size)) g 48 [(0, .ref (ad 0)), (1, .int a1), (2, .int a2), (3, .int a3), (4, .int a4), (5, .long x5l), (7, .int x7)] []) := by
    intro fu
    induction fu with
    | zero => intro x5l x7 g h; cases h
    | succ fu ih =>
      intro x5l x7 g h
      rw [X6_odds_L48] at h
      refine ww_iload C 6 dX6_odds_48 rfl 50 rfl ?_
      refine ww_iload_n C 2 dX6_odds_50 rfl rfl 51 rfl ?_
      refine ww_icmp_ge C 82 dX6_odds_51 (by decide) h 54 rfl (fun h => ?_) (fun h => ?_)
      · refine ww_lload C 5 dX6_odds_82 rfl 84 rfl ?_
        refine ww_iload_n C 2 dX6_odds_84 rfl rfl 85 rfl ?_
        refine ww_i2l C dX6_odds_85 86 rfl ?_
        refine ww_iload C 4 dX6_odds_86 rfl 88 rfl ?_
        refine ww_callSl C (As := [.long x5l, .long ((a2).toInt64), .int a4]) (st := []) h (fun _ _ hF => k_X6_lowest hn hF) w_1153 cm_X6_lowest (by decide) (by decide) rfl rfl (Nat.le_of_ble_eq_true rfl) dX6_odds_88 91 rfl (fun v18 u17 h => ?_)
        exact ww_lret C dX6_odds_91 hr h
      · refine ww_lload C 5 dX6_odds_54 rfl 56 rfl ?_
        refine ww_aload_n C 0 dX6_odds_56 rfl rfl 57 rfl ?_
        refine ww_iload_n C 1 dX6_odds_57 rfl rfl 58 rfl ?_
        refine ww_iload C 6 dX6_odds_58 rfl 60 rfl ?_
        refine ww_iadd C dX6_odds_60 61 rfl ?_
        refine ww_callVi C (As := [.int (a1 + x7)]) (st := [.long x5l]) h cl_X6.1 (obM hn) (fun _ _ hF => k_X6_storms hn hF) w_1214 cm_X6_storms (by decide) (by decide) rfl rfl (Nat.le_of_ble_eq_true rfl) dX6_odds_61 64 rfl (fun v20 u19 h => ?_)
        refine ww_iload_n C 3 dX6_odds_64 rfl rfl 65 rfl ?_
        refine ww_icmp_ne C 72 dX6_odds_65 (by decide) h 68 rfl (fun h => ?_) (fun h => ?_)
        · refine ww_lconst C (0 : Int64) dX6_odds_72 (by decide) 73 rfl ?_
          refine ww_ladd C dX6_odds_73 74 rfl ?_
          refine ww_bl h (fun v21 h => ?_)
          refine ww_lstore C [(5, .long v21), (0, .ref (ad 0)), (1, .int a1), (2, .int a2), (3, .int a3), (4, .int a4), (7, .int x7)] dX6_odds_74 (by decide) rfl 76 rfl ?_
          refine ww_iinc C 6 (1 : Int32) (by decide) (fun v22 => [(7, .int v22), (5, .long v21), (0, .ref (ad 0)), (1, .int a1), (2, .int a2), (3, .int a3), (4, .int a4)]) dX6_odds_76 rfl (by decide) (fun _ => rfl) h 79 rfl (fun v22 h => ?_)
          refine ww_goto C 48 dX6_odds_79 (by decide) ?_
          exact ww_sub [2, 3, 4, 5, 6, 1, 0] rfl (ih _ _ _ h)
        · refine ww_lconst C (1 : Int64) dX6_odds_68 (by decide) 69 rfl ?_
          refine ww_goto C 73 dX6_odds_69 (by decide) ?_
          refine ww_ladd C dX6_odds_73 74 rfl ?_
          refine ww_bl h (fun v23 h => ?_)
          refine ww_lstore C [(5, .long v23), (0, .ref (ad 0)), (1, .int a1), (2, .int a2), (3, .int a3), (4, .int a4), (7, .int x7)] dX6_odds_74 (by decide) rfl 76 rfl ?_
          refine ww_iinc C 6 (1 : Int32) (by decide) (fun v24 => [(7, .int v24), (5, .long v23), (0, .ref (ad 0)), (1, .int a1), (2, .int a2), (3, .int a3), (4, .int a4)]) dX6_odds_76 rfl (by decide) (fun _ => rfl) h 79 rfl (fun v24 h => ?_)
          refine ww_goto C 48 dX6_odds_79 (by decide) ?_
          exact ww_sub [2, 3, 4, 5, 6, 1, 0] rfl (ih _ _ _ h)
  rw [X6_odds] at h
  refine ww_iload_n C 1 dX6_odds_0 rfl rfl 1 rfl ?_
  refine ww_iconst C (0 : Int32) dX6_odds_1 (by decide) 2 rfl ?_
  refine ww_ldcw C (99999 : Int32) w_1213 dX6_odds_2 5 rfl ?_
  refine ww_callSi C (As := [.int a1, .int (0 : Int32), .int (99999 : Int32)]) (st := []) h (fun _ _ hF => k_X6_in hn hF) w_808 cm_X6_in (by decide) (by decide) rfl rfl (Nat.le_of_ble_eq_true rfl) dX6_odds_5 8 rfl (fun v26 u25 h => ?_)
  refine ww_if_eq C 38 dX6_odds_8 (by decide) h 11 rfl (fun h => ?_) (fun h => ?_)
  · refine ww_ldc2 C (-4611686018427387904 : Int64) w_1156 dX6_odds_38 41 rfl ?_
    exact ww_lret C dX6_odds_41 hr h
  · refine ww_iload_n C 2 dX6_odds_11 rfl rfl 12 rfl ?_
    refine ww_iconst C (1 : Int32) dX6_odds_12 (by decide) 13 rfl ?_
    refine ww_bipush C (40 : Int32) dX6_odds_13 (by decide) 15 rfl ?_
    refine ww_callSi C (As := [.int a2, .int (1 : Int32), .int (40 : Int32)]) (st := []) h (fun _ _ hF => k_X6_in hn hF) w_808 cm_X6_in (by decide) (by decide) rfl rfl (Nat.le_of_ble_eq_true rfl) dX6_odds_15 18 rfl (fun v28 u27 h => ?_)
    refine ww_if_eq C 38 dX6_odds_18 (by decide) h 21 rfl (fun h => ?_) (fun h => ?_)
    · refine ww_ldc2 C (-4611686018427387904 : Int64) w_1156 dX6_odds_38 41 rfl ?_
      exact ww_lret C dX6_odds_41 hr h
    · refine ww_iload_n C 3 dX6_odds_21 rfl rfl 22 rfl ?_
      refine ww_callSi C (As := [.int a3]) (st := []) h (fun _ _ hF => k_X6_isSky hn hF) w_992 cm_X6_isSky (by decide) (by decide) rfl rfl (Nat.le_of_ble_eq_true rfl) dX6_odds_22 25 rfl (fun v30 u29 h => ?_)
      refine ww_if_eq C 38 dX6_odds_25 (by decide) h 28 rfl (fun h => ?_) (fun h => ?_)
      · refine ww_ldc2 C (-4611686018427387904 : Int64) w_1156 dX6_odds_38 41 rfl ?_
        exact ww_lret C dX6_odds_41 hr h
      · refine ww_iload C 4 dX6_odds_28 rfl 30 rfl ?_
        refine ww_iconst C (0 : Int32) dX6_odds_30 (by decide) 31 rfl ?_
        refine ww_iconst C (1 : Int32) dX6_odds_31 (by decide) 32 rfl ?_
        refine ww_callSi C (As := [.int a4, .int (0 : Int32), .int (1 : Int32)]) (st := []) h (fun _ _ hF => k_X6_in hn hF) w_808 cm_X6_in (by decide) (by decide) rfl rfl (Nat.le_of_ble_eq_true rfl) dX6_odds_32 35 rfl (fun v32 u31 h => ?_)
        refine ww_if_ne C 42 dX6_odds_35 (by decide) h 38 rfl (fun h => ?_) (fun h => ?_)
        · refine ww_lconst C (0 : Int64) dX6_odds_42 (by decide) 43 rfl ?_
          refine ww_lstore C [(5, .long (0 : Int64)), (0, .ref (ad 0)), (1, .int a1), (2, .int a2), (3, .int a3), (4, .int a4)] dX6_odds_43 (by decide) rfl 45 rfl ?_
          refine ww_iconst C (0 : Int32) dX6_odds_45 (by decide) 46 rfl ?_
          refine ww_istore C [(7, .int (0 : Int32)), (5, .long (0 : Int64)), (0, .ref (ad 0)), (1, .int a1), (2, .int a2), (3, .int a3), (4, .int a4)] dX6_odds_46 (by decide) rfl 48 rfl ?_
          exact ww_sub [2, 3, 4, 5, 6, 1, 0] rfl (L48h N _ _ _ h)
        · refine ww_ldc2 C (-4611686018427387904 : Int64) w_1156 dX6_odds_38 41 rfl ?_
          exact ww_lret C dX6_odds_41 hr h

set_option maxRecDepth 100000 in
set_option maxHeartbeats 4000000 in
theorem k_X6_image {l : Launch} {D : va_G} {ad : Nat → Nat} {cA : Nat → ClassId} {tys : List (ClassId × FieldType)} {n : Nat} {sa : Nat → Nat} (hn : 20 ≤ n) {N : Nat} {g : Mem} {r : Int32} {g1 : Mem} (h : X6_image N g = some (r, g1)) : CTi l yX6_image (wsm yX6_image cX6_image 2 (some .int)) 1 D YM ad cA tys n sa g [.ref (ad 0)] r g1 := by
  refine ct_of RX6 rfl (by decide +kernel) (Nat.le_of_ble_eq_true rfl) rfl (fun sz => PBi D YM ad cA n r g1 sz) ?_
  intro p e R s m args below meth c C hr
  have L62h : ∀ (fu : Nat), (∀ (x1 : Int32) (g : Mem), X6_image_L62 N fu x1 g = some (r, g1) → WW p l e R s m args below meth c 2 D YM ad cA n (MQ below (PBi D YM ad cA n r g1 s.heap.size) args s 0 0 (AA n ad s.heap.size)) g 62 [(0, .ref (ad 0)), (1, .int x1)] []) := by
    intro fu
    induction fu with
    | zero => intro x1 g h; cases h
    | succ fu ih =>
      intro x1 g h
      rw [X6_image_L62] at h
      refine ww_iload_n C 1 dX6_image_62 rfl rfl 63 rfl ?_
      refine ww_bipush C (6 : Int32) dX6_image_63 (by decide) 65 rfl ?_
      refine ww_icmp_ge C 89 dX6_image_65 (by decide) h 68 rfl (fun h => ?_) (fun h => ?_)
      · refine ww_aload_n C 0 dX6_image_89 rfl rfl 90 rfl ?_
        refine ww_getS C cl_X6 (obM hn) 15 (by decide) rfl 10 rfl w_862 dX6_image_90 93 rfl ?_
        refine ww_iconst C (0 : Int32) dX6_image_93 (by decide) 94 rfl ?_
        refine ww_aload_n C 0 dX6_image_94 rfl rfl 95 rfl ?_
        refine ww_getI C cl_X6 (obM hn) 0 (by decide) rfl w_847 dX6_image_95 98 rfl ?_
        refine ww_iast C (iaM hn 10 3 (by decide) (by decide) rfl) dX6_image_98 h 99 rfl (fun u11 h => ?_)
        refine ww_aload_n C 0 dX6_image_99 rfl rfl 100 rfl ?_
        refine ww_getS C cl_X6 (obM hn) 15 (by decide) rfl 10 rfl w_862 dX6_image_100 103 rfl ?_
        refine ww_iconst C (1 : Int32) dX6_image_103 (by decide) 104 rfl ?_
        refine ww_aload_n C 0 dX6_image_104 rfl rfl 105 rfl ?_
        refine ww_getI C cl_X6 (obM hn) 6 (by decide) rfl w_853 dX6_image_105 108 rfl ?_
        refine ww_iast C (iaM hn 10 3 (by decide) (by decide) rfl) dX6_image_108 h 109 rfl (fun u12 h => ?_)
        refine ww_aload_n C 0 dX6_image_109 rfl rfl 110 rfl ?_
        refine ww_getS C cl_X6 (obM hn) 15 (by decide) rfl 10 rfl w_862 dX6_image_110 113 rfl ?_
        refine ww_iconst C (2 : Int32) dX6_image_113 (by decide) 114 rfl ?_
        refine ww_aload_n C 0 dX6_image_114 rfl rfl 115 rfl ?_
        refine ww_getI C cl_X6 (obM hn) 12 (by decide) rfl w_859 dX6_image_115 118 rfl ?_
        refine ww_iast C (iaM hn 10 3 (by decide) (by decide) rfl) dX6_image_118 h 119 rfl (fun u13 h => ?_)
        refine ww_aload_n C 0 dX6_image_119 rfl rfl 120 rfl ?_
        refine ww_getI C cl_X6 (obM hn) 0 (by decide) rfl w_847 dX6_image_120 123 rfl ?_
        exact ww_iret C dX6_image_123 hr h
      · refine ww_aload_n C 0 dX6_image_68 rfl rfl 69 rfl ?_
        refine ww_getS C cl_X6 (obM hn) 14 (by decide) rfl 9 rfl w_861 dX6_image_69 72 rfl ?_
        refine ww_bipush C (60 : Int32) dX6_image_72 (by decide) 74 rfl ?_
        refine ww_iload_n C 1 dX6_image_74 rfl rfl 75 rfl ?_
        refine ww_iadd C dX6_image_75 76 rfl ?_
        refine ww_aload_n C 0 dX6_image_76 rfl rfl 77 rfl ?_
        refine ww_getS C cl_X6 (obM hn) 5 (by decide) rfl 5 rfl w_852 dX6_image_77 80 rfl ?_
        refine ww_iload_n C 1 dX6_image_80 rfl rfl 81 rfl ?_
        refine ww_iald C (iaM hn 5 6 (by decide) (by decide) rfl) dX6_image_81 h 82 rfl (fun h => ?_)
        refine ww_iast C (iaM hn 9 66 (by decide) (by decide) rfl) dX6_image_82 h 83 rfl (fun u14 h => ?_)
        refine ww_iinc C 1 (1 : Int32) (by decide) (fun v15 => [(1, .int v15), (0, .ref (ad 0))]) dX6_image_83 rfl (by decide) (fun _ => rfl) h 86 rfl (fun v15 h => ?_)
        refine ww_goto C 62 dX6_image_86 (by decide) ?_
        exact ww_sub [1, 0] rfl (ih _ _ h)
  have L33h : ∀ (fu : Nat), (∀ (x1 : Int32) (g : Mem), X6_image_L33 N fu x1 g = some (r, g1) → WW p l e R s m args below meth c 2 D YM ad cA n (MQ below (PBi D YM ad cA n r g1 s.heap.size) args s 0 0 (AA n ad s.heap.size)) g 33 [(0, .ref (ad 0)), (1, .int x1)] []) := by
    intro fu
    induction fu with
    | zero => intro x1 g h; cases h
    | succ fu ih =>
      intro x1 g h
      rw [X6_image_L33] at h
      refine ww_iload_n C 1 dX6_image_33 rfl rfl 34 rfl ?_
      refine ww_bipush C (48 : Int32) dX6_image_34 (by decide) 36 rfl ?_
      refine ww_icmp_ge C 60 dX6_image_36 (by decide) h 39 rfl (fun h => ?_) (fun h => ?_)
      · refine ww_iconst C (0 : Int32) dX6_image_60 (by decide) 61 rfl ?_
        refine ww_istore_n C [(1, .int (0 : Int32)), (0, .ref (ad 0))] dX6_image_61 rfl (by decide) rfl 62 rfl ?_
        exact ww_sub [1, 0] rfl (L62h N _ _ h)
      · refine ww_aload_n C 0 dX6_image_39 rfl rfl 40 rfl ?_
        refine ww_getS C cl_X6 (obM hn) 14 (by decide) rfl 9 rfl w_861 dX6_image_40 43 rfl ?_
        refine ww_bipush C (12 : Int32) dX6_image_43 (by decide) 45 rfl ?_
        refine ww_iload_n C 1 dX6_image_45 rfl rfl 46 rfl ?_
        refine ww_iadd C dX6_image_46 47 rfl ?_
        refine ww_aload_n C 0 dX6_image_47 rfl rfl 48 rfl ?_
        refine ww_getS C cl_X6 (obM hn) 4 (by decide) rfl 4 rfl w_851 dX6_image_48 51 rfl ?_
        refine ww_iload_n C 1 dX6_image_51 rfl rfl 52 rfl ?_
        refine ww_iald C (iaM hn 4 48 (by decide) (by decide) rfl) dX6_image_52 h 53 rfl (fun h => ?_)
        refine ww_iast C (iaM hn 9 66 (by decide) (by decide) rfl) dX6_image_53 h 54 rfl (fun u16 h => ?_)
        refine ww_iinc C 1 (1 : Int32) (by decide) (fun v17 => [(1, .int v17), (0, .ref (ad 0))]) dX6_image_54 rfl (by decide) (fun _ => rfl) h 57 rfl (fun v17 h => ?_)
        refine ww_goto C 33 dX6_image_57 (by decide) ?_
        exact ww_sub [1, 0] rfl (ih _ _ h)
  have L7h : ∀ (fu : Nat), (∀ (x1 : Int32) (g : Mem), X6_image_L7 N fu x1 g = some (r, g1) → WW p l e R s m args below meth c 2 D YM ad cA n (MQ below (PBi D YM ad cA n r g1 s.heap.size) args s 0 0 (AA n ad s.heap.size)) g 7 [(0, .ref (ad 0)), (1, .int x1)] []) := by
    intro fu
    induction fu with
    | zero => intro x1 g h; cases h
    | succ fu ih =>
      intro x1 g h
      rw [X6_image_L7] at h
      refine ww_iload_n C 1 dX6_image_7 rfl rfl 8 rfl ?_
      refine ww_bipush C (12 : Int32) dX6_image_8 (by decide) 10 rfl ?_
      refine ww_icmp_ge C 31 dX6_image_10 (by decide) h 13 rfl (fun h => ?_) (fun h => ?_)
      · refine ww_iconst C (0 : Int32) dX6_image_31 (by decide) 32 rfl ?_
        refine ww_istore_n C [(1, .int (0 : Int32)), (0, .ref (ad 0))] dX6_image_32 rfl (by decide) rfl 33 rfl ?_
        exact ww_sub [1, 0] rfl (L33h N _ _ h)
      · refine ww_aload_n C 0 dX6_image_13 rfl rfl 14 rfl ?_
        refine ww_getS C cl_X6 (obM hn) 14 (by decide) rfl 9 rfl w_861 dX6_image_14 17 rfl ?_
        refine ww_iload_n C 1 dX6_image_17 rfl rfl 18 rfl ?_
        refine ww_aload_n C 0 dX6_image_18 rfl rfl 19 rfl ?_
        refine ww_getS C cl_X6 (obM hn) 3 (by decide) rfl 3 rfl w_850 dX6_image_19 22 rfl ?_
        refine ww_iload_n C 1 dX6_image_22 rfl rfl 23 rfl ?_
        refine ww_iald C (iaM hn 3 12 (by decide) (by decide) rfl) dX6_image_23 h 24 rfl (fun h => ?_)
        refine ww_iast C (iaM hn 9 66 (by decide) (by decide) rfl) dX6_image_24 h 25 rfl (fun u18 h => ?_)
        refine ww_iinc C 1 (1 : Int32) (by decide) (fun v19 => [(1, .int v19), (0, .ref (ad 0))]) dX6_image_25 rfl (by decide) (fun _ => rfl) h 28 rfl (fun v19 h => ?_)
        refine ww_goto C 7 dX6_image_28 (by decide) ?_
        exact ww_sub [1, 0] rfl (ih _ _ h)
  rw [X6_image] at h
  refine ww_aload_n C 0 dX6_image_0 rfl rfl 1 rfl ?_
  refine ww_iconst C (1 : Int32) dX6_image_1 (by decide) 2 rfl ?_
  refine ww_putI C cl_X6 (obM hn) 13 (by decide) rfl tyX6 tyX6_ok nmX6 rfl rfl rfl w_860 dX6_image_2 h 5 rfl (fun u20 h => ?_)
  refine ww_iconst C (0 : Int32) dX6_image_5 (by decide) 6 rfl ?_
  refine ww_istore_n C [(1, .int (0 : Int32)), (0, .ref (ad 0))] dX6_image_6 rfl (by decide) rfl 7 rfl ?_
  exact ww_sub [1, 0] rfl (L7h N _ _ h)

set_option maxRecDepth 100000 in
set_option maxHeartbeats 4000000 in
theorem k_X6_back {l : Launch} {D : va_G} {ad : Nat → Nat} {cA : Nat → ClassId} {tys : List (ClassId × FieldType)} {n : Nat} {sa : Nat → Nat} (hn : 20 ≤ n) {N : Nat} {g : Mem} {r : Int32} {g1 : Mem} (h : X6_back N g = some (r, g1)) : CTi l yX6_back (wsm yX6_back cX6_back 2 (some .int)) 1 D YM ad cA tys n sa g [.ref (ad 0)] r g1 := by
  refine ct_of RX6 rfl (by decide +kernel) (Nat.le_of_ble_eq_true rfl) rfl (fun sz => PBi D YM ad cA n r g1 sz) ?_
  intro p e R s m args below meth c C hr
  have L67h : ∀ (fu : Nat), (∀ (x1 : Int32) (g : Mem), X6_back_L67 N fu x1 g = some (r, g1) → WW p l e R s m args below meth c 2 D YM ad cA n (MQ below (PBi D YM ad cA n r g1 s.heap.size) args s 0 0 (AA n ad s.heap.size)) g 67 [(0, .ref (ad 0)), (1, .int x1)] []) := by
    intro fu
    induction fu with
    | zero => intro x1 g h; cases h
    | succ fu ih =>
      intro x1 g h
      rw [X6_back_L67] at h
      refine ww_iload_n C 1 dX6_back_67 rfl rfl 68 rfl ?_
      refine ww_bipush C (6 : Int32) dX6_back_68 (by decide) 70 rfl ?_
      refine ww_icmp_ge C 94 dX6_back_70 (by decide) h 73 rfl (fun h => ?_) (fun h => ?_)
      · refine ww_aload_n C 0 dX6_back_94 rfl rfl 95 rfl ?_
        refine ww_aload_n C 0 dX6_back_95 rfl rfl 96 rfl ?_
        refine ww_getS C cl_X6 (obM hn) 15 (by decide) rfl 10 rfl w_862 dX6_back_96 99 rfl ?_
        refine ww_iconst C (0 : Int32) dX6_back_99 (by decide) 100 rfl ?_
        refine ww_iald C (iaM hn 10 3 (by decide) (by decide) rfl) dX6_back_100 h 101 rfl (fun h => ?_)
        refine ww_putI C cl_X6 (obM hn) 0 (by decide) rfl tyX6 tyX6_ok nmX6 rfl rfl rfl w_847 dX6_back_101 h 104 rfl (fun u10 h => ?_)
        refine ww_aload_n C 0 dX6_back_104 rfl rfl 105 rfl ?_
        refine ww_aload_n C 0 dX6_back_105 rfl rfl 106 rfl ?_
        refine ww_getS C cl_X6 (obM hn) 15 (by decide) rfl 10 rfl w_862 dX6_back_106 109 rfl ?_
        refine ww_iconst C (1 : Int32) dX6_back_109 (by decide) 110 rfl ?_
        refine ww_iald C (iaM hn 10 3 (by decide) (by decide) rfl) dX6_back_110 h 111 rfl (fun h => ?_)
        refine ww_putI C cl_X6 (obM hn) 6 (by decide) rfl tyX6 tyX6_ok nmX6 rfl rfl rfl w_853 dX6_back_111 h 114 rfl (fun u11 h => ?_)
        refine ww_aload_n C 0 dX6_back_114 rfl rfl 115 rfl ?_
        refine ww_aload_n C 0 dX6_back_115 rfl rfl 116 rfl ?_
        refine ww_getS C cl_X6 (obM hn) 15 (by decide) rfl 10 rfl w_862 dX6_back_116 119 rfl ?_
        refine ww_iconst C (2 : Int32) dX6_back_119 (by decide) 120 rfl ?_
        refine ww_iald C (iaM hn 10 3 (by decide) (by decide) rfl) dX6_back_120 h 121 rfl (fun h => ?_)
        refine ww_putI C cl_X6 (obM hn) 12 (by decide) rfl tyX6 tyX6_ok nmX6 rfl rfl rfl w_859 dX6_back_121 h 124 rfl (fun u12 h => ?_)
        refine ww_aload_n C 0 dX6_back_124 rfl rfl 125 rfl ?_
        refine ww_getI C cl_X6 (obM hn) 0 (by decide) rfl w_847 dX6_back_125 128 rfl ?_
        exact ww_iret C dX6_back_128 hr h
      · refine ww_aload_n C 0 dX6_back_73 rfl rfl 74 rfl ?_
        refine ww_getS C cl_X6 (obM hn) 5 (by decide) rfl 5 rfl w_852 dX6_back_74 77 rfl ?_
        refine ww_iload_n C 1 dX6_back_77 rfl rfl 78 rfl ?_
        refine ww_aload_n C 0 dX6_back_78 rfl rfl 79 rfl ?_
        refine ww_getS C cl_X6 (obM hn) 14 (by decide) rfl 9 rfl w_861 dX6_back_79 82 rfl ?_
        refine ww_bipush C (60 : Int32) dX6_back_82 (by decide) 84 rfl ?_
        refine ww_iload_n C 1 dX6_back_84 rfl rfl 85 rfl ?_
        refine ww_iadd C dX6_back_85 86 rfl ?_
        refine ww_iald C (iaM hn 9 66 (by decide) (by decide) rfl) dX6_back_86 h 87 rfl (fun h => ?_)
        refine ww_iast C (iaM hn 5 6 (by decide) (by decide) rfl) dX6_back_87 h 88 rfl (fun u13 h => ?_)
        refine ww_iinc C 1 (1 : Int32) (by decide) (fun v14 => [(1, .int v14), (0, .ref (ad 0))]) dX6_back_88 rfl (by decide) (fun _ => rfl) h 91 rfl (fun v14 h => ?_)
        refine ww_goto C 67 dX6_back_91 (by decide) ?_
        exact ww_sub [1, 0] rfl (ih _ _ h)
  have L38h : ∀ (fu : Nat), (∀ (x1 : Int32) (g : Mem), X6_back_L38 N fu x1 g = some (r, g1) → WW p l e R s m args below meth c 2 D YM ad cA n (MQ below (PBi D YM ad cA n r g1 s.heap.size) args s 0 0 (AA n ad s.heap.size)) g 38 [(0, .ref (ad 0)), (1, .int x1)] []) := by
    intro fu
    induction fu with
    | zero => intro x1 g h; cases h
    | succ fu ih =>
      intro x1 g h
      rw [X6_back_L38] at h
      refine ww_iload_n C 1 dX6_back_38 rfl rfl 39 rfl ?_
      refine ww_bipush C (48 : Int32) dX6_back_39 (by decide) 41 rfl ?_
      refine ww_icmp_ge C 65 dX6_back_41 (by decide) h 44 rfl (fun h => ?_) (fun h => ?_)
      · refine ww_iconst C (0 : Int32) dX6_back_65 (by decide) 66 rfl ?_
        refine ww_istore_n C [(1, .int (0 : Int32)), (0, .ref (ad 0))] dX6_back_66 rfl (by decide) rfl 67 rfl ?_
        exact ww_sub [1, 0] rfl (L67h N _ _ h)
      · refine ww_aload_n C 0 dX6_back_44 rfl rfl 45 rfl ?_
        refine ww_getS C cl_X6 (obM hn) 4 (by decide) rfl 4 rfl w_851 dX6_back_45 48 rfl ?_
        refine ww_iload_n C 1 dX6_back_48 rfl rfl 49 rfl ?_
        refine ww_aload_n C 0 dX6_back_49 rfl rfl 50 rfl ?_
        refine ww_getS C cl_X6 (obM hn) 14 (by decide) rfl 9 rfl w_861 dX6_back_50 53 rfl ?_
        refine ww_bipush C (12 : Int32) dX6_back_53 (by decide) 55 rfl ?_
        refine ww_iload_n C 1 dX6_back_55 rfl rfl 56 rfl ?_
        refine ww_iadd C dX6_back_56 57 rfl ?_
        refine ww_iald C (iaM hn 9 66 (by decide) (by decide) rfl) dX6_back_57 h 58 rfl (fun h => ?_)
        refine ww_iast C (iaM hn 4 48 (by decide) (by decide) rfl) dX6_back_58 h 59 rfl (fun u15 h => ?_)
        refine ww_iinc C 1 (1 : Int32) (by decide) (fun v16 => [(1, .int v16), (0, .ref (ad 0))]) dX6_back_59 rfl (by decide) (fun _ => rfl) h 62 rfl (fun v16 h => ?_)
        refine ww_goto C 38 dX6_back_62 (by decide) ?_
        exact ww_sub [1, 0] rfl (ih _ _ h)
  have L12h : ∀ (fu : Nat), (∀ (x1 : Int32) (g : Mem), X6_back_L12 N fu x1 g = some (r, g1) → WW p l e R s m args below meth c 2 D YM ad cA n (MQ below (PBi D YM ad cA n r g1 s.heap.size) args s 0 0 (AA n ad s.heap.size)) g 12 [(0, .ref (ad 0)), (1, .int x1)] []) := by
    intro fu
    induction fu with
    | zero => intro x1 g h; cases h
    | succ fu ih =>
      intro x1 g h
      rw [X6_back_L12] at h
      refine ww_iload_n C 1 dX6_back_12 rfl rfl 13 rfl ?_
      refine ww_bipush C (12 : Int32) dX6_back_13 (by decide) 15 rfl ?_
      refine ww_icmp_ge C 36 dX6_back_15 (by decide) h 18 rfl (fun h => ?_) (fun h => ?_)
      · refine ww_iconst C (0 : Int32) dX6_back_36 (by decide) 37 rfl ?_
        refine ww_istore_n C [(1, .int (0 : Int32)), (0, .ref (ad 0))] dX6_back_37 rfl (by decide) rfl 38 rfl ?_
        exact ww_sub [1, 0] rfl (L38h N _ _ h)
      · refine ww_aload_n C 0 dX6_back_18 rfl rfl 19 rfl ?_
        refine ww_getS C cl_X6 (obM hn) 3 (by decide) rfl 3 rfl w_850 dX6_back_19 22 rfl ?_
        refine ww_iload_n C 1 dX6_back_22 rfl rfl 23 rfl ?_
        refine ww_aload_n C 0 dX6_back_23 rfl rfl 24 rfl ?_
        refine ww_getS C cl_X6 (obM hn) 14 (by decide) rfl 9 rfl w_861 dX6_back_24 27 rfl ?_
        refine ww_iload_n C 1 dX6_back_27 rfl rfl 28 rfl ?_
        refine ww_iald C (iaM hn 9 66 (by decide) (by decide) rfl) dX6_back_28 h 29 rfl (fun h => ?_)
        refine ww_iast C (iaM hn 3 12 (by decide) (by decide) rfl) dX6_back_29 h 30 rfl (fun u17 h => ?_)
        refine ww_iinc C 1 (1 : Int32) (by decide) (fun v18 => [(1, .int v18), (0, .ref (ad 0))]) dX6_back_30 rfl (by decide) (fun _ => rfl) h 33 rfl (fun v18 h => ?_)
        refine ww_goto C 12 dX6_back_33 (by decide) ?_
        exact ww_sub [1, 0] rfl (ih _ _ h)
  rw [X6_back] at h
  refine ww_aload_n C 0 dX6_back_0 rfl rfl 1 rfl ?_
  refine ww_getI C cl_X6 (obM hn) 13 (by decide) rfl w_860 dX6_back_1 4 rfl ?_
  refine ww_if_ne C 10 dX6_back_4 (by decide) h 7 rfl (fun h => ?_) (fun h => ?_)
  · refine ww_iconst C (0 : Int32) dX6_back_10 (by decide) 11 rfl ?_
    refine ww_istore_n C [(1, .int (0 : Int32)), (0, .ref (ad 0))] dX6_back_11 rfl (by decide) rfl 12 rfl ?_
    exact ww_sub [1, 0] rfl (L12h N _ _ h)
  · refine ww_bipush C (-3 : Int32) dX6_back_7 (by decide) 9 rfl ?_
    exact ww_iret C dX6_back_9 hr h

set_option maxRecDepth 100000 in
set_option maxHeartbeats 4000000 in
theorem k_X6_sheet {l : Launch} {D : va_G} {ad : Nat → Nat} {cA : Nat → ClassId} {tys : List (ClassId × FieldType)} {n : Nat} {sa : Nat → Nat} (hn : 20 ≤ n) {N : Nat} {g : Mem} {a1 : Int32} {a2 : Int32} {a3 : Int32} {r : Int32} {g1 : Mem} (h : X6_sheet N a1 a2 a3 g = some (r, g1)) : CTi l yX6_sheet (wsm yX6_sheet cX6_sheet 5 (some .int)) 2 D YM ad cA tys n sa g [.ref (ad 0), .int a1, .int a2, .int a3] r g1 := by
  refine ct_of RX6 rfl (by decide +kernel) (Nat.le_of_ble_eq_true rfl) rfl (fun sz => PBi D YM ad cA n r g1 sz) ?_
  intro p e R s m args below meth c C hr
  have L70h : ∀ (fu : Nat), (∀ (x4 : Int32) (g : Mem), X6_sheet_L70 N a1 a2 a3 fu x4 g = some (r, g1) → WW p l e R s m args below meth c 5 D YM ad cA n (MQ below (PBi D YM ad cA n r g1 s.heap.size) args s 0 0 (AA n ad s.heap.size)) g 70 [(0, .ref (ad 0)), (1, .int a1), (2, .int a2), (3, .int a3), (4, .int x4)] []) := by
    intro fu
    induction fu with
    | zero => intro x4 g h; cases h
    | succ fu ih =>
      intro x4 g h
      rw [X6_sheet_L70] at h
      refine ww_iload C 4 dX6_sheet_70 rfl 72 rfl ?_
      refine ww_bipush C (40 : Int32) dX6_sheet_72 (by decide) 74 rfl ?_
      refine ww_icmp_ge C 96 dX6_sheet_74 (by decide) h 77 rfl (fun h => ?_) (fun h => ?_)
      · refine ww_iconst C (1 : Int32) dX6_sheet_96 (by decide) 97 rfl ?_
        exact ww_iret C dX6_sheet_97 hr h
      · refine ww_aload_n C 0 dX6_sheet_77 rfl rfl 78 rfl ?_
        refine ww_getS C cl_X6 (obM hn) 18 (by decide) rfl 13 rfl w_865 dX6_sheet_78 81 rfl ?_
        refine ww_bipush C (40 : Int32) dX6_sheet_81 (by decide) 83 rfl ?_
        refine ww_iload_n C 1 dX6_sheet_83 rfl rfl 84 rfl ?_
        refine ww_imul C dX6_sheet_84 85 rfl ?_
        refine ww_iload C 4 dX6_sheet_85 rfl 87 rfl ?_
        refine ww_iadd C dX6_sheet_87 88 rfl ?_
        refine ww_iconst C (0 : Int32) dX6_sheet_88 (by decide) 89 rfl ?_
        refine ww_iast C (iaM hn 13 160 (by decide) (by decide) rfl) dX6_sheet_89 h 90 rfl (fun u19 h => ?_)
        refine ww_iinc C 4 (1 : Int32) (by decide) (fun v20 => [(4, .int v20), (0, .ref (ad 0)), (1, .int a1), (2, .int a2), (3, .int a3)]) dX6_sheet_90 rfl (by decide) (fun _ => rfl) h 93 rfl (fun v20 h => ?_)
        refine ww_goto C 70 dX6_sheet_93 (by decide) ?_
        exact ww_sub [1, 2, 3, 4, 0] rfl (ih _ _ h)
  rw [X6_sheet] at h
  refine ww_iload_n C 1 dX6_sheet_0 rfl rfl 1 rfl ?_
  refine ww_iconst C (0 : Int32) dX6_sheet_1 (by decide) 2 rfl ?_
  refine ww_iconst C (3 : Int32) dX6_sheet_2 (by decide) 3 rfl ?_
  refine ww_callSi C (As := [.int a1, .int (0 : Int32), .int (3 : Int32)]) (st := []) h (fun _ _ hF => k_X6_in hn hF) w_808 cm_X6_in (by decide) (by decide) rfl rfl (Nat.le_of_ble_eq_true rfl) dX6_sheet_3 6 rfl (fun v22 u21 h => ?_)
  refine ww_if_eq C 29 dX6_sheet_6 (by decide) h 9 rfl (fun h => ?_) (fun h => ?_)
  · refine ww_bipush C (-2 : Int32) dX6_sheet_29 (by decide) 31 rfl ?_
    exact ww_iret C dX6_sheet_31 hr h
  · refine ww_iload_n C 2 dX6_sheet_9 rfl rfl 10 rfl ?_
    refine ww_iconst C (-1 : Int32) dX6_sheet_10 (by decide) 11 rfl ?_
    refine ww_iconst C (2 : Int32) dX6_sheet_11 (by decide) 12 rfl ?_
    refine ww_callSi C (As := [.int a2, .int (-1 : Int32), .int (2 : Int32)]) (st := []) h (fun _ _ hF => k_X6_in hn hF) w_808 cm_X6_in (by decide) (by decide) rfl rfl (Nat.le_of_ble_eq_true rfl) dX6_sheet_12 15 rfl (fun v24 u23 h => ?_)
    refine ww_if_eq C 29 dX6_sheet_15 (by decide) h 18 rfl (fun h => ?_) (fun h => ?_)
    · refine ww_bipush C (-2 : Int32) dX6_sheet_29 (by decide) 31 rfl ?_
      exact ww_iret C dX6_sheet_31 hr h
    · refine ww_iload_n C 2 dX6_sheet_18 rfl rfl 19 rfl ?_
      refine ww_iconst C (-1 : Int32) dX6_sheet_19 (by decide) 20 rfl ?_
      refine ww_icmp_eq C 32 dX6_sheet_20 (by decide) h 23 rfl (fun h => ?_) (fun h => ?_)
      · refine ww_iload_n C 2 dX6_sheet_32 rfl rfl 33 rfl ?_
        refine ww_iconst C (-1 : Int32) dX6_sheet_33 (by decide) 34 rfl ?_
        refine ww_icmp_eq C 44 dX6_sheet_34 (by decide) h 37 rfl (fun h => ?_) (fun h => ?_)
        · refine ww_aload_n C 0 dX6_sheet_44 rfl rfl 45 rfl ?_
          refine ww_getS C cl_X6 (obM hn) 16 (by decide) rfl 11 rfl w_863 dX6_sheet_45 48 rfl ?_
          refine ww_iload_n C 1 dX6_sheet_48 rfl rfl 49 rfl ?_
          refine ww_iload_n C 2 dX6_sheet_49 rfl rfl 50 rfl ?_
          refine ww_iast C (iaM hn 11 4 (by decide) (by decide) rfl) dX6_sheet_50 h 51 rfl (fun u25 h => ?_)
          refine ww_aload_n C 0 dX6_sheet_51 rfl rfl 52 rfl ?_
          refine ww_getS C cl_X6 (obM hn) 17 (by decide) rfl 12 rfl w_864 dX6_sheet_52 55 rfl ?_
          refine ww_iload_n C 1 dX6_sheet_55 rfl rfl 56 rfl ?_
          refine ww_iload_n C 2 dX6_sheet_56 rfl rfl 57 rfl ?_
          refine ww_iconst C (-1 : Int32) dX6_sheet_57 (by decide) 58 rfl ?_
          refine ww_icmp_ne C 65 dX6_sheet_58 (by decide) h 61 rfl (fun h => ?_) (fun h => ?_)
          · refine ww_iload_n C 3 dX6_sheet_65 rfl rfl 66 rfl ?_
            refine ww_iast C (iaM hn 12 4 (by decide) (by decide) rfl) dX6_sheet_66 h 67 rfl (fun u26 h => ?_)
            refine ww_iconst C (0 : Int32) dX6_sheet_67 (by decide) 68 rfl ?_
            refine ww_istore C [(4, .int (0 : Int32)), (0, .ref (ad 0)), (1, .int a1), (2, .int a2), (3, .int a3)] dX6_sheet_68 (by decide) rfl 70 rfl ?_
            exact ww_sub [1, 2, 3, 4, 0] rfl (L70h N _ _ h)
          · refine ww_iconst C (0 : Int32) dX6_sheet_61 (by decide) 62 rfl ?_
            refine ww_goto C 66 dX6_sheet_62 (by decide) ?_
            refine ww_iast C (iaM hn 12 4 (by decide) (by decide) rfl) dX6_sheet_66 h 67 rfl (fun u27 h => ?_)
            refine ww_iconst C (0 : Int32) dX6_sheet_67 (by decide) 68 rfl ?_
            refine ww_istore C [(4, .int (0 : Int32)), (0, .ref (ad 0)), (1, .int a1), (2, .int a2), (3, .int a3)] dX6_sheet_68 (by decide) rfl 70 rfl ?_
            exact ww_sub [1, 2, 3, 4, 0] rfl (L70h N _ _ h)
        · refine ww_iload_n C 3 dX6_sheet_37 rfl rfl 38 rfl ?_
          refine ww_if_ge C 44 dX6_sheet_38 (by decide) h 41 rfl (fun h => ?_) (fun h => ?_)
          · refine ww_aload_n C 0 dX6_sheet_44 rfl rfl 45 rfl ?_
            refine ww_getS C cl_X6 (obM hn) 16 (by decide) rfl 11 rfl w_863 dX6_sheet_45 48 rfl ?_
            refine ww_iload_n C 1 dX6_sheet_48 rfl rfl 49 rfl ?_
            refine ww_iload_n C 2 dX6_sheet_49 rfl rfl 50 rfl ?_
            refine ww_iast C (iaM hn 11 4 (by decide) (by decide) rfl) dX6_sheet_50 h 51 rfl (fun u28 h => ?_)
            refine ww_aload_n C 0 dX6_sheet_51 rfl rfl 52 rfl ?_
            refine ww_getS C cl_X6 (obM hn) 17 (by decide) rfl 12 rfl w_864 dX6_sheet_52 55 rfl ?_
            refine ww_iload_n C 1 dX6_sheet_55 rfl rfl 56 rfl ?_
            refine ww_iload_n C 2 dX6_sheet_56 rfl rfl 57 rfl ?_
            refine ww_iconst C (-1 : Int32) dX6_sheet_57 (by decide) 58 rfl ?_
            refine ww_icmp_ne C 65 dX6_sheet_58 (by decide) h 61 rfl (fun h => ?_) (fun h => ?_)
            · refine ww_iload_n C 3 dX6_sheet_65 rfl rfl 66 rfl ?_
              refine ww_iast C (iaM hn 12 4 (by decide) (by decide) rfl) dX6_sheet_66 h 67 rfl (fun u29 h => ?_)
              refine ww_iconst C (0 : Int32) dX6_sheet_67 (by decide) 68 rfl ?_
              refine ww_istore C [(4, .int (0 : Int32)), (0, .ref (ad 0)), (1, .int a1), (2, .int a2), (3, .int a3)] dX6_sheet_68 (by decide) rfl 70 rfl ?_
              exact ww_sub [1, 2, 3, 4, 0] rfl (L70h N _ _ h)
            · refine ww_iconst C (0 : Int32) dX6_sheet_61 (by decide) 62 rfl ?_
              refine ww_goto C 66 dX6_sheet_62 (by decide) ?_
              refine ww_iast C (iaM hn 12 4 (by decide) (by decide) rfl) dX6_sheet_66 h 67 rfl (fun u30 h => ?_)
              refine ww_iconst C (0 : Int32) dX6_sheet_67 (by decide) 68 rfl ?_
              refine ww_istore C [(4, .int (0 : Int32)), (0, .ref (ad 0)), (1, .int a1), (2, .int a2), (3, .int a3)] dX6_sheet_68 (by decide) rfl 70 rfl ?_
              exact ww_sub [1, 2, 3, 4, 0] rfl (L70h N _ _ h)
          · refine ww_bipush C (-14 : Int32) dX6_sheet_41 (by decide) 43 rfl ?_
            exact ww_iret C dX6_sheet_43 hr h
      · refine ww_iload_n C 3 dX6_sheet_23 rfl rfl 24 rfl ?_
        refine ww_bipush C (40 : Int32) dX6_sheet_24 (by decide) 26 rfl ?_
        refine ww_icmp_le C 32 dX6_sheet_26 (by decide) h 29 rfl (fun h => ?_) (fun h => ?_)
        · refine ww_iload_n C 2 dX6_sheet_32 rfl rfl 33 rfl ?_
          refine ww_iconst C (-1 : Int32) dX6_sheet_33 (by decide) 34 rfl ?_
          refine ww_icmp_eq C 44 dX6_sheet_34 (by decide) h 37 rfl (fun h => ?_) (fun h => ?_)
          · refine ww_aload_n C 0 dX6_sheet_44 rfl rfl 45 rfl ?_
            refine ww_getS C cl_X6 (obM hn) 16 (by decide) rfl 11 rfl w_863 dX6_sheet_45 48 rfl ?_
            refine ww_iload_n C 1 dX6_sheet_48 rfl rfl 49 rfl ?_
            refine ww_iload_n C 2 dX6_sheet_49 rfl rfl 50 rfl ?_
            refine ww_iast C (iaM hn 11 4 (by decide) (by decide) rfl) dX6_sheet_50 h 51 rfl (fun u31 h => ?_)
            refine ww_aload_n C 0 dX6_sheet_51 rfl rfl 52 rfl ?_
            refine ww_getS C cl_X6 (obM hn) 17 (by decide) rfl 12 rfl w_864 dX6_sheet_52 55 rfl ?_
            refine ww_iload_n C 1 dX6_sheet_55 rfl rfl 56 rfl ?_
            refine ww_iload_n C 2 dX6_sheet_56 rfl rfl 57 rfl ?_
            refine ww_iconst C (-1 : Int32) dX6_sheet_57 (by decide) 58 rfl ?_
            refine ww_icmp_ne C 65 dX6_sheet_58 (by decide) h 61 rfl (fun h => ?_) (fun h => ?_)
            · refine ww_iload_n C 3 dX6_sheet_65 rfl rfl 66 rfl ?_
              refine ww_iast C (iaM hn 12 4 (by decide) (by decide) rfl) dX6_sheet_66 h 67 rfl (fun u32 h => ?_)
              refine ww_iconst C (0 : Int32) dX6_sheet_67 (by decide) 68 rfl ?_
              refine ww_istore C [(4, .int (0 : Int32)), (0, .ref (ad 0)), (1, .int a1), (2, .int a2), (3, .int a3)] dX6_sheet_68 (by decide) rfl 70 rfl ?_
              exact ww_sub [1, 2, 3, 4, 0] rfl (L70h N _ _ h)
            · refine ww_iconst C (0 : Int32) dX6_sheet_61 (by decide) 62 rfl ?_
              refine ww_goto C 66 dX6_sheet_62 (by decide) ?_
              refine ww_iast C (iaM hn 12 4 (by decide) (by decide) rfl) dX6_sheet_66 h 67 rfl (fun u33 h => ?_)
              refine ww_iconst C (0 : Int32) dX6_sheet_67 (by decide) 68 rfl ?_
              refine ww_istore C [(4, .int (0 : Int32)), (0, .ref (ad 0)), (1, .int a1), (2, .int a2), (3, .int a3)] dX6_sheet_68 (by decide) rfl 70 rfl ?_
              exact ww_sub [1, 2, 3, 4, 0] rfl (L70h N _ _ h)
          · refine ww_iload_n C 3 dX6_sheet_37 rfl rfl 38 rfl ?_
            refine ww_if_ge C 44 dX6_sheet_38 (by decide) h 41 rfl (fun h => ?_) (fun h => ?_)
            · refine ww_aload_n C 0 dX6_sheet_44 rfl rfl 45 rfl ?_
              refine ww_getS C cl_X6 (obM hn) 16 (by decide) rfl 11 rfl w_863 dX6_sheet_45 48 rfl ?_
              refine ww_iload_n C 1 dX6_sheet_48 rfl rfl 49 rfl ?_
              refine ww_iload_n C 2 dX6_sheet_49 rfl rfl 50 rfl ?_
              refine ww_iast C (iaM hn 11 4 (by decide) (by decide) rfl) dX6_sheet_50 h 51 rfl (fun u34 h => ?_)
              refine ww_aload_n C 0 dX6_sheet_51 rfl rfl 52 rfl ?_
              refine ww_getS C cl_X6 (obM hn) 17 (by decide) rfl 12 rfl w_864 dX6_sheet_52 55 rfl ?_
              refine ww_iload_n C 1 dX6_sheet_55 rfl rfl 56 rfl ?_
              refine ww_iload_n C 2 dX6_sheet_56 rfl rfl 57 rfl ?_
              refine ww_iconst C (-1 : Int32) dX6_sheet_57 (by decide) 58 rfl ?_
              refine ww_icmp_ne C 65 dX6_sheet_58 (by decide) h 61 rfl (fun h => ?_) (fun h => ?_)
              · refine ww_iload_n C 3 dX6_sheet_65 rfl rfl 66 rfl ?_
                refine ww_iast C (iaM hn 12 4 (by decide) (by decide) rfl) dX6_sheet_66 h 67 rfl (fun u35 h => ?_)
                refine ww_iconst C (0 : Int32) dX6_sheet_67 (by decide) 68 rfl ?_
                refine ww_istore C [(4, .int (0 : Int32)), (0, .ref (ad 0)), (1, .int a1), (2, .int a2), (3, .int a3)] dX6_sheet_68 (by decide) rfl 70 rfl ?_
                exact ww_sub [1, 2, 3, 4, 0] rfl (L70h N _ _ h)
              · refine ww_iconst C (0 : Int32) dX6_sheet_61 (by decide) 62 rfl ?_
                refine ww_goto C 66 dX6_sheet_62 (by decide) ?_
                refine ww_iast C (iaM hn 12 4 (by decide) (by decide) rfl) dX6_sheet_66 h 67 rfl (fun u36 h => ?_)
                refine ww_iconst C (0 : Int32) dX6_sheet_67 (by decide) 68 rfl ?_
                refine ww_istore C [(4, .int (0 : Int32)), (0, .ref (ad 0)), (1, .int a1), (2, .int a2), (3, .int a3)] dX6_sheet_68 (by decide) rfl 70 rfl ?_
                exact ww_sub [1, 2, 3, 4, 0] rfl (L70h N _ _ h)
            · refine ww_bipush C (-14 : Int32) dX6_sheet_41 (by decide) 43 rfl ?_
              exact ww_iret C dX6_sheet_43 hr h
        · refine ww_bipush C (-2 : Int32) dX6_sheet_29 (by decide) 31 rfl ?_
          exact ww_iret C dX6_sheet_31 hr h

set_option maxRecDepth 100000 in
set_option maxHeartbeats 4000000 in
theorem k_X6_cell {l : Launch} {D : va_G} {ad : Nat → Nat} {cA : Nat → ClassId} {tys : List (ClassId × FieldType)} {n : Nat} {sa : Nat → Nat} (hn : 20 ≤ n) {N : Nat} {g : Mem} {a1 : Int32} {a2 : Int32} {a3 : Int32} {r : Int32} {g1 : Mem} (h : X6_cell N a1 a2 a3 g = some (r, g1)) : CTi l yX6_cell (wsm yX6_cell cX6_cell 4 (some .int)) 2 D YM ad cA tys n sa g [.ref (ad 0), .int a1, .int a2, .int a3] r g1 := by
  refine ct_of RX6 rfl (by decide +kernel) (Nat.le_of_ble_eq_true rfl) rfl (fun sz => PBi D YM ad cA n r g1 sz) ?_
  intro p e R s m args below meth c C hr
  rw [X6_cell] at h
  refine ww_iload_n C 1 dX6_cell_0 rfl rfl 1 rfl ?_
  refine ww_iconst C (0 : Int32) dX6_cell_1 (by decide) 2 rfl ?_
  refine ww_iconst C (3 : Int32) dX6_cell_2 (by decide) 3 rfl ?_
  refine ww_callSi C (As := [.int a1, .int (0 : Int32), .int (3 : Int32)]) (st := []) h (fun _ _ hF => k_X6_in hn hF) w_808 cm_X6_in (by decide) (by decide) rfl rfl (Nat.le_of_ble_eq_true rfl) dX6_cell_3 6 rfl (fun v9 u8 h => ?_)
  refine ww_if_ne C 12 dX6_cell_6 (by decide) h 9 rfl (fun h => ?_) (fun h => ?_)
  · refine ww_aload_n C 0 dX6_cell_12 rfl rfl 13 rfl ?_
    refine ww_getS C cl_X6 (obM hn) 16 (by decide) rfl 11 rfl w_863 dX6_cell_13 16 rfl ?_
    refine ww_iload_n C 1 dX6_cell_16 rfl rfl 17 rfl ?_
    refine ww_iald C (iaM hn 11 4 (by decide) (by decide) rfl) dX6_cell_17 h 18 rfl (fun h => ?_)
    refine ww_iconst C (-1 : Int32) dX6_cell_18 (by decide) 19 rfl ?_
    refine ww_icmp_ne C 25 dX6_cell_19 (by decide) h 22 rfl (fun h => ?_) (fun h => ?_)
    · refine ww_iload_n C 2 dX6_cell_25 rfl rfl 26 rfl ?_
      refine ww_iconst C (0 : Int32) dX6_cell_26 (by decide) 27 rfl ?_
      refine ww_aload_n C 0 dX6_cell_27 rfl rfl 28 rfl ?_
      refine ww_getS C cl_X6 (obM hn) 17 (by decide) rfl 12 rfl w_864 dX6_cell_28 31 rfl ?_
      refine ww_iload_n C 1 dX6_cell_31 rfl rfl 32 rfl ?_
      refine ww_iald C (iaM hn 12 4 (by decide) (by decide) rfl) dX6_cell_32 h 33 rfl (fun h => ?_)
      refine ww_iconst C (1 : Int32) dX6_cell_33 (by decide) 34 rfl ?_
      refine ww_isub C dX6_cell_34 35 rfl ?_
      refine ww_callSi C (As := [.int a2, .int (0 : Int32), .int ((u8.1 12 (a1).toNatClampNeg) - (1 : Int32))]) (st := []) h (fun _ _ hF => k_X6_in hn hF) w_808 cm_X6_in (by decide) (by decide) rfl rfl (Nat.le_of_ble_eq_true rfl) dX6_cell_35 38 rfl (fun v11 u10 h => ?_)
      refine ww_if_ne C 44 dX6_cell_38 (by decide) h 41 rfl (fun h => ?_) (fun h => ?_)
      · refine ww_aload_n C 0 dX6_cell_44 rfl rfl 45 rfl ?_
        refine ww_getS C cl_X6 (obM hn) 18 (by decide) rfl 13 rfl w_865 dX6_cell_45 48 rfl ?_
        refine ww_bipush C (40 : Int32) dX6_cell_48 (by decide) 50 rfl ?_
        refine ww_iload_n C 1 dX6_cell_50 rfl rfl 51 rfl ?_
        refine ww_imul C dX6_cell_51 52 rfl ?_
        refine ww_iload_n C 2 dX6_cell_52 rfl rfl 53 rfl ?_
        refine ww_iadd C dX6_cell_53 54 rfl ?_
        refine ww_aload_n C 0 dX6_cell_54 rfl rfl 55 rfl ?_
        refine ww_getS C cl_X6 (obM hn) 16 (by decide) rfl 11 rfl w_863 dX6_cell_55 58 rfl ?_
        refine ww_iload_n C 1 dX6_cell_58 rfl rfl 59 rfl ?_
        refine ww_iald C (iaM hn 11 4 (by decide) (by decide) rfl) dX6_cell_59 h 60 rfl (fun h => ?_)
        refine ww_if_ne C 68 dX6_cell_60 (by decide) h 63 rfl (fun h => ?_) (fun h => ?_)
        · refine ww_aload_n C 0 dX6_cell_68 rfl rfl 69 rfl ?_
          refine ww_getS C cl_X6 (obM hn) 16 (by decide) rfl 11 rfl w_863 dX6_cell_69 72 rfl ?_
          refine ww_iload_n C 1 dX6_cell_72 rfl rfl 73 rfl ?_
          refine ww_iald C (iaM hn 11 4 (by decide) (by decide) rfl) dX6_cell_73 h 74 rfl (fun h => ?_)
          refine ww_iconst C (1 : Int32) dX6_cell_74 (by decide) 75 rfl ?_
          refine ww_icmp_ne C 83 dX6_cell_75 (by decide) h 78 rfl (fun h => ?_) (fun h => ?_)
          · refine ww_iload_n C 3 dX6_cell_83 rfl rfl 84 rfl ?_
            refine ww_iast C (iaM hn 13 160 (by decide) (by decide) rfl) dX6_cell_84 h 85 rfl (fun u12 h => ?_)
            refine ww_iconst C (1 : Int32) dX6_cell_85 (by decide) 86 rfl ?_
            exact ww_iret C dX6_cell_86 hr h
          · refine ww_iload_n C 3 dX6_cell_78 rfl rfl 79 rfl ?_
            refine ww_i2s C dX6_cell_79 80 rfl ?_
            refine ww_goto C 84 dX6_cell_80 (by decide) ?_
            refine ww_iast C (iaM hn 13 160 (by decide) (by decide) rfl) dX6_cell_84 h 85 rfl (fun u13 h => ?_)
            refine ww_iconst C (1 : Int32) dX6_cell_85 (by decide) 86 rfl ?_
            exact ww_iret C dX6_cell_86 hr h
        · refine ww_iload_n C 3 dX6_cell_63 rfl rfl 64 rfl ?_
          refine ww_i2b C dX6_cell_64 65 rfl ?_
          refine ww_goto C 84 dX6_cell_65 (by decide) ?_
          refine ww_iast C (iaM hn 13 160 (by decide) (by decide) rfl) dX6_cell_84 h 85 rfl (fun u14 h => ?_)
          refine ww_iconst C (1 : Int32) dX6_cell_85 (by decide) 86 rfl ?_
          exact ww_iret C dX6_cell_86 hr h
      · refine ww_bipush C (-12 : Int32) dX6_cell_41 (by decide) 43 rfl ?_
        exact ww_iret C dX6_cell_43 hr h
    · refine ww_bipush C (-11 : Int32) dX6_cell_22 (by decide) 24 rfl ?_
      exact ww_iret C dX6_cell_24 hr h
  · refine ww_bipush C (-2 : Int32) dX6_cell_9 (by decide) 11 rfl ?_
    exact ww_iret C dX6_cell_11 hr h

set_option maxRecDepth 100000 in
set_option maxHeartbeats 4000000 in
theorem k_X6_copy {l : Launch} {D : va_G} {ad : Nat → Nat} {cA : Nat → ClassId} {tys : List (ClassId × FieldType)} {n : Nat} {sa : Nat → Nat} (hn : 20 ≤ n) {N : Nat} {g : Mem} {a1 : Int32} {a2 : Int32} {a3 : Int32} {a4 : Int32} {a5 : Int32} {r : Int32} {g1 : Mem} (h : X6_copy N a1 a2 a3 a4 a5 g = some (r, g1)) : CTi l yX6_copy (wsm yX6_copy cX6_copy 10 (some .int)) 2 D YM ad cA tys n sa g [.ref (ad 0), .int a1, .int a2, .int a3, .int a4, .int a5] r g1 := by
  refine ct_of RX6 rfl (by decide +kernel) (Nat.le_of_ble_eq_true rfl) rfl (fun sz => PBi D YM ad cA n r g1 sz) ?_
  intro p e R s m args below meth c C hr
  have L147h : ∀ (fu : Nat), (∀ (x6 : Int32) (x7 : Int32) (x8 : Int32) (g : Mem), X6_copy_L147 N a1 a2 a3 a4 a5 fu x6 x7 x8 g = some (r, g1) → WW p l e R s m args below meth c 10 D YM ad cA n (MQ below (PBi D YM ad cA n r g1 s.heap.size) args s 0 0 (AA n ad s.heap.size)) g 147 [(0, .ref (ad 0)), (1, .int a1), (2, .int a2), (3, .int a3), (4, .int a4), (5, .int a5), (6, .int x6), (7, .int x7), (8, .int x8)] []) := by
    intro fu
    induction fu with
    | zero => intro x6 x7 x8 g h; cases h
    | succ fu ih =>
      intro x6 x7 x8 g h
      rw [X6_copy_L147] at h
      refine ww_iload C 8 dX6_copy_147 rfl 149 rfl ?_
      refine ww_iload C 5 dX6_copy_149 rfl 151 rfl ?_
      refine ww_icmp_ge C 201 dX6_copy_151 (by decide) h 154 rfl (fun h => ?_) (fun h => ?_)
      · refine ww_iload C 5 dX6_copy_201 rfl 203 rfl ?_
        exact ww_iret C dX6_copy_203 hr h
      · refine ww_iload C 6 dX6_copy_154 rfl 156 rfl ?_
        refine ww_iload C 7 dX6_copy_156 rfl 158 rfl ?_
        refine ww_icmp_ge C 171 dX6_copy_158 (by decide) h 161 rfl (fun h => ?_) (fun h => ?_)
        · refine ww_iload C 8 dX6_copy_171 rfl 173 rfl ?_
          refine ww_istore C [(9, .int x8), (0, .ref (ad 0)), (1, .int a1), (2, .int a2), (3, .int a3), (4, .int a4), (5, .int a5), (6, .int x6), (7, .int x7), (8, .int x8)] dX6_copy_173 (by decide) rfl 175 rfl ?_
          refine ww_aload_n C 1 dX6_copy_175 rfl rfl 176 rfl ?_
          refine ww_getS C cl_X6 (obM hn) 18 (by decide) rfl 13 rfl w_865 dX6_copy_176 179 rfl ?_
          refine ww_iload C 8 dX6_copy_179 rfl 181 rfl ?_
          refine ww_iload C 0 dX6_copy_181 rfl 183 rfl ?_
          refine ww_iadd C dX6_copy_183 184 rfl ?_
          refine ww_aload_n C 1 dX6_copy_184 rfl rfl 185 rfl ?_
          refine ww_getS C cl_X6 (obM hn) 18 (by decide) rfl 13 rfl w_865 dX6_copy_185 188 rfl ?_
          refine ww_iload C 7 dX6_copy_188 rfl 190 rfl ?_
          refine ww_iload C 0 dX6_copy_190 rfl 192 rfl ?_
          refine ww_iadd C dX6_copy_192 193 rfl ?_
          refine ww_iald C (iaM hn 13 160 (by decide) (by decide) rfl) dX6_copy_193 h 194 rfl (fun h => ?_)
          refine ww_iast C (iaM hn 13 160 (by decide) (by decide) rfl) dX6_copy_194 h 195 rfl (fun u12 h => ?_)
          refine ww_iinc C 9 (1 : Int32) (by decide) (fun v13 => [(8, .int v13), (9, .int x8), (0, .ref (ad 0)), (1, .int a1), (2, .int a2), (3, .int a3), (4, .int a4), (5, .int a5), (6, .int x6), (7, .int x7)]) dX6_copy_195 rfl (by decide) (fun _ => rfl) h 198 rfl (fun v13 h => ?_)
          refine ww_goto C 147 dX6_copy_198 (by decide) ?_
          exact ww_sub [2, 3, 4, 5, 6, 7, 8, 9, 0] rfl (ih _ _ _ _ h)
        · refine ww_iload C 5 dX6_copy_161 rfl 163 rfl ?_
          refine ww_iconst C (1 : Int32) dX6_copy_163 (by decide) 164 rfl ?_
          refine ww_isub C dX6_copy_164 165 rfl ?_
          refine ww_iload C 8 dX6_copy_165 rfl 167 rfl ?_
          refine ww_isub C dX6_copy_167 168 rfl ?_
          refine ww_goto C 173 dX6_copy_168 (by decide) ?_
          refine ww_bi h (fun v14 h => ?_)
          refine ww_istore C [(9, .int v14), (0, .ref (ad 0)), (1, .int a1), (2, .int a2), (3, .int a3), (4, .int a4), (5, .int a5), (6, .int x6), (7, .int x7), (8, .int x8)] dX6_copy_173 (by decide) rfl 175 rfl ?_
          refine ww_aload_n C 1 dX6_copy_175 rfl rfl 176 rfl ?_
          refine ww_getS C cl_X6 (obM hn) 18 (by decide) rfl 13 rfl w_865 dX6_copy_176 179 rfl ?_
          refine ww_iload C 8 dX6_copy_179 rfl 181 rfl ?_
          refine ww_iload C 0 dX6_copy_181 rfl 183 rfl ?_
          refine ww_iadd C dX6_copy_183 184 rfl ?_
          refine ww_aload_n C 1 dX6_copy_184 rfl rfl 185 rfl ?_
          refine ww_getS C cl_X6 (obM hn) 18 (by decide) rfl 13 rfl w_865 dX6_copy_185 188 rfl ?_
          refine ww_iload C 7 dX6_copy_188 rfl 190 rfl ?_
          refine ww_iload C 0 dX6_copy_190 rfl 192 rfl ?_
          refine ww_iadd C dX6_copy_192 193 rfl ?_
          refine ww_iald C (iaM hn 13 160 (by decide) (by decide) rfl) dX6_copy_193 h 194 rfl (fun h => ?_)
          refine ww_iast C (iaM hn 13 160 (by decide) (by decide) rfl) dX6_copy_194 h 195 rfl (fun u15 h => ?_)
          refine ww_iinc C 9 (1 : Int32) (by decide) (fun v16 => [(8, .int v16), (9, .int v14), (0, .ref (ad 0)), (1, .int a1), (2, .int a2), (3, .int a3), (4, .int a4), (5, .int a5), (6, .int x6), (7, .int x7)]) dX6_copy_195 rfl (by decide) (fun _ => rfl) h 198 rfl (fun v16 h => ?_)
          refine ww_goto C 147 dX6_copy_198 (by decide) ?_
          exact ww_sub [2, 3, 4, 5, 6, 7, 8, 9, 0] rfl (ih _ _ _ _ h)
  rw [X6_copy] at h
  refine ww_iload_n C 1 dX6_copy_0 rfl rfl 1 rfl ?_
  refine ww_iconst C (0 : Int32) dX6_copy_1 (by decide) 2 rfl ?_
  refine ww_iconst C (3 : Int32) dX6_copy_2 (by decide) 3 rfl ?_
  refine ww_callSi C (As := [.int a1, .int (0 : Int32), .int (3 : Int32)]) (st := []) h (fun _ _ hF => k_X6_in hn hF) w_808 cm_X6_in (by decide) (by decide) rfl rfl (Nat.le_of_ble_eq_true rfl) dX6_copy_3 6 rfl (fun v18 u17 h => ?_)
  refine ww_if_eq C 18 dX6_copy_6 (by decide) h 9 rfl (fun h => ?_) (fun h => ?_)
  · refine ww_bipush C (-2 : Int32) dX6_copy_18 (by decide) 20 rfl ?_
    exact ww_iret C dX6_copy_20 hr h
  · refine ww_iload_n C 3 dX6_copy_9 rfl rfl 10 rfl ?_
    refine ww_iconst C (0 : Int32) dX6_copy_10 (by decide) 11 rfl ?_
    refine ww_iconst C (3 : Int32) dX6_copy_11 (by decide) 12 rfl ?_
    refine ww_callSi C (As := [.int a3, .int (0 : Int32), .int (3 : Int32)]) (st := []) h (fun _ _ hF => k_X6_in hn hF) w_808 cm_X6_in (by decide) (by decide) rfl rfl (Nat.le_of_ble_eq_true rfl) dX6_copy_12 15 rfl (fun v20 u19 h => ?_)
    refine ww_if_ne C 21 dX6_copy_15 (by decide) h 18 rfl (fun h => ?_) (fun h => ?_)
    · refine ww_aload_n C 0 dX6_copy_21 rfl rfl 22 rfl ?_
      refine ww_getS C cl_X6 (obM hn) 16 (by decide) rfl 11 rfl w_863 dX6_copy_22 25 rfl ?_
      refine ww_iload_n C 1 dX6_copy_25 rfl rfl 26 rfl ?_
      refine ww_iald C (iaM hn 11 4 (by decide) (by decide) rfl) dX6_copy_26 h 27 rfl (fun h => ?_)
      refine ww_iconst C (-1 : Int32) dX6_copy_27 (by decide) 28 rfl ?_
      refine ww_icmp_eq C 41 dX6_copy_28 (by decide) h 31 rfl (fun h => ?_) (fun h => ?_)
      · refine ww_bipush C (-11 : Int32) dX6_copy_41 (by decide) 43 rfl ?_
        exact ww_iret C dX6_copy_43 hr h
      · refine ww_aload_n C 0 dX6_copy_31 rfl rfl 32 rfl ?_
        refine ww_getS C cl_X6 (obM hn) 16 (by decide) rfl 11 rfl w_863 dX6_copy_32 35 rfl ?_
        refine ww_iload_n C 3 dX6_copy_35 rfl rfl 36 rfl ?_
        refine ww_iald C (iaM hn 11 4 (by decide) (by decide) rfl) dX6_copy_36 h 37 rfl (fun h => ?_)
        refine ww_iconst C (-1 : Int32) dX6_copy_37 (by decide) 38 rfl ?_
        refine ww_icmp_ne C 44 dX6_copy_38 (by decide) h 41 rfl (fun h => ?_) (fun h => ?_)
        · refine ww_aload_n C 0 dX6_copy_44 rfl rfl 45 rfl ?_
          refine ww_getS C cl_X6 (obM hn) 16 (by decide) rfl 11 rfl w_863 dX6_copy_45 48 rfl ?_
          refine ww_iload_n C 1 dX6_copy_48 rfl rfl 49 rfl ?_
          refine ww_iald C (iaM hn 11 4 (by decide) (by decide) rfl) dX6_copy_49 h 50 rfl (fun h => ?_)
          refine ww_aload_n C 0 dX6_copy_50 rfl rfl 51 rfl ?_
          refine ww_getS C cl_X6 (obM hn) 16 (by decide) rfl 11 rfl w_863 dX6_copy_51 54 rfl ?_
          refine ww_iload_n C 3 dX6_copy_54 rfl rfl 55 rfl ?_
          refine ww_iald C (iaM hn 11 4 (by decide) (by decide) rfl) dX6_copy_55 h 56 rfl (fun h => ?_)
          refine ww_icmp_eq C 62 dX6_copy_56 (by decide) h 59 rfl (fun h => ?_) (fun h => ?_)
          · refine ww_iload C 5 dX6_copy_62 rfl 64 rfl ?_
            refine ww_if_lt C 124 dX6_copy_64 (by decide) h 67 rfl (fun h => ?_) (fun h => ?_)
            · refine ww_bipush C (-12 : Int32) dX6_copy_124 (by decide) 126 rfl ?_
              exact ww_iret C dX6_copy_126 hr h
            · refine ww_iload_n C 2 dX6_copy_67 rfl rfl 68 rfl ?_
              refine ww_if_lt C 124 dX6_copy_68 (by decide) h 71 rfl (fun h => ?_) (fun h => ?_)
              · refine ww_bipush C (-12 : Int32) dX6_copy_124 (by decide) 126 rfl ?_
                exact ww_iret C dX6_copy_126 hr h
              · refine ww_iload C 4 dX6_copy_71 rfl 73 rfl ?_
                refine ww_if_lt C 124 dX6_copy_73 (by decide) h 76 rfl (fun h => ?_) (fun h => ?_)
                · refine ww_bipush C (-12 : Int32) dX6_copy_124 (by decide) 126 rfl ?_
                  exact ww_iret C dX6_copy_126 hr h
                · refine ww_iload_n C 2 dX6_copy_76 rfl rfl 77 rfl ?_
                  refine ww_aload_n C 0 dX6_copy_77 rfl rfl 78 rfl ?_
                  refine ww_getS C cl_X6 (obM hn) 17 (by decide) rfl 12 rfl w_864 dX6_copy_78 81 rfl ?_
                  refine ww_iload_n C 1 dX6_copy_81 rfl rfl 82 rfl ?_
                  refine ww_iald C (iaM hn 12 4 (by decide) (by decide) rfl) dX6_copy_82 h 83 rfl (fun h => ?_)
                  refine ww_icmp_gt C 124 dX6_copy_83 (by decide) h 86 rfl (fun h => ?_) (fun h => ?_)
                  · refine ww_bipush C (-12 : Int32) dX6_copy_124 (by decide) 126 rfl ?_
                    exact ww_iret C dX6_copy_126 hr h
                  · refine ww_iload C 4 dX6_copy_86 rfl 88 rfl ?_
                    refine ww_aload_n C 0 dX6_copy_88 rfl rfl 89 rfl ?_
                    refine ww_getS C cl_X6 (obM hn) 17 (by decide) rfl 12 rfl w_864 dX6_copy_89 92 rfl ?_
                    refine ww_iload_n C 3 dX6_copy_92 rfl rfl 93 rfl ?_
                    refine ww_iald C (iaM hn 12 4 (by decide) (by decide) rfl) dX6_copy_93 h 94 rfl (fun h => ?_)
                    refine ww_icmp_gt C 124 dX6_copy_94 (by decide) h 97 rfl (fun h => ?_) (fun h => ?_)
                    · refine ww_bipush C (-12 : Int32) dX6_copy_124 (by decide) 126 rfl ?_
                      exact ww_iret C dX6_copy_126 hr h
                    · refine ww_iload C 5 dX6_copy_97 rfl 99 rfl ?_
                      refine ww_aload_n C 0 dX6_copy_99 rfl rfl 100 rfl ?_
                      refine ww_getS C cl_X6 (obM hn) 17 (by decide) rfl 12 rfl w_864 dX6_copy_100 103 rfl ?_
                      refine ww_iload_n C 1 dX6_copy_103 rfl rfl 104 rfl ?_
                      refine ww_iald C (iaM hn 12 4 (by decide) (by decide) rfl) dX6_copy_104 h 105 rfl (fun h => ?_)
                      refine ww_iload_n C 2 dX6_copy_105 rfl rfl 106 rfl ?_
                      refine ww_isub C dX6_copy_106 107 rfl ?_
                      refine ww_icmp_gt C 124 dX6_copy_107 (by decide) h 110 rfl (fun h => ?_) (fun h => ?_)
                      · refine ww_bipush C (-12 : Int32) dX6_copy_124 (by decide) 126 rfl ?_
                        exact ww_iret C dX6_copy_126 hr h
                      · refine ww_iload C 5 dX6_copy_110 rfl 112 rfl ?_
                        refine ww_aload_n C 0 dX6_copy_112 rfl rfl 113 rfl ?_
                        refine ww_getS C cl_X6 (obM hn) 17 (by decide) rfl 12 rfl w_864 dX6_copy_113 116 rfl ?_
                        refine ww_iload_n C 3 dX6_copy_116 rfl rfl 117 rfl ?_
                        refine ww_iald C (iaM hn 12 4 (by decide) (by decide) rfl) dX6_copy_117 h 118 rfl (fun h => ?_)
                        refine ww_iload C 4 dX6_copy_118 rfl 120 rfl ?_
                        refine ww_isub C dX6_copy_120 121 rfl ?_
                        refine ww_icmp_le C 127 dX6_copy_121 (by decide) h 124 rfl (fun h => ?_) (fun h => ?_)
                        · refine ww_bipush C (40 : Int32) dX6_copy_127 (by decide) 129 rfl ?_
                          refine ww_iload_n C 1 dX6_copy_129 rfl rfl 130 rfl ?_
                          refine ww_imul C dX6_copy_130 131 rfl ?_
                          refine ww_iload_n C 2 dX6_copy_131 rfl rfl 132 rfl ?_
                          refine ww_iadd C dX6_copy_132 133 rfl ?_
                          refine ww_bi h (fun v21 h => ?_)
                          refine ww_istore C [(6, .int v21), (0, .ref (ad 0)), (1, .int a1), (2, .int a2), (3, .int a3), (4, .int a4), (5, .int a5)] dX6_copy_133 (by decide) rfl 135 rfl ?_
                          refine ww_bipush C (40 : Int32) dX6_copy_135 (by decide) 137 rfl ?_
                          refine ww_iload_n C 4 dX6_copy_137 rfl rfl 138 rfl ?_
                          refine ww_imul C dX6_copy_138 139 rfl ?_
                          refine ww_iload C 5 dX6_copy_139 rfl 141 rfl ?_
                          refine ww_iadd C dX6_copy_141 142 rfl ?_
                          refine ww_bi h (fun v22 h => ?_)
                          refine ww_istore C [(7, .int v22), (6, .int v21), (0, .ref (ad 0)), (1, .int a1), (2, .int a2), (3, .int a3), (4, .int a4), (5, .int a5)] dX6_copy_142 (by decide) rfl 144 rfl ?_
                          refine ww_iconst C (0 : Int32) dX6_copy_144 (by decide) 145 rfl ?_
                          refine ww_istore C [(8, .int (0 : Int32)), (7, .int v22), (6, .int v21), (0, .ref (ad 0)), (1, .int a1), (2, .int a2), (3, .int a3), (4, .int a4), (5, .int a5)] dX6_copy_145 (by decide) rfl 147 rfl ?_
                          exact ww_sub [3, 4, 5, 6, 7, 8, 2, 1, 0] rfl (L147h N _ _ _ _ h)
                        · refine ww_bipush C (-12 : Int32) dX6_copy_124 (by decide) 126 rfl ?_
                          exact ww_iret C dX6_copy_126 hr h
          · refine ww_bipush C (-13 : Int32) dX6_copy_59 (by decide) 61 rfl ?_
            exact ww_iret C dX6_copy_61 hr h
        · refine ww_bipush C (-11 : Int32) dX6_copy_41 (by decide) 43 rfl ?_
          exact ww_iret C dX6_copy_43 hr h
    · refine ww_bipush C (-2 : Int32) dX6_copy_18 (by decide) 20 rfl ?_
      exact ww_iret C dX6_copy_20 hr h

set_option maxRecDepth 100000 in
set_option maxHeartbeats 4000000 in
theorem k_X6_diversBy {l : Launch} {D : va_G} {ad : Nat → Nat} {cA : Nat → ClassId} {tys : List (ClassId × FieldType)} {n : Nat} {sa : Nat → Nat} (hn : 20 ≤ n) {N : Nat} {g : Mem} {a1 : Int32} {a2 : Int32} {a3 : Int32} {a4 : Int32} {r : Int32} {g1 : Mem} (h : X6_diversBy N a1 a2 a3 a4 g = some (r, g1)) : CTi l yX6_diversBy (wsm yX6_diversBy cX6_diversBy 9 (some .int)) 3 D YM ad cA tys n sa g [.ref (ad 0), .int a1, .int a2, .int a3, .int a4] r g1 := by
  refine ct_of RX6 rfl (by decide +kernel) (Nat.le_of_ble_eq_true rfl) rfl (fun sz => PBi D YM ad cA n r g1 sz) ?_
  intro p e R s m args below meth c C hr
  have L64h : ∀ (fu : Nat), (∀ (x5 : Int32) (x6 : Int32) (g : Mem), X6_diversBy_L64 N a1 a2 a3 a4 fu x5 x6 g = some (r, g1) → WW p l e R s m args below meth c 9 D YM ad cA n (MQ below (PBi D YM ad cA n r g1 s.heap.size) args s 0 0 (AA n ad s.heap.size)) g 64 [(0, .ref (ad 0)), (1, .int a1), (2, .int a2), (3, .int a3), (4, .int a4), (5, .int x5), (6, .int x6)] []) := by
    intro fu
    induction fu with
    | zero => intro x5 x6 g h; cases h
    | succ fu ih =>
      intro x5 x6 g h
      rw [X6_diversBy_L64] at h
      refine ww_iload C 6 dX6_diversBy_64 rfl 66 rfl ?_
      refine ww_iload C 4 dX6_diversBy_66 rfl 68 rfl ?_
      refine ww_icmp_ge C 153 dX6_diversBy_68 (by decide) h 71 rfl (fun h => ?_) (fun h => ?_)
      · refine ww_iload C 5 dX6_diversBy_153 rfl 155 rfl ?_
        exact ww_iret C dX6_diversBy_155 hr h
      · refine ww_iload_n C 3 dX6_diversBy_71 rfl rfl 72 rfl ?_
        refine ww_iconst C (2 : Int32) dX6_diversBy_72 (by decide) 73 rfl ?_
        refine ww_iload C 6 dX6_diversBy_73 rfl 75 rfl ?_
        refine ww_imul C dX6_diversBy_75 76 rfl ?_
        refine ww_iadd C dX6_diversBy_76 77 rfl ?_
        refine ww_bi h (fun v15 h => ?_)
        refine ww_istore C [(7, .int v15), (0, .ref (ad 0)), (1, .int a1), (2, .int a2), (3, .int a3), (4, .int a4), (5, .int x5), (6, .int x6)] dX6_diversBy_77 (by decide) rfl 79 rfl ?_
        refine ww_iload_n C 4 dX6_diversBy_79 rfl rfl 80 rfl ?_
        refine ww_if_lt C 102 dX6_diversBy_80 (by decide) h 83 rfl (fun h => ?_) (fun h => ?_)
        · refine ww_bipush C (-12 : Int32) dX6_diversBy_102 (by decide) 104 rfl ?_
          exact ww_iret C dX6_diversBy_104 hr h
        · refine ww_iload C 0 dX6_diversBy_83 rfl 85 rfl ?_
          refine ww_iload_n C 4 dX6_diversBy_85 rfl rfl 86 rfl ?_
          refine ww_icmp_lt C 102 dX6_diversBy_86 (by decide) h 89 rfl (fun h => ?_) (fun h => ?_)
          · refine ww_bipush C (-12 : Int32) dX6_diversBy_102 (by decide) 104 rfl ?_
            exact ww_iret C dX6_diversBy_104 hr h
          · refine ww_iload C 0 dX6_diversBy_89 rfl 91 rfl ?_
            refine ww_aload_n C 1 dX6_diversBy_91 rfl rfl 92 rfl ?_
            refine ww_getS C cl_X6 (obM hn) 17 (by decide) rfl 12 rfl w_864 dX6_diversBy_92 95 rfl ?_
            refine ww_iload_n C 2 dX6_diversBy_95 rfl rfl 96 rfl ?_
            refine ww_iald C (iaM hn 12 4 (by decide) (by decide) rfl) dX6_diversBy_96 h 97 rfl (fun h => ?_)
            refine ww_iconst C (2 : Int32) dX6_diversBy_97 (by decide) 98 rfl ?_
            refine ww_isub C dX6_diversBy_98 99 rfl ?_
            refine ww_icmp_le C 105 dX6_diversBy_99 (by decide) h 102 rfl (fun h => ?_) (fun h => ?_)
            · refine ww_bipush C (40 : Int32) dX6_diversBy_105 (by decide) 107 rfl ?_
              refine ww_iload_n C 2 dX6_diversBy_107 rfl rfl 108 rfl ?_
              refine ww_imul C dX6_diversBy_108 109 rfl ?_
              refine ww_iload C 0 dX6_diversBy_109 rfl 111 rfl ?_
              refine ww_iadd C dX6_diversBy_111 112 rfl ?_
              refine ww_bi h (fun v16 h => ?_)
              refine ww_istore C [(8, .int v16), (7, .int v15), (0, .ref (ad 0)), (1, .int a1), (2, .int a2), (3, .int a3), (4, .int a4), (5, .int x5), (6, .int x6)] dX6_diversBy_112 (by decide) rfl 114 rfl ?_
              refine ww_iload C 7 dX6_diversBy_114 rfl 116 rfl ?_
              refine ww_aload_n C 2 dX6_diversBy_116 rfl rfl 117 rfl ?_
              refine ww_aload_n C 2 dX6_diversBy_117 rfl rfl 118 rfl ?_
              refine ww_getS C cl_X6 (obM hn) 18 (by decide) rfl 13 rfl w_865 dX6_diversBy_118 121 rfl ?_
              refine ww_iload C 0 dX6_diversBy_121 rfl 123 rfl ?_
              refine ww_iald C (iaM hn 13 160 (by decide) (by decide) rfl) dX6_diversBy_123 h 124 rfl (fun h => ?_)
              refine ww_aload_n C 2 dX6_diversBy_124 rfl rfl 125 rfl ?_
              refine ww_getS C cl_X6 (obM hn) 18 (by decide) rfl 13 rfl w_865 dX6_diversBy_125 128 rfl ?_
              refine ww_iload C 0 dX6_diversBy_128 rfl 130 rfl ?_
              refine ww_iconst C (1 : Int32) dX6_diversBy_130 (by decide) 131 rfl ?_
              refine ww_iadd C dX6_diversBy_131 132 rfl ?_
              refine ww_iald C (iaM hn 13 160 (by decide) (by decide) rfl) dX6_diversBy_132 h 133 rfl (fun h => ?_)
              refine ww_callVi C (As := [.int (g.1 13 (v16).toNatClampNeg), .int (g.1 13 (v16 + (1 : Int32)).toNatClampNeg)]) (st := [.int x5]) h cl_X6.1 (obM hn) (fun _ _ hF => k_X6_diver hn hF) w_1250 cm_X6_diver (by decide) (by decide) rfl rfl (Nat.le_of_ble_eq_true rfl) dX6_diversBy_133 136 rfl (fun v18 u17 h => ?_)
              refine ww_if_lt C 143 dX6_diversBy_136 (by decide) h 139 rfl (fun h => ?_) (fun h => ?_)
              · refine ww_iconst C (0 : Int32) dX6_diversBy_143 (by decide) 144 rfl ?_
                refine ww_iadd C dX6_diversBy_144 145 rfl ?_
                refine ww_bi h (fun v19 h => ?_)
                refine ww_istore C [(5, .int v19), (8, .int v16), (7, .int v15), (0, .ref (ad 0)), (1, .int a1), (2, .int a2), (3, .int a3), (4, .int a4), (6, .int x6)] dX6_diversBy_145 (by decide) rfl 147 rfl ?_
                refine ww_iinc C 8 (1 : Int32) (by decide) (fun v20 => [(6, .int v20), (5, .int v19), (8, .int v16), (7, .int v15), (0, .ref (ad 0)), (1, .int a1), (2, .int a2), (3, .int a3), (4, .int a4)]) dX6_diversBy_147 rfl (by decide) (fun _ => rfl) h 150 rfl (fun v20 h => ?_)
                refine ww_goto C 64 dX6_diversBy_150 (by decide) ?_
                exact ww_sub [4, 5, 6, 7, 8, 1, 0] rfl (ih _ _ _ h)
              · refine ww_iconst C (1 : Int32) dX6_diversBy_139 (by decide) 140 rfl ?_
                refine ww_goto C 144 dX6_diversBy_140 (by decide) ?_
                refine ww_iadd C dX6_diversBy_144 145 rfl ?_
                refine ww_bi h (fun v21 h => ?_)
                refine ww_istore C [(5, .int v21), (8, .int v16), (7, .int v15), (0, .ref (ad 0)), (1, .int a1), (2, .int a2), (3, .int a3), (4, .int a4), (6, .int x6)] dX6_diversBy_145 (by decide) rfl 147 rfl ?_
                refine ww_iinc C 8 (1 : Int32) (by decide) (fun v22 => [(6, .int v22), (5, .int v21), (8, .int v16), (7, .int v15), (0, .ref (ad 0)), (1, .int a1), (2, .int a2), (3, .int a3), (4, .int a4)]) dX6_diversBy_147 rfl (by decide) (fun _ => rfl) h 150 rfl (fun v22 h => ?_)
                refine ww_goto C 64 dX6_diversBy_150 (by decide) ?_
                exact ww_sub [4, 5, 6, 7, 8, 1, 0] rfl (ih _ _ _ h)
            · refine ww_bipush C (-12 : Int32) dX6_diversBy_102 (by decide) 104 rfl ?_
              exact ww_iret C dX6_diversBy_104 hr h
  rw [X6_diversBy] at h
  refine ww_iload_n C 1 dX6_diversBy_0 rfl rfl 1 rfl ?_
  refine ww_iconst C (0 : Int32) dX6_diversBy_1 (by decide) 2 rfl ?_
  refine ww_iconst C (3 : Int32) dX6_diversBy_2 (by decide) 3 rfl ?_
  refine ww_callSi C (As := [.int a1, .int (0 : Int32), .int (3 : Int32)]) (st := []) h (fun _ _ hF => k_X6_in hn hF) w_808 cm_X6_in (by decide) (by decide) rfl rfl (Nat.le_of_ble_eq_true rfl) dX6_diversBy_3 6 rfl (fun v24 u23 h => ?_)
  refine ww_if_eq C 29 dX6_diversBy_6 (by decide) h 9 rfl (fun h => ?_) (fun h => ?_)
  · refine ww_bipush C (-2 : Int32) dX6_diversBy_29 (by decide) 31 rfl ?_
    exact ww_iret C dX6_diversBy_31 hr h
  · refine ww_iload_n C 2 dX6_diversBy_9 rfl rfl 10 rfl ?_
    refine ww_iconst C (0 : Int32) dX6_diversBy_10 (by decide) 11 rfl ?_
    refine ww_iconst C (2 : Int32) dX6_diversBy_11 (by decide) 12 rfl ?_
    refine ww_callSi C (As := [.int a2, .int (0 : Int32), .int (2 : Int32)]) (st := []) h (fun _ _ hF => k_X6_in hn hF) w_808 cm_X6_in (by decide) (by decide) rfl rfl (Nat.le_of_ble_eq_true rfl) dX6_diversBy_12 15 rfl (fun v26 u25 h => ?_)
    refine ww_if_eq C 29 dX6_diversBy_15 (by decide) h 18 rfl (fun h => ?_) (fun h => ?_)
    · refine ww_bipush C (-2 : Int32) dX6_diversBy_29 (by decide) 31 rfl ?_
      exact ww_iret C dX6_diversBy_31 hr h
    · refine ww_iload C 4 dX6_diversBy_18 rfl 20 rfl ?_
      refine ww_iconst C (0 : Int32) dX6_diversBy_20 (by decide) 21 rfl ?_
      refine ww_bipush C (6 : Int32) dX6_diversBy_21 (by decide) 23 rfl ?_
      refine ww_callSi C (As := [.int a4, .int (0 : Int32), .int (6 : Int32)]) (st := []) h (fun _ _ hF => k_X6_in hn hF) w_808 cm_X6_in (by decide) (by decide) rfl rfl (Nat.le_of_ble_eq_true rfl) dX6_diversBy_23 26 rfl (fun v28 u27 h => ?_)
      refine ww_if_ne C 32 dX6_diversBy_26 (by decide) h 29 rfl (fun h => ?_) (fun h => ?_)
      · refine ww_aload_n C 0 dX6_diversBy_32 rfl rfl 33 rfl ?_
        refine ww_getS C cl_X6 (obM hn) 16 (by decide) rfl 11 rfl w_863 dX6_diversBy_33 36 rfl ?_
        refine ww_iload_n C 1 dX6_diversBy_36 rfl rfl 37 rfl ?_
        refine ww_iald C (iaM hn 11 4 (by decide) (by decide) rfl) dX6_diversBy_37 h 38 rfl (fun h => ?_)
        refine ww_iconst C (-1 : Int32) dX6_diversBy_38 (by decide) 39 rfl ?_
        refine ww_icmp_ne C 45 dX6_diversBy_39 (by decide) h 42 rfl (fun h => ?_) (fun h => ?_)
        · refine ww_aload_n C 0 dX6_diversBy_45 rfl rfl 46 rfl ?_
          refine ww_getS C cl_X6 (obM hn) 16 (by decide) rfl 11 rfl w_863 dX6_diversBy_46 49 rfl ?_
          refine ww_iload_n C 1 dX6_diversBy_49 rfl rfl 50 rfl ?_
          refine ww_iald C (iaM hn 11 4 (by decide) (by decide) rfl) dX6_diversBy_50 h 51 rfl (fun h => ?_)
          refine ww_iload_n C 2 dX6_diversBy_51 rfl rfl 52 rfl ?_
          refine ww_icmp_eq C 58 dX6_diversBy_52 (by decide) h 55 rfl (fun h => ?_) (fun h => ?_)
          · refine ww_iconst C (0 : Int32) dX6_diversBy_58 (by decide) 59 rfl ?_
            refine ww_istore C [(5, .int (0 : Int32)), (0, .ref (ad 0)), (1, .int a1), (2, .int a2), (3, .int a3), (4, .int a4)] dX6_diversBy_59 (by decide) rfl 61 rfl ?_
            refine ww_iconst C (0 : Int32) dX6_diversBy_61 (by decide) 62 rfl ?_
            refine ww_istore C [(6, .int (0 : Int32)), (5, .int (0 : Int32)), (0, .ref (ad 0)), (1, .int a1), (2, .int a2), (3, .int a3), (4, .int a4)] dX6_diversBy_62 (by decide) rfl 64 rfl ?_
            exact ww_sub [2, 3, 4, 5, 6, 1, 0] rfl (L64h N _ _ _ h)
          · refine ww_bipush C (-13 : Int32) dX6_diversBy_55 (by decide) 57 rfl ?_
            exact ww_iret C dX6_diversBy_57 hr h
        · refine ww_bipush C (-11 : Int32) dX6_diversBy_42 (by decide) 44 rfl ?_
          exact ww_iret C dX6_diversBy_44 hr h
      · refine ww_bipush C (-2 : Int32) dX6_diversBy_29 (by decide) 31 rfl ?_
        exact ww_iret C dX6_diversBy_31 hr h

set_option maxRecDepth 100000 in
set_option maxHeartbeats 4000000 in
theorem k_X6_isUnder {l : Launch} {D : va_G} {ad : Nat → Nat} {cA : Nat → ClassId} {tys : List (ClassId × FieldType)} {n : Nat} {sa : Nat → Nat} (hn : 20 ≤ n) {N : Nat} {g : Mem} {a1 : Int32} {a2 : Int32} {r : Int32} {g1 : Mem} (h : X6_isUnder N a1 a2 g = some (r, g1)) : CTi l yX6_isUnder (wsm yX6_isUnder cX6_isUnder 2 (some .boolean)) 1 D YM ad cA tys n sa g [.int a1, .int a2] r g1 := by
  refine ct_of RX6 rfl (by decide +kernel) (Nat.le_of_ble_eq_true rfl) rfl (fun sz => PBi D YM ad cA n r g1 sz) ?_
  intro p e R s m args below meth c C hr
  rw [X6_isUnder] at h
  refine ww_iload_n C 1 dX6_isUnder_0 rfl rfl 1 rfl ?_
  refine ww_if_eq C 29 dX6_isUnder_1 (by decide) h 4 rfl (fun h => ?_) (fun h => ?_)
  · refine ww_iconst C (1 : Int32) dX6_isUnder_29 (by decide) 30 rfl ?_
    refine ww_goto C 34 dX6_isUnder_30 (by decide) ?_
    exact ww_zret C dX6_isUnder_34 hr rfl h
  · refine ww_iload_n C 0 dX6_isUnder_4 rfl rfl 5 rfl ?_
    refine ww_iload_n C 1 dX6_isUnder_5 rfl rfl 6 rfl ?_
    refine ww_icmp_eq C 29 dX6_isUnder_6 (by decide) h 9 rfl (fun h => ?_) (fun h => ?_)
    · refine ww_iconst C (1 : Int32) dX6_isUnder_29 (by decide) 30 rfl ?_
      refine ww_goto C 34 dX6_isUnder_30 (by decide) ?_
      exact ww_zret C dX6_isUnder_34 hr rfl h
    · refine ww_iload_n C 1 dX6_isUnder_9 rfl rfl 10 rfl ?_
      refine ww_iconst C (1 : Int32) dX6_isUnder_10 (by decide) 11 rfl ?_
      refine ww_icmp_ne C 19 dX6_isUnder_11 (by decide) h 14 rfl (fun h => ?_) (fun h => ?_)
      · refine ww_iload_n C 1 dX6_isUnder_19 rfl rfl 20 rfl ?_
        refine ww_iconst C (2 : Int32) dX6_isUnder_20 (by decide) 21 rfl ?_
        refine ww_icmp_ne C 33 dX6_isUnder_21 (by decide) h 24 rfl (fun h => ?_) (fun h => ?_)
        · refine ww_iconst C (0 : Int32) dX6_isUnder_33 (by decide) 34 rfl ?_
          exact ww_zret C dX6_isUnder_34 hr rfl h
        · refine ww_iload_n C 0 dX6_isUnder_24 rfl rfl 25 rfl ?_
          refine ww_iconst C (4 : Int32) dX6_isUnder_25 (by decide) 26 rfl ?_
          refine ww_icmp_ne C 33 dX6_isUnder_26 (by decide) h 29 rfl (fun h => ?_) (fun h => ?_)
          · refine ww_iconst C (0 : Int32) dX6_isUnder_33 (by decide) 34 rfl ?_
            exact ww_zret C dX6_isUnder_34 hr rfl h
          · refine ww_iconst C (1 : Int32) dX6_isUnder_29 (by decide) 30 rfl ?_
            refine ww_goto C 34 dX6_isUnder_30 (by decide) ?_
            exact ww_zret C dX6_isUnder_34 hr rfl h
      · refine ww_iload_n C 0 dX6_isUnder_14 rfl rfl 15 rfl ?_
        refine ww_iconst C (3 : Int32) dX6_isUnder_15 (by decide) 16 rfl ?_
        refine ww_icmp_eq C 29 dX6_isUnder_16 (by decide) h 19 rfl (fun h => ?_) (fun h => ?_)
        · refine ww_iconst C (1 : Int32) dX6_isUnder_29 (by decide) 30 rfl ?_
          refine ww_goto C 34 dX6_isUnder_30 (by decide) ?_
          exact ww_zret C dX6_isUnder_34 hr rfl h
        · refine ww_iload_n C 1 dX6_isUnder_19 rfl rfl 20 rfl ?_
          refine ww_iconst C (2 : Int32) dX6_isUnder_20 (by decide) 21 rfl ?_
          refine ww_icmp_ne C 33 dX6_isUnder_21 (by decide) h 24 rfl (fun h => ?_) (fun h => ?_)
          · refine ww_iconst C (0 : Int32) dX6_isUnder_33 (by decide) 34 rfl ?_
            exact ww_zret C dX6_isUnder_34 hr rfl h
          · refine ww_iload_n C 0 dX6_isUnder_24 rfl rfl 25 rfl ?_
            refine ww_iconst C (4 : Int32) dX6_isUnder_25 (by decide) 26 rfl ?_
            refine ww_icmp_ne C 33 dX6_isUnder_26 (by decide) h 29 rfl (fun h => ?_) (fun h => ?_)
            · refine ww_iconst C (0 : Int32) dX6_isUnder_33 (by decide) 34 rfl ?_
              exact ww_zret C dX6_isUnder_34 hr rfl h
            · refine ww_iconst C (1 : Int32) dX6_isUnder_29 (by decide) 30 rfl ?_
              refine ww_goto C 34 dX6_isUnder_30 (by decide) ?_
              exact ww_zret C dX6_isUnder_34 hr rfl h

set_option maxRecDepth 100000 in
set_option maxHeartbeats 4000000 in
theorem k_X6_taken {l : Launch} {D : va_G} {ad : Nat → Nat} {cA : Nat → ClassId} {tys : List (ClassId × FieldType)} {n : Nat} {sa : Nat → Nat} (hn : 20 ≤ n) {N : Nat} {g : Mem} {a1 : Int32} {a2 : Int32} {r : Int32} {g1 : Mem} (h : X6_taken N a1 a2 g = some (r, g1)) : CTi l yX6_taken (wsm yX6_taken cX6_taken 4 (some .int)) 2 D YM ad cA tys n sa g [.ref (ad 0), .int a1, .int a2] r g1 := by
  refine ct_of RX6 rfl (by decide +kernel) (Nat.le_of_ble_eq_true rfl) rfl (fun sz => PBi D YM ad cA n r g1 sz) ?_
  intro p e R s m args below meth c C hr
  rw [X6_taken] at h
  refine ww_iload_n C 2 dX6_taken_0 rfl rfl 1 rfl ?_
  refine ww_iconst C (0 : Int32) dX6_taken_1 (by decide) 2 rfl ?_
  refine ww_bipush C (6 : Int32) dX6_taken_2 (by decide) 4 rfl ?_
  refine ww_callSi C (As := [.int a2, .int (0 : Int32), .int (6 : Int32)]) (st := []) h (fun _ _ hF => k_X6_in hn hF) w_808 cm_X6_in (by decide) (by decide) rfl rfl (Nat.le_of_ble_eq_true rfl) dX6_taken_4 7 rfl (fun v9 u8 h => ?_)
  refine ww_if_ne C 13 dX6_taken_7 (by decide) h 10 rfl (fun h => ?_) (fun h => ?_)
  · refine ww_iload_n C 1 dX6_taken_13 rfl rfl 14 rfl ?_
    refine ww_iconst C (0 : Int32) dX6_taken_14 (by decide) 15 rfl ?_
    refine ww_bipush C (17 : Int32) dX6_taken_15 (by decide) 17 rfl ?_
    refine ww_callSi C (As := [.int a1, .int (0 : Int32), .int (17 : Int32)]) (st := []) h (fun _ _ hF => k_X6_in hn hF) w_808 cm_X6_in (by decide) (by decide) rfl rfl (Nat.le_of_ble_eq_true rfl) dX6_taken_17 20 rfl (fun v11 u10 h => ?_)
    refine ww_if_ne C 26 dX6_taken_20 (by decide) h 23 rfl (fun h => ?_) (fun h => ?_)
    · refine ww_iload_n C 1 dX6_taken_26 rfl rfl 27 rfl ?_
      refine ww_bipush C (6 : Int32) dX6_taken_27 (by decide) 29 rfl ?_
      refine ww_icmp_lt C 78 dX6_taken_29 (by decide) h 32 rfl (fun h => ?_) (fun h => ?_)
      · refine ww_iload_n C 1 dX6_taken_78 rfl rfl 79 rfl ?_
        refine ww_aload_n C 0 dX6_taken_79 rfl rfl 80 rfl ?_
        refine ww_getI C cl_X6 (obM hn) 0 (by decide) rfl w_847 dX6_taken_80 83 rfl ?_
        refine ww_icmp_lt C 91 dX6_taken_83 (by decide) h 86 rfl (fun h => ?_) (fun h => ?_)
        · refine ww_iload_n C 2 dX6_taken_91 rfl rfl 92 rfl ?_
          refine ww_bipush C (6 : Int32) dX6_taken_92 (by decide) 94 rfl ?_
          refine ww_icmp_ge C 114 dX6_taken_94 (by decide) h 97 rfl (fun h => ?_) (fun h => ?_)
          · refine ww_bipush C (-13 : Int32) dX6_taken_114 (by decide) 116 rfl ?_
            exact ww_iret C dX6_taken_116 hr h
          · refine ww_aload_n C 0 dX6_taken_97 rfl rfl 98 rfl ?_
            refine ww_getS C cl_X6 (obM hn) 1 (by decide) rfl 1 rfl w_848 dX6_taken_98 101 rfl ?_
            refine ww_iload_n C 1 dX6_taken_101 rfl rfl 102 rfl ?_
            refine ww_iald C (iaM hn 1 6 (by decide) (by decide) rfl) dX6_taken_102 h 103 rfl (fun h => ?_)
            refine ww_iload_n C 2 dX6_taken_103 rfl rfl 104 rfl ?_
            refine ww_callSi C (As := [.int (u10.1 1 (a1).toNatClampNeg), .int a2]) (st := []) h (fun _ _ hF => k_X6_isUnder hn hF) w_1255 cm_X6_isUnder (by decide) (by decide) rfl rfl (Nat.le_of_ble_eq_true rfl) dX6_taken_104 107 rfl (fun v13 u12 h => ?_)
            refine ww_if_eq C 114 dX6_taken_107 (by decide) h 110 rfl (fun h => ?_) (fun h => ?_)
            · refine ww_bipush C (-13 : Int32) dX6_taken_114 (by decide) 116 rfl ?_
              exact ww_iret C dX6_taken_116 hr h
            · refine ww_iload_n C 1 dX6_taken_110 rfl rfl 111 rfl ?_
              refine ww_goto C 116 dX6_taken_111 (by decide) ?_
              exact ww_iret C dX6_taken_116 hr h
        · refine ww_bipush C (-11 : Int32) dX6_taken_86 (by decide) 88 rfl ?_
          refine ww_goto C 116 dX6_taken_88 (by decide) ?_
          exact ww_iret C dX6_taken_116 hr h
      · refine ww_iload_n C 1 dX6_taken_32 rfl rfl 33 rfl ?_
        refine ww_bipush C (6 : Int32) dX6_taken_33 (by decide) 35 rfl ?_
        refine ww_isub C dX6_taken_35 36 rfl ?_
        refine ww_bi h (fun v14 h => ?_)
        refine ww_istore_n C [(3, .int v14), (0, .ref (ad 0)), (1, .int a1), (2, .int a2)] dX6_taken_36 rfl (by decide) rfl 37 rfl ?_
        refine ww_aload_n C 1 dX6_taken_37 rfl rfl 38 rfl ?_
        refine ww_getS C cl_X6 (obM hn) 4 (by decide) rfl 4 rfl w_851 dX6_taken_38 41 rfl ?_
        refine ww_iconst C (4 : Int32) dX6_taken_41 (by decide) 42 rfl ?_
        refine ww_iload_n C 0 dX6_taken_42 rfl rfl 43 rfl ?_
        refine ww_imul C dX6_taken_43 44 rfl ?_
        refine ww_iconst C (3 : Int32) dX6_taken_44 (by decide) 45 rfl ?_
        refine ww_iadd C dX6_taken_45 46 rfl ?_
        refine ww_iald C (iaM hn 4 48 (by decide) (by decide) rfl) dX6_taken_46 h 47 rfl (fun h => ?_)
        refine ww_iconst C (2 : Int32) dX6_taken_47 (by decide) 48 rfl ?_
        refine ww_icmp_ne C 56 dX6_taken_48 (by decide) h 51 rfl (fun h => ?_) (fun h => ?_)
        · refine ww_iload_n C 3 dX6_taken_56 rfl rfl 57 rfl ?_
          refine ww_bipush C (6 : Int32) dX6_taken_57 (by decide) 59 rfl ?_
          refine ww_icmp_ne C 75 dX6_taken_59 (by decide) h 62 rfl (fun h => ?_) (fun h => ?_)
          · refine ww_bipush C (-13 : Int32) dX6_taken_75 (by decide) 77 rfl ?_
            exact ww_iret C dX6_taken_77 hr h
          · refine ww_aload_n C 1 dX6_taken_62 rfl rfl 63 rfl ?_
            refine ww_getS C cl_X6 (obM hn) 4 (by decide) rfl 4 rfl w_851 dX6_taken_63 66 rfl ?_
            refine ww_iconst C (4 : Int32) dX6_taken_66 (by decide) 67 rfl ?_
            refine ww_iload_n C 0 dX6_taken_67 rfl rfl 68 rfl ?_
            refine ww_imul C dX6_taken_68 69 rfl ?_
            refine ww_iconst C (1 : Int32) dX6_taken_69 (by decide) 70 rfl ?_
            refine ww_iadd C dX6_taken_70 71 rfl ?_
            refine ww_iald C (iaM hn 4 48 (by decide) (by decide) rfl) dX6_taken_71 h 72 rfl (fun h => ?_)
            refine ww_goto C 77 dX6_taken_72 (by decide) ?_
            exact ww_iret C dX6_taken_77 hr h
        · refine ww_bipush C (-11 : Int32) dX6_taken_51 (by decide) 53 rfl ?_
          refine ww_goto C 77 dX6_taken_53 (by decide) ?_
          exact ww_iret C dX6_taken_77 hr h
    · refine ww_bipush C (-12 : Int32) dX6_taken_23 (by decide) 25 rfl ?_
      exact ww_iret C dX6_taken_25 hr h
  · refine ww_bipush C (-2 : Int32) dX6_taken_10 (by decide) 12 rfl ?_
    exact ww_iret C dX6_taken_12 hr h

