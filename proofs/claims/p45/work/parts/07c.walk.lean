set_option maxRecDepth 100000 in
set_option maxHeartbeats 4000000 in
theorem k_X1_casksAt {l : Launch} {D : va_G} {ad : Nat → Nat} {cA : Nat → ClassId} {tys : List (ClassId × FieldType)} {n : Nat} {sa : SA} (hn : 73 ≤ n) {N : Nat} {g : Mem} {b : Nat} (hb : isScene b) {a1 : Int32} {r : Int32} {g1 : Mem} (h : X1_casksAt N b a1 g = some (r, g1)) : CTi l yX1_casksAt (wsm yX1_casksAt cX1_casksAt 4 (some .int)) 1 D YI ad cA tys n sa g [.ref (ad b), .int a1] r g1 := by
  refine ct_of RX1 rfl (by decide +kernel) (Nat.le_of_ble_eq_true rfl) rfl (fun sz => PBi D YI ad cA n r g1 sz) ?_
  intro p e R s m args below meth c C hr
  have L4h : ∀ (fu : Nat), (∀ (x2 : Int32) (x3 : Int32) (g : Mem), X1_casksAt_L4 N b a1 fu x2 x3 g = some (r, g1) → WW p l e R s m args below meth c 4 D YI ad cA n (MQ below (PBi D YI ad cA n r g1 s.heap.size) args s 0 0 (AA n ad s.heap.size)) g 4 [(0, .ref (ad b)), (1, .int a1), (2, .int x2), (3, .int x3)] []) := by
    intro fu
    induction fu with
    | zero => intro x2 x3 g h; cases h
    | succ fu ih =>
      intro x2 x3 g h
      rw [X1_casksAt_L4] at h
      refine ww_iload_n C 3 dX1_casksAt_4 rfl rfl 5 rfl ?_
      refine ww_bipush C (12 : Int32) dX1_casksAt_5 (by decide) 7 rfl ?_
      refine ww_icmp_ge C 32 dX1_casksAt_7 (by decide) h 10 rfl (fun h => ?_) (fun h => ?_)
      · refine ww_iload_n C 2 dX1_casksAt_32 rfl rfl 33 rfl ?_
        exact ww_iret C dX1_casksAt_33 hr h
      · refine ww_aload_n C 0 dX1_casksAt_10 rfl rfl 11 rfl ?_
        refine ww_getS C cl_X1 (obScene hb hn) 4 (by decide) rfl (b + 5) (so_scene hb 4 5 (by decide) rfl) w_487 dX1_casksAt_11 14 rfl ?_
        refine ww_iload_n C 3 dX1_casksAt_14 rfl rfl 15 rfl ?_
        refine ww_iald C (iaScene (q := b) hb hn 5 12 (by decide)) dX1_casksAt_15 h 16 rfl (fun h => ?_)
        refine ww_iload_n C 1 dX1_casksAt_16 rfl rfl 17 rfl ?_
        refine ww_icmp_ne C 26 dX1_casksAt_17 (by decide) h 20 rfl (fun h => ?_) (fun h => ?_)
        · refine ww_iinc C 3 (1 : Int32) (by decide) (fun v4 => [(3, .int v4), (0, .ref (ad b)), (1, .int a1), (2, .int x2)]) dX1_casksAt_26 rfl (by decide) (fun _ => rfl) h 29 rfl (fun v4 h => ?_)
          refine ww_goto C 4 dX1_casksAt_29 (by decide) ?_
          exact ww_sub [1, 2, 3, 0] rfl (ih _ _ _ h)
        · refine ww_iload_n C 2 dX1_casksAt_20 rfl rfl 21 rfl ?_
          refine ww_iconst C (1 : Int32) dX1_casksAt_21 (by decide) 22 rfl ?_
          refine ww_iload_n C 3 dX1_casksAt_22 rfl rfl 23 rfl ?_
          refine ww_ishl C dX1_casksAt_23 24 rfl ?_
          refine ww_ior C dX1_casksAt_24 25 rfl ?_
          refine ww_bi h (fun v5 h => ?_)
          refine ww_istore_n C [(2, .int v5), (0, .ref (ad b)), (1, .int a1), (3, .int x3)] dX1_casksAt_25 rfl (by decide) rfl 26 rfl ?_
          refine ww_iinc C 3 (1 : Int32) (by decide) (fun v6 => [(3, .int v6), (2, .int v5), (0, .ref (ad b)), (1, .int a1)]) dX1_casksAt_26 rfl (by decide) (fun _ => rfl) h 29 rfl (fun v6 h => ?_)
          refine ww_goto C 4 dX1_casksAt_29 (by decide) ?_
          exact ww_sub [2, 3, 1, 0] rfl (ih _ _ _ h)
  rw [X1_casksAt] at h
  refine ww_iconst C (0 : Int32) dX1_casksAt_0 (by decide) 1 rfl ?_
  refine ww_istore_n C [(2, .int (0 : Int32)), (0, .ref (ad b)), (1, .int a1)] dX1_casksAt_1 rfl (by decide) rfl 2 rfl ?_
  refine ww_iconst C (0 : Int32) dX1_casksAt_2 (by decide) 3 rfl ?_
  refine ww_istore_n C [(3, .int (0 : Int32)), (2, .int (0 : Int32)), (0, .ref (ad b)), (1, .int a1)] dX1_casksAt_3 rfl (by decide) rfl 4 rfl ?_
  exact ww_sub [2, 3, 1, 0] rfl (L4h N _ _ _ h)

set_option maxRecDepth 100000 in
set_option maxHeartbeats 4000000 in
theorem k_X1_caskRow {l : Launch} {D : va_G} {ad : Nat → Nat} {cA : Nat → ClassId} {tys : List (ClassId × FieldType)} {n : Nat} {sa : SA} (hn : 73 ≤ n) {N : Nat} {g : Mem} {b : Nat} (hb : isScene b) {a1 : Int32} {r : Nat} {g1 : Mem} (h : X1_caskRow N b a1 g = some (r, g1)) : CTq l yX1_caskRow (wsm yX1_caskRow cX1_caskRow 2 (some (.array .int))) 1 D YI ad cA tys n sa g [.ref (ad b), .int a1] r g1 := by
  refine ct_of RX1 rfl (by decide +kernel) (Nat.le_of_ble_eq_true rfl) rfl (fun sz => PBq D YI ad cA n r g1 sz) ?_
  intro p e R s m args below meth c C hr
  rw [X1_caskRow] at h
  refine ww_iload_n C 1 dX1_caskRow_0 rfl rfl 1 rfl ?_
  refine sw_1 h (fun e7 h => ?_) (fun n8 h => ?_)
  · refine ww_tin C (v := (0 : Int32)) e7 28 dX1_caskRow_1 (by decide) (by decide) rfl (by decide) ?_
    refine ww_aload_n C 0 dX1_caskRow_28 rfl rfl 29 rfl ?_
    refine ww_getS C cl_X1 (obScene hb hn) 1 (by decide) rfl (b + 2) (so_scene hb 1 2 (by decide) rfl) w_481 dX1_caskRow_29 32 rfl ?_
    exact ww_aret C dX1_caskRow_32 hr h
  refine sw_1 h (fun e9 h => ?_) (fun n10 h => ?_)
  · refine ww_tin C (v := (1 : Int32)) e9 33 dX1_caskRow_1 (by decide) (by decide) rfl (by decide) ?_
    refine ww_aload_n C 0 dX1_caskRow_33 rfl rfl 34 rfl ?_
    refine ww_getS C cl_X1 (obScene hb hn) 2 (by decide) rfl (b + 3) (so_scene hb 2 3 (by decide) rfl) w_483 dX1_caskRow_34 37 rfl ?_
    exact ww_aret C dX1_caskRow_37 hr h
  refine sw_1 h (fun e11 h => ?_) (fun n12 h => ?_)
  · refine ww_tin C (v := (2 : Int32)) e11 38 dX1_caskRow_1 (by decide) (by decide) rfl (by decide) ?_
    refine ww_aload_n C 0 dX1_caskRow_38 rfl rfl 39 rfl ?_
    refine ww_getS C cl_X1 (obScene hb hn) 3 (by decide) rfl (b + 4) (so_scene hb 3 4 (by decide) rfl) w_485 dX1_caskRow_39 42 rfl ?_
    exact ww_aret C dX1_caskRow_42 hr h
  refine ww_tout C 43 dX1_caskRow_1 (by have q0 := sw_ne (z := 0) n8 rfl; have q1 := sw_ne (z := 1) n10 rfl; have q2 := sw_ne (z := 2) n12 rfl; omega) (by decide) ?_
  refine ww_aload_n C 0 dX1_caskRow_43 rfl rfl 44 rfl ?_
  refine ww_getS C cl_X1 (obScene hb hn) 4 (by decide) rfl (b + 5) (so_scene hb 4 5 (by decide) rfl) w_487 dX1_caskRow_44 47 rfl ?_
  exact ww_aret C dX1_caskRow_47 hr h

set_option maxRecDepth 100000 in
set_option maxHeartbeats 4000000 in
theorem k_X1_comes {l : Launch} {D : va_G} {ad : Nat → Nat} {cA : Nat → ClassId} {tys : List (ClassId × FieldType)} {n : Nat} {sa : SA} (hn : 73 ≤ n) {N : Nat} {g : Mem} {b : Nat} (hb : isScene b) {a1 : Int32} {a2 : Int32} {a3 : Int32} {r : Int32} {g1 : Mem} (h : X1_comes N b a1 a2 a3 g = some (r, g1)) : CTi l yX1_comes (wsm yX1_comes cX1_comes 5 (some .int)) 1 D YI ad cA tys n sa g [.ref (ad b), .int a1, .int a2, .int a3] r g1 := by
  refine ct_of RX1 rfl (by decide +kernel) (Nat.le_of_ble_eq_true rfl) rfl (fun sz => PBi D YI ad cA n r g1 sz) ?_
  intro p e R s m args below meth c C hr
  rw [X1_comes] at h
  refine ww_aload_n C 0 dX1_comes_0 rfl rfl 1 rfl ?_
  refine ww_getI C cl_X1 (obScene hb hn) 9 (by decide) rfl w_498 dX1_comes_1 4 rfl ?_
  refine ww_bi h (fun v7 h => ?_)
  refine ww_istore C [(4, .int v7), (0, .ref (ad b)), (1, .int a1), (2, .int a2), (3, .int a3)] dX1_comes_4 (by decide) rfl 6 rfl ?_
  refine ww_iload C 0 dX1_comes_6 rfl 8 rfl ?_
  refine ww_bipush C (6 : Int32) dX1_comes_8 (by decide) 10 rfl ?_
  refine ww_icmp_lt C 16 dX1_comes_10 (by decide) h 13 rfl (fun h => ?_) (fun h => ?_)
  · refine ww_aload_n C 1 dX1_comes_16 rfl rfl 17 rfl ?_
    refine ww_getS C cl_X1 (obScene hb hn) 5 (by decide) rfl (b + 6) (so_scene hb 5 6 (by decide) rfl) w_489 dX1_comes_17 20 rfl ?_
    refine ww_iload C 0 dX1_comes_20 rfl 22 rfl ?_
    refine ww_iload_n C 2 dX1_comes_22 rfl rfl 23 rfl ?_
    refine ww_iast C (iaScene (q := b) hb hn 6 6 (by decide)) dX1_comes_23 h 24 rfl (fun u8 h => ?_)
    refine ww_aload_n C 1 dX1_comes_24 rfl rfl 25 rfl ?_
    refine ww_getS C cl_X1 (obScene hb hn) 6 (by decide) rfl (b + 7) (so_scene hb 6 7 (by decide) rfl) w_491 dX1_comes_25 28 rfl ?_
    refine ww_iload C 0 dX1_comes_28 rfl 30 rfl ?_
    refine ww_iload_n C 3 dX1_comes_30 rfl rfl 31 rfl ?_
    refine ww_iast C (iaScene (q := b) hb hn 7 6 (by decide)) dX1_comes_31 h 32 rfl (fun u9 h => ?_)
    refine ww_aload_n C 1 dX1_comes_32 rfl rfl 33 rfl ?_
    refine ww_getS C cl_X1 (obScene hb hn) 7 (by decide) rfl (b + 8) (so_scene hb 7 8 (by decide) rfl) w_493 dX1_comes_33 36 rfl ?_
    refine ww_iload C 0 dX1_comes_36 rfl 38 rfl ?_
    refine ww_iload_n C 4 dX1_comes_38 rfl rfl 39 rfl ?_
    refine ww_iast C (iaScene (q := b) hb hn 8 6 (by decide)) dX1_comes_39 h 40 rfl (fun u10 h => ?_)
    refine ww_aload_n C 1 dX1_comes_40 rfl rfl 41 rfl ?_
    refine ww_getS C cl_X1 (obScene hb hn) 8 (by decide) rfl (b + 9) (so_scene hb 8 9 (by decide) rfl) w_495 dX1_comes_41 44 rfl ?_
    refine ww_iload C 0 dX1_comes_44 rfl 46 rfl ?_
    refine ww_iconst C (0 : Int32) dX1_comes_46 (by decide) 47 rfl ?_
    refine ww_iast C (iaScene (q := b) hb hn 9 6 (by decide)) dX1_comes_47 h 48 rfl (fun u11 h => ?_)
    refine ww_aload_n C 1 dX1_comes_48 rfl rfl 49 rfl ?_
    refine ww_dup C dX1_comes_49 rfl 50 rfl ?_
    refine ww_getI C cl_X1 (obScene hb hn) 9 (by decide) rfl w_498 dX1_comes_50 53 rfl ?_
    refine ww_iconst C (1 : Int32) dX1_comes_53 (by decide) 54 rfl ?_
    refine ww_iadd C dX1_comes_54 55 rfl ?_
    refine ww_putI C cl_X1 (obScene hb hn) 9 (by decide) rfl tyX1 tyX1_ok nmX1 rfl rfl rfl w_498 dX1_comes_55 h 58 rfl (fun u12 h => ?_)
    refine ww_iload C 0 dX1_comes_58 rfl 60 rfl ?_
    exact ww_iret C dX1_comes_60 hr h
  · refine ww_bipush C (-4 : Int32) dX1_comes_13 (by decide) 15 rfl ?_
    exact ww_iret C dX1_comes_15 hr h

set_option maxRecDepth 100000 in
set_option maxHeartbeats 4000000 in
theorem k_X1_saidReach {l : Launch} {D : va_G} {ad : Nat → Nat} {cA : Nat → ClassId} {tys : List (ClassId × FieldType)} {n : Nat} {sa : SA} (hn : 73 ≤ n) {N : Nat} {g : Mem} {b : Nat} (hb : isScene b) {a1 : Int32} {a2 : Int32} {r : Int32} {g1 : Mem} (h : X1_saidReach N b a1 a2 g = some (r, g1)) : CTi l yX1_saidReach (wsm yX1_saidReach cX1_saidReach 3 (some .int)) 3 D YI ad cA tys n sa g [.ref (ad b), .int a1, .int a2] r g1 := by
  refine ct_of RX1 rfl (by decide +kernel) (Nat.le_of_ble_eq_true rfl) rfl (fun sz => PBi D YI ad cA n r g1 sz) ?_
  intro p e R s m args below meth c C hr
  rw [X1_saidReach] at h
  refine ww_aload_n C 0 dX1_saidReach_0 rfl rfl 1 rfl ?_
  refine ww_getM C cl_X1 (obScene hb hn) 11 (by decide) rfl w_501 dX1_saidReach_1 h 4 rfl (fun t4 ht4 h => ?_)
  refine ww_iconst C (0 : Int32) dX1_saidReach_4 (by decide) 5 rfl ?_
  refine ww_aload_n C 0 dX1_saidReach_5 rfl rfl 6 rfl ?_
  refine ww_getS C cl_X1 (obScene hb hn) 7 (by decide) rfl (b + 8) (so_scene hb 7 8 (by decide) rfl) w_493 dX1_saidReach_6 9 rfl ?_
  refine ww_iload_n C 1 dX1_saidReach_9 rfl rfl 10 rfl ?_
  refine ww_iald C (iaScene (q := b) hb hn 8 6 (by decide)) dX1_saidReach_10 h 11 rfl (fun h => ?_)
  refine ww_aload_n C 0 dX1_saidReach_11 rfl rfl 12 rfl ?_
  refine ww_getS C cl_X1 (obScene hb hn) 3 (by decide) rfl (b + 4) (so_scene hb 3 4 (by decide) rfl) w_485 dX1_saidReach_12 15 rfl ?_
  refine ww_iload_n C 2 dX1_saidReach_15 rfl rfl 16 rfl ?_
  refine ww_iald C (iaScene (q := b) hb hn 4 12 (by decide)) dX1_saidReach_16 h 17 rfl (fun h => ?_)
  refine ww_aload_n C 0 dX1_saidReach_17 rfl rfl 18 rfl ?_
  refine ww_getS C cl_X1 (obScene hb hn) 2 (by decide) rfl (b + 3) (so_scene hb 2 3 (by decide) rfl) w_483 dX1_saidReach_18 21 rfl ?_
  refine ww_iload_n C 2 dX1_saidReach_21 rfl rfl 22 rfl ?_
  refine ww_iald C (iaScene (q := b) hb hn 3 12 (by decide)) dX1_saidReach_22 h 23 rfl (fun h => ?_)
  refine ww_aload_n C 0 dX1_saidReach_23 rfl rfl 24 rfl ?_
  refine ww_getS C cl_X1 (obScene hb hn) 1 (by decide) rfl (b + 2) (so_scene hb 1 2 (by decide) rfl) w_481 dX1_saidReach_24 27 rfl ?_
  refine ww_iload_n C 2 dX1_saidReach_27 rfl rfl 28 rfl ?_
  refine ww_iald C (iaScene (q := b) hb hn 2 12 (by decide)) dX1_saidReach_28 h 29 rfl (fun h => ?_)
  refine ww_aload_n C 0 dX1_saidReach_29 rfl rfl 30 rfl ?_
  refine ww_getI C cl_X1 (obScene hb hn) 10 (by decide) rfl w_500 dX1_saidReach_30 33 rfl ?_
  refine ww_aload_n C 0 dX1_saidReach_33 rfl rfl 34 rfl ?_
  refine ww_getS C cl_X1 (obScene hb hn) 6 (by decide) rfl (b + 7) (so_scene hb 6 7 (by decide) rfl) w_491 dX1_saidReach_34 37 rfl ?_
  refine ww_iload_n C 1 dX1_saidReach_37 rfl rfl 38 rfl ?_
  refine ww_iald C (iaScene (q := b) hb hn 7 6 (by decide)) dX1_saidReach_38 h 39 rfl (fun h => ?_)
  refine ww_callVi C (As := [.int (0 : Int32), .int (g.1 (b + 8) (a1).toNatClampNeg), .int (g.1 (b + 4) (a2).toNatClampNeg), .int (g.1 (b + 3) (a2).toNatClampNeg), .int (g.1 (b + 2) (a2).toNatClampNeg), .int (g.1 b 10), .int (g.1 (b + 7) (a1).toNatClampNeg)]) (st := []) h cl_X4.1 (obText ht4 (Nat.le_trans (by decide) hn)) (fun _ _ hF => k_X4_says (Nat.le_trans (by decide) hn) ht4 hF) w_96 cm_X4_says (by decide) (by decide) rfl rfl (Nat.le_of_ble_eq_true rfl) dX1_saidReach_39 42 rfl (fun v6 u5 h => ?_)
  exact ww_iret C dX1_saidReach_42 hr h

set_option maxRecDepth 100000 in
set_option maxHeartbeats 4000000 in
theorem k_X1_reach {l : Launch} {D : va_G} {ad : Nat → Nat} {cA : Nat → ClassId} {tys : List (ClassId × FieldType)} {n : Nat} {sa : SA} (hn : 73 ≤ n) {N : Nat} {g : Mem} {b : Nat} (hb : isScene b) {a1 : Int32} {a2 : Int32} {r : Int32} {g1 : Mem} (h : X1_reach N b a1 a2 g = some (r, g1)) : CTi l yX1_reach (wsm yX1_reach cX1_reach 3 (some .int)) 4 D YI ad cA tys n sa g [.ref (ad b), .int a1, .int a2] r g1 := by
  refine ct_of RX1 rfl (by decide +kernel) (Nat.le_of_ble_eq_true rfl) rfl (fun sz => PBi D YI ad cA n r g1 sz) ?_
  intro p e R s m args below meth c C hr
  rw [X1_reach] at h
  refine ww_aload_n C 0 dX1_reach_0 rfl rfl 1 rfl ?_
  refine ww_getS C cl_X1 (obScene hb hn) 5 (by decide) rfl (b + 6) (so_scene hb 5 6 (by decide) rfl) w_489 dX1_reach_1 4 rfl ?_
  refine ww_iload_n C 1 dX1_reach_4 rfl rfl 5 rfl ?_
  refine ww_iald C (iaScene (q := b) hb hn 6 6 (by decide)) dX1_reach_5 h 6 rfl (fun h => ?_)
  refine ww_aload_n C 0 dX1_reach_6 rfl rfl 7 rfl ?_
  refine ww_iload_n C 1 dX1_reach_7 rfl rfl 8 rfl ?_
  refine ww_iload_n C 2 dX1_reach_8 rfl rfl 9 rfl ?_
  refine ww_callVi C (As := [.int a1, .int a2]) (st := [.int (g.1 (b + 6) (a1).toNatClampNeg)]) h cl_X1.1 (obScene hb hn) (fun _ _ hF => k_X1_saidReach hn hb hF) w_92 cm_X1_saidReach (by decide) (by decide) rfl rfl (Nat.le_of_ble_eq_true rfl) dX1_reach_9 12 rfl (fun v6 u5 h => ?_)
  refine ww_aload_n C 0 dX1_reach_12 rfl rfl 13 rfl ?_
  refine ww_getS C cl_X1 (obScene hb hn) 6 (by decide) rfl (b + 7) (so_scene hb 6 7 (by decide) rfl) w_491 dX1_reach_13 16 rfl ?_
  refine ww_iload_n C 1 dX1_reach_16 rfl rfl 17 rfl ?_
  refine ww_iald C (iaScene (q := b) hb hn 7 6 (by decide)) dX1_reach_17 h 18 rfl (fun h => ?_)
  refine ww_callSi C (As := [.int (g.1 (b + 6) (a1).toNatClampNeg), .int v6, .int (u5.1 (b + 7) (a1).toNatClampNeg)]) (st := []) h (fun _ _ hF => k_X0_reach hn hF) w_112 cm_X0_reach (by decide) (by decide) rfl rfl (Nat.le_of_ble_eq_true rfl) dX1_reach_18 21 rfl (fun v8 u7 h => ?_)
  exact ww_iret C dX1_reach_21 hr h

set_option maxRecDepth 100000 in
set_option maxHeartbeats 4000000 in
theorem k_X1_saidCost {l : Launch} {D : va_G} {ad : Nat → Nat} {cA : Nat → ClassId} {tys : List (ClassId × FieldType)} {n : Nat} {sa : SA} (hn : 73 ≤ n) {N : Nat} {g : Mem} {b : Nat} (hb : isScene b) {a1 : Int32} {a2 : Int32} {r : Int32} {g1 : Mem} (h : X1_saidCost N b a1 a2 g = some (r, g1)) : CTi l yX1_saidCost (wsm yX1_saidCost cX1_saidCost 3 (some .int)) 3 D YI ad cA tys n sa g [.ref (ad b), .int a1, .int a2] r g1 := by
  refine ct_of RX1 rfl (by decide +kernel) (Nat.le_of_ble_eq_true rfl) rfl (fun sz => PBi D YI ad cA n r g1 sz) ?_
  intro p e R s m args below meth c C hr
  rw [X1_saidCost] at h
  refine ww_aload_n C 0 dX1_saidCost_0 rfl rfl 1 rfl ?_
  refine ww_getM C cl_X1 (obScene hb hn) 11 (by decide) rfl w_501 dX1_saidCost_1 h 4 rfl (fun t4 ht4 h => ?_)
  refine ww_iconst C (1 : Int32) dX1_saidCost_4 (by decide) 5 rfl ?_
  refine ww_aload_n C 0 dX1_saidCost_5 rfl rfl 6 rfl ?_
  refine ww_getS C cl_X1 (obScene hb hn) 7 (by decide) rfl (b + 8) (so_scene hb 7 8 (by decide) rfl) w_493 dX1_saidCost_6 9 rfl ?_
  refine ww_iload_n C 1 dX1_saidCost_9 rfl rfl 10 rfl ?_
  refine ww_iald C (iaScene (q := b) hb hn 8 6 (by decide)) dX1_saidCost_10 h 11 rfl (fun h => ?_)
  refine ww_aload_n C 0 dX1_saidCost_11 rfl rfl 12 rfl ?_
  refine ww_getS C cl_X1 (obScene hb hn) 3 (by decide) rfl (b + 4) (so_scene hb 3 4 (by decide) rfl) w_485 dX1_saidCost_12 15 rfl ?_
  refine ww_iload_n C 2 dX1_saidCost_15 rfl rfl 16 rfl ?_
  refine ww_iald C (iaScene (q := b) hb hn 4 12 (by decide)) dX1_saidCost_16 h 17 rfl (fun h => ?_)
  refine ww_aload_n C 0 dX1_saidCost_17 rfl rfl 18 rfl ?_
  refine ww_getS C cl_X1 (obScene hb hn) 2 (by decide) rfl (b + 3) (so_scene hb 2 3 (by decide) rfl) w_483 dX1_saidCost_18 21 rfl ?_
  refine ww_iload_n C 2 dX1_saidCost_21 rfl rfl 22 rfl ?_
  refine ww_iald C (iaScene (q := b) hb hn 3 12 (by decide)) dX1_saidCost_22 h 23 rfl (fun h => ?_)
  refine ww_aload_n C 0 dX1_saidCost_23 rfl rfl 24 rfl ?_
  refine ww_getS C cl_X1 (obScene hb hn) 1 (by decide) rfl (b + 2) (so_scene hb 1 2 (by decide) rfl) w_481 dX1_saidCost_24 27 rfl ?_
  refine ww_iload_n C 2 dX1_saidCost_27 rfl rfl 28 rfl ?_
  refine ww_iald C (iaScene (q := b) hb hn 2 12 (by decide)) dX1_saidCost_28 h 29 rfl (fun h => ?_)
  refine ww_aload_n C 0 dX1_saidCost_29 rfl rfl 30 rfl ?_
  refine ww_getI C cl_X1 (obScene hb hn) 10 (by decide) rfl w_500 dX1_saidCost_30 33 rfl ?_
  refine ww_aload_n C 0 dX1_saidCost_33 rfl rfl 34 rfl ?_
  refine ww_getS C cl_X1 (obScene hb hn) 6 (by decide) rfl (b + 7) (so_scene hb 6 7 (by decide) rfl) w_491 dX1_saidCost_34 37 rfl ?_
  refine ww_iload_n C 1 dX1_saidCost_37 rfl rfl 38 rfl ?_
  refine ww_iald C (iaScene (q := b) hb hn 7 6 (by decide)) dX1_saidCost_38 h 39 rfl (fun h => ?_)
  refine ww_callVi C (As := [.int (1 : Int32), .int (g.1 (b + 8) (a1).toNatClampNeg), .int (g.1 (b + 4) (a2).toNatClampNeg), .int (g.1 (b + 3) (a2).toNatClampNeg), .int (g.1 (b + 2) (a2).toNatClampNeg), .int (g.1 b 10), .int (g.1 (b + 7) (a1).toNatClampNeg)]) (st := []) h cl_X4.1 (obText ht4 (Nat.le_trans (by decide) hn)) (fun _ _ hF => k_X4_says (Nat.le_trans (by decide) hn) ht4 hF) w_96 cm_X4_says (by decide) (by decide) rfl rfl (Nat.le_of_ble_eq_true rfl) dX1_saidCost_39 42 rfl (fun v6 u5 h => ?_)
  exact ww_iret C dX1_saidCost_42 hr h

set_option maxRecDepth 100000 in
set_option maxHeartbeats 4000000 in
theorem k_X1_cost {l : Launch} {D : va_G} {ad : Nat → Nat} {cA : Nat → ClassId} {tys : List (ClassId × FieldType)} {n : Nat} {sa : SA} (hn : 73 ≤ n) {N : Nat} {g : Mem} {b : Nat} (hb : isScene b) {a1 : Int32} {a2 : Int32} {r : Int32} {g1 : Mem} (h : X1_cost N b a1 a2 g = some (r, g1)) : CTi l yX1_cost (wsm yX1_cost cX1_cost 3 (some .int)) 4 D YI ad cA tys n sa g [.ref (ad b), .int a1, .int a2] r g1 := by
  refine ct_of RX1 rfl (by decide +kernel) (Nat.le_of_ble_eq_true rfl) rfl (fun sz => PBi D YI ad cA n r g1 sz) ?_
  intro p e R s m args below meth c C hr
  rw [X1_cost] at h
  refine ww_aload_n C 0 dX1_cost_0 rfl rfl 1 rfl ?_
  refine ww_getS C cl_X1 (obScene hb hn) 5 (by decide) rfl (b + 6) (so_scene hb 5 6 (by decide) rfl) w_489 dX1_cost_1 4 rfl ?_
  refine ww_iload_n C 1 dX1_cost_4 rfl rfl 5 rfl ?_
  refine ww_iald C (iaScene (q := b) hb hn 6 6 (by decide)) dX1_cost_5 h 6 rfl (fun h => ?_)
  refine ww_aload_n C 0 dX1_cost_6 rfl rfl 7 rfl ?_
  refine ww_iload_n C 1 dX1_cost_7 rfl rfl 8 rfl ?_
  refine ww_iload_n C 2 dX1_cost_8 rfl rfl 9 rfl ?_
  refine ww_callVi C (As := [.int a1, .int a2]) (st := [.int (g.1 (b + 6) (a1).toNatClampNeg)]) h cl_X1.1 (obScene hb hn) (fun _ _ hF => k_X1_saidCost hn hb hF) w_119 cm_X1_saidCost (by decide) (by decide) rfl rfl (Nat.le_of_ble_eq_true rfl) dX1_cost_9 12 rfl (fun v6 u5 h => ?_)
  refine ww_aload_n C 0 dX1_cost_12 rfl rfl 13 rfl ?_
  refine ww_getS C cl_X1 (obScene hb hn) 6 (by decide) rfl (b + 7) (so_scene hb 6 7 (by decide) rfl) w_491 dX1_cost_13 16 rfl ?_
  refine ww_iload_n C 1 dX1_cost_16 rfl rfl 17 rfl ?_
  refine ww_iald C (iaScene (q := b) hb hn 7 6 (by decide)) dX1_cost_17 h 18 rfl (fun h => ?_)
  refine ww_aload_n C 0 dX1_cost_18 rfl rfl 19 rfl ?_
  refine ww_getS C cl_X1 (obScene hb hn) 1 (by decide) rfl (b + 2) (so_scene hb 1 2 (by decide) rfl) w_481 dX1_cost_19 22 rfl ?_
  refine ww_iload_n C 2 dX1_cost_22 rfl rfl 23 rfl ?_
  refine ww_iald C (iaScene (q := b) hb hn 2 12 (by decide)) dX1_cost_23 h 24 rfl (fun h => ?_)
  refine ww_aload_n C 0 dX1_cost_24 rfl rfl 25 rfl ?_
  refine ww_getI C cl_X1 (obScene hb hn) 10 (by decide) rfl w_500 dX1_cost_25 28 rfl ?_
  refine ww_callSi C (As := [.int (g.1 (b + 6) (a1).toNatClampNeg), .int v6, .int (u5.1 (b + 7) (a1).toNatClampNeg), .int (u5.1 (b + 2) (a2).toNatClampNeg), .int (u5.1 b 10)]) (st := []) h (fun _ _ hF => k_X0_cost hn hF) w_123 cm_X0_cost (by decide) (by decide) rfl rfl (Nat.le_of_ble_eq_true rfl) dX1_cost_28 31 rfl (fun v8 u7 h => ?_)
  exact ww_iret C dX1_cost_31 hr h

set_option maxRecDepth 100000 in
set_option maxHeartbeats 4000000 in
theorem k_X1_can {l : Launch} {D : va_G} {ad : Nat → Nat} {cA : Nat → ClassId} {tys : List (ClassId × FieldType)} {n : Nat} {sa : SA} (hn : 73 ≤ n) {N : Nat} {g : Mem} {b : Nat} (hb : isScene b) {a1 : Int32} {a2 : Int32} {r : Int32} {g1 : Mem} (h : X1_can N b a1 a2 g = some (r, g1)) : CTi l yX1_can (wsm yX1_can cX1_can 3 (some .boolean)) 5 D YI ad cA tys n sa g [.ref (ad b), .int a1, .int a2] r g1 := by
  refine ct_of RX1 rfl (by decide +kernel) (Nat.le_of_ble_eq_true rfl) rfl (fun sz => PBi D YI ad cA n r g1 sz) ?_
  intro p e R s m args below meth c C hr
  rw [X1_can] at h
  refine ww_aload_n C 0 dX1_can_0 rfl rfl 1 rfl ?_
  refine ww_getS C cl_X1 (obScene hb hn) 4 (by decide) rfl (b + 5) (so_scene hb 4 5 (by decide) rfl) w_487 dX1_can_1 4 rfl ?_
  refine ww_iload_n C 2 dX1_can_4 rfl rfl 5 rfl ?_
  refine ww_iald C (iaScene (q := b) hb hn 5 12 (by decide)) dX1_can_5 h 6 rfl (fun h => ?_)
  refine ww_if_ne C 43 dX1_can_6 (by decide) h 9 rfl (fun h => ?_) (fun h => ?_)
  · refine ww_iconst C (0 : Int32) dX1_can_43 (by decide) 44 rfl ?_
    exact ww_zret C dX1_can_44 hr rfl h
  · refine ww_aload_n C 0 dX1_can_9 rfl rfl 10 rfl ?_
    refine ww_iload_n C 1 dX1_can_10 rfl rfl 11 rfl ?_
    refine ww_iload_n C 2 dX1_can_11 rfl rfl 12 rfl ?_
    refine ww_callVi C (As := [.int a1, .int a2]) (st := []) h cl_X1.1 (obScene hb hn) (fun _ _ hF => k_X1_reach hn hb hF) w_88 cm_X1_reach (by decide) (by decide) rfl rfl (Nat.le_of_ble_eq_true rfl) dX1_can_12 15 rfl (fun v6 u5 h => ?_)
    refine ww_aload_n C 0 dX1_can_15 rfl rfl 16 rfl ?_
    refine ww_getS C cl_X1 (obScene hb hn) 3 (by decide) rfl (b + 4) (so_scene hb 3 4 (by decide) rfl) w_485 dX1_can_16 19 rfl ?_
    refine ww_iload_n C 2 dX1_can_19 rfl rfl 20 rfl ?_
    refine ww_iald C (iaScene (q := b) hb hn 4 12 (by decide)) dX1_can_20 h 21 rfl (fun h => ?_)
    refine ww_icmp_lt C 43 dX1_can_21 (by decide) h 24 rfl (fun h => ?_) (fun h => ?_)
    · refine ww_iconst C (0 : Int32) dX1_can_43 (by decide) 44 rfl ?_
      exact ww_zret C dX1_can_44 hr rfl h
    · refine ww_aload_n C 0 dX1_can_24 rfl rfl 25 rfl ?_
      refine ww_iload_n C 1 dX1_can_25 rfl rfl 26 rfl ?_
      refine ww_iload_n C 2 dX1_can_26 rfl rfl 27 rfl ?_
      refine ww_callVi C (As := [.int a1, .int a2]) (st := []) h cl_X1.1 (obScene hb hn) (fun _ _ hF => k_X1_cost hn hb hF) w_115 cm_X1_cost (by decide) (by decide) rfl rfl (Nat.le_of_ble_eq_true rfl) dX1_can_27 30 rfl (fun v8 u7 h => ?_)
      refine ww_aload_n C 0 dX1_can_30 rfl rfl 31 rfl ?_
      refine ww_getS C cl_X1 (obScene hb hn) 7 (by decide) rfl (b + 8) (so_scene hb 7 8 (by decide) rfl) w_493 dX1_can_31 34 rfl ?_
      refine ww_iload_n C 1 dX1_can_34 rfl rfl 35 rfl ?_
      refine ww_iald C (iaScene (q := b) hb hn 8 6 (by decide)) dX1_can_35 h 36 rfl (fun h => ?_)
      refine ww_icmp_gt C 43 dX1_can_36 (by decide) h 39 rfl (fun h => ?_) (fun h => ?_)
      · refine ww_iconst C (0 : Int32) dX1_can_43 (by decide) 44 rfl ?_
        exact ww_zret C dX1_can_44 hr rfl h
      · refine ww_iconst C (1 : Int32) dX1_can_39 (by decide) 40 rfl ?_
        refine ww_goto C 44 dX1_can_40 (by decide) ?_
        exact ww_zret C dX1_can_44 hr rfl h

set_option maxRecDepth 100000 in
set_option maxHeartbeats 4000000 in
theorem k_X1_casksFor {l : Launch} {D : va_G} {ad : Nat → Nat} {cA : Nat → ClassId} {tys : List (ClassId × FieldType)} {n : Nat} {sa : SA} (hn : 73 ≤ n) {N : Nat} {g : Mem} {b : Nat} (hb : isScene b) {a1 : Int32} {r : Int32} {g1 : Mem} (h : X1_casksFor N b a1 g = some (r, g1)) : CTi l yX1_casksFor (wsm yX1_casksFor cX1_casksFor 4 (some .int)) 6 D YI ad cA tys n sa g [.ref (ad b), .int a1] r g1 := by
  refine ct_of RX1 rfl (by decide +kernel) (Nat.le_of_ble_eq_true rfl) rfl (fun sz => PBi D YI ad cA n r g1 sz) ?_
  intro p e R s m args below meth c C hr
  have L4h : ∀ (fu : Nat), (∀ (x2 : Int32) (x3 : Int32) (g : Mem), X1_casksFor_L4 N b a1 fu x2 x3 g = some (r, g1) → WW p l e R s m args below meth c 4 D YI ad cA n (MQ below (PBi D YI ad cA n r g1 s.heap.size) args s 0 0 (AA n ad s.heap.size)) g 4 [(0, .ref (ad b)), (1, .int a1), (2, .int x2), (3, .int x3)] []) := by
    intro fu
    induction fu with
    | zero => intro x2 x3 g h; cases h
    | succ fu ih =>
      intro x2 x3 g h
      rw [X1_casksFor_L4] at h
      refine ww_iload_n C 3 dX1_casksFor_4 rfl rfl 5 rfl ?_
      refine ww_bipush C (12 : Int32) dX1_casksFor_5 (by decide) 7 rfl ?_
      refine ww_icmp_ge C 31 dX1_casksFor_7 (by decide) h 10 rfl (fun h => ?_) (fun h => ?_)
      · refine ww_iload_n C 2 dX1_casksFor_31 rfl rfl 32 rfl ?_
        exact ww_iret C dX1_casksFor_32 hr h
      · refine ww_aload_n C 0 dX1_casksFor_10 rfl rfl 11 rfl ?_
        refine ww_iload_n C 1 dX1_casksFor_11 rfl rfl 12 rfl ?_
        refine ww_iload_n C 3 dX1_casksFor_12 rfl rfl 13 rfl ?_
        refine ww_callVi C (As := [.int a1, .int x3]) (st := []) h cl_X1.1 (obScene hb hn) (fun _ _ hF => k_X1_can hn hb hF) w_84 cm_X1_can (by decide) (by decide) rfl rfl (Nat.le_of_ble_eq_true rfl) dX1_casksFor_13 16 rfl (fun v7 u6 h => ?_)
        refine ww_if_eq C 25 dX1_casksFor_16 (by decide) h 19 rfl (fun h => ?_) (fun h => ?_)
        · refine ww_iinc C 3 (1 : Int32) (by decide) (fun v8 => [(3, .int v8), (0, .ref (ad b)), (1, .int a1), (2, .int x2)]) dX1_casksFor_25 rfl (by decide) (fun _ => rfl) h 28 rfl (fun v8 h => ?_)
          refine ww_goto C 4 dX1_casksFor_28 (by decide) ?_
          exact ww_sub [1, 2, 3, 0] rfl (ih _ _ _ h)
        · refine ww_iload_n C 2 dX1_casksFor_19 rfl rfl 20 rfl ?_
          refine ww_iconst C (1 : Int32) dX1_casksFor_20 (by decide) 21 rfl ?_
          refine ww_iload_n C 3 dX1_casksFor_21 rfl rfl 22 rfl ?_
          refine ww_ishl C dX1_casksFor_22 23 rfl ?_
          refine ww_ior C dX1_casksFor_23 24 rfl ?_
          refine ww_bi h (fun v9 h => ?_)
          refine ww_istore_n C [(2, .int v9), (0, .ref (ad b)), (1, .int a1), (3, .int x3)] dX1_casksFor_24 rfl (by decide) rfl 25 rfl ?_
          refine ww_iinc C 3 (1 : Int32) (by decide) (fun v10 => [(3, .int v10), (2, .int v9), (0, .ref (ad b)), (1, .int a1)]) dX1_casksFor_25 rfl (by decide) (fun _ => rfl) h 28 rfl (fun v10 h => ?_)
          refine ww_goto C 4 dX1_casksFor_28 (by decide) ?_
          exact ww_sub [2, 3, 1, 0] rfl (ih _ _ _ h)
  rw [X1_casksFor] at h
  refine ww_iconst C (0 : Int32) dX1_casksFor_0 (by decide) 1 rfl ?_
  refine ww_istore_n C [(2, .int (0 : Int32)), (0, .ref (ad b)), (1, .int a1)] dX1_casksFor_1 rfl (by decide) rfl 2 rfl ?_
  refine ww_iconst C (0 : Int32) dX1_casksFor_2 (by decide) 3 rfl ?_
  refine ww_istore_n C [(3, .int (0 : Int32)), (2, .int (0 : Int32)), (0, .ref (ad b)), (1, .int a1)] dX1_casksFor_3 rfl (by decide) rfl 4 rfl ?_
  exact ww_sub [2, 3, 1, 0] rfl (L4h N _ _ _ h)

set_option maxRecDepth 100000 in
set_option maxHeartbeats 4000000 in
theorem k_X1_bringUp {l : Launch} {D : va_G} {ad : Nat → Nat} {cA : Nat → ClassId} {tys : List (ClassId × FieldType)} {n : Nat} {sa : SA} (hn : 73 ≤ n) {N : Nat} {g : Mem} {b : Nat} (hb : isScene b) {a1 : Int32} {a2 : Int32} {r : Int32} {g1 : Mem} (h : X1_bringUp N b a1 a2 g = some (r, g1)) : CTv l yX1_bringUp (wsm yX1_bringUp cX1_bringUp 3 none) 5 D YI ad cA tys n sa g [.ref (ad b), .int a1, .int a2] g1 := by
  refine ct_of RX1 rfl (by decide +kernel) (Nat.le_of_ble_eq_true rfl) rfl (fun sz => PBv D YI ad cA n g1 sz) ?_
  intro p e R s m args below meth c C hr
  rw [X1_bringUp] at h
  refine ww_aload_n C 0 dX1_bringUp_0 rfl rfl 1 rfl ?_
  refine ww_getS C cl_X1 (obScene hb hn) 7 (by decide) rfl (b + 8) (so_scene hb 7 8 (by decide) rfl) w_493 dX1_bringUp_1 4 rfl ?_
  refine ww_iload_n C 1 dX1_bringUp_4 rfl rfl 5 rfl ?_
  refine ww_dup2 C dX1_bringUp_5 rfl rfl 6 rfl ?_
  refine ww_iald C (iaScene (q := b) hb hn 8 6 (by decide)) dX1_bringUp_6 h 7 rfl (fun h => ?_)
  refine ww_aload_n C 0 dX1_bringUp_7 rfl rfl 8 rfl ?_
  refine ww_iload_n C 1 dX1_bringUp_8 rfl rfl 9 rfl ?_
  refine ww_iload_n C 2 dX1_bringUp_9 rfl rfl 10 rfl ?_
  refine ww_callVi C (As := [.int a1, .int a2]) (st := [.int (g.1 (b + 8) (a1).toNatClampNeg), .int a1, .ref (ad (b + 8))]) h cl_X1.1 (obScene hb hn) (fun _ _ hF => k_X1_cost hn hb hF) w_115 cm_X1_cost (by decide) (by decide) rfl rfl (Nat.le_of_ble_eq_true rfl) dX1_bringUp_10 13 rfl (fun v7 u6 h => ?_)
  refine ww_isub C dX1_bringUp_13 14 rfl ?_
  refine ww_iast C (iaScene (q := b) hb hn 8 6 (by decide)) dX1_bringUp_14 h 15 rfl (fun u8 h => ?_)
  refine ww_aload_n C 0 dX1_bringUp_15 rfl rfl 16 rfl ?_
  refine ww_getS C cl_X1 (obScene hb hn) 4 (by decide) rfl (b + 5) (so_scene hb 4 5 (by decide) rfl) w_487 dX1_bringUp_16 19 rfl ?_
  refine ww_iload_n C 2 dX1_bringUp_19 rfl rfl 20 rfl ?_
  refine ww_iconst C (1 : Int32) dX1_bringUp_20 (by decide) 21 rfl ?_
  refine ww_iast C (iaScene (q := b) hb hn 5 12 (by decide)) dX1_bringUp_21 h 22 rfl (fun u9 h => ?_)
  refine ww_aload_n C 0 dX1_bringUp_22 rfl rfl 23 rfl ?_
  refine ww_getS C cl_X1 (obScene hb hn) 8 (by decide) rfl (b + 9) (so_scene hb 8 9 (by decide) rfl) w_495 dX1_bringUp_23 26 rfl ?_
  refine ww_iload_n C 1 dX1_bringUp_26 rfl rfl 27 rfl ?_
  refine ww_dup2 C dX1_bringUp_27 rfl rfl 28 rfl ?_
  refine ww_iald C (iaScene (q := b) hb hn 9 6 (by decide)) dX1_bringUp_28 h 29 rfl (fun h => ?_)
  refine ww_iconst C (1 : Int32) dX1_bringUp_29 (by decide) 30 rfl ?_
  refine ww_iadd C dX1_bringUp_30 31 rfl ?_
  refine ww_iast C (iaScene (q := b) hb hn 9 6 (by decide)) dX1_bringUp_31 h 32 rfl (fun u10 h => ?_)
  exact ww_vret C dX1_bringUp_32 hr h

set_option maxRecDepth 100000 in
set_option maxHeartbeats 4000000 in
theorem k_X1_blowUp {l : Launch} {D : va_G} {ad : Nat → Nat} {cA : Nat → ClassId} {tys : List (ClassId × FieldType)} {n : Nat} {sa : SA} (hn : 73 ≤ n) {N : Nat} {g : Mem} {b : Nat} (hb : isScene b) {a1 : Int32} {a2 : Int32} {r : Int32} {g1 : Mem} (h : X1_blowUp N b a1 a2 g = some (r, g1)) : CTv l yX1_blowUp (wsm yX1_blowUp cX1_blowUp 3 none) 2 D YI ad cA tys n sa g [.ref (ad b), .int a1, .int a2] g1 := by
  refine ct_of RX1 rfl (by decide +kernel) (Nat.le_of_ble_eq_true rfl) rfl (fun sz => PBv D YI ad cA n g1 sz) ?_
  intro p e R s m args below meth c C hr
  rw [X1_blowUp] at h
  refine ww_aload_n C 0 dX1_blowUp_0 rfl rfl 1 rfl ?_
  refine ww_getS C cl_X1 (obScene hb hn) 0 (by decide) rfl (b + 1) (so_scene hb 0 1 (by decide) rfl) w_479 dX1_blowUp_1 4 rfl ?_
  refine ww_iload_n C 1 dX1_blowUp_4 rfl rfl 5 rfl ?_
  refine ww_bipush C (99 : Int32) dX1_blowUp_5 (by decide) 7 rfl ?_
  refine ww_aload_n C 0 dX1_blowUp_7 rfl rfl 8 rfl ?_
  refine ww_getS C cl_X1 (obScene hb hn) 0 (by decide) rfl (b + 1) (so_scene hb 0 1 (by decide) rfl) w_479 dX1_blowUp_8 11 rfl ?_
  refine ww_iload_n C 1 dX1_blowUp_11 rfl rfl 12 rfl ?_
  refine ww_iald C (iaScene (q := b) hb hn 1 6 (by decide)) dX1_blowUp_12 h 13 rfl (fun h => ?_)
  refine ww_iload_n C 2 dX1_blowUp_13 rfl rfl 14 rfl ?_
  refine ww_iadd C dX1_blowUp_14 15 rfl ?_
  refine ww_min C w_156 wm_min (by decide) (Nat.le_of_ble_eq_true rfl) dX1_blowUp_15 18 rfl ?_
  refine ww_iast C (iaScene (q := b) hb hn 1 6 (by decide)) dX1_blowUp_18 h 19 rfl (fun u2 h => ?_)
  exact ww_vret C dX1_blowUp_19 hr h

set_option maxRecDepth 100000 in
set_option maxHeartbeats 4000000 in
theorem k_X1_letLoose {l : Launch} {D : va_G} {ad : Nat → Nat} {cA : Nat → ClassId} {tys : List (ClassId × FieldType)} {n : Nat} {sa : SA} (hn : 73 ≤ n) {N : Nat} {g : Mem} {b : Nat} (hb : isScene b) {a1 : Int32} {r : Int32} {g1 : Mem} (h : X1_letLoose N b a1 g = some (r, g1)) : CTv l yX1_letLoose (wsm yX1_letLoose cX1_letLoose 2 none) 3 D YI ad cA tys n sa g [.ref (ad b), .int a1] g1 := by
  refine ct_of RX1 rfl (by decide +kernel) (Nat.le_of_ble_eq_true rfl) rfl (fun sz => PBv D YI ad cA n g1 sz) ?_
  intro p e R s m args below meth c C hr
  rw [X1_letLoose] at h
  refine ww_aload_n C 0 dX1_letLoose_0 rfl rfl 1 rfl ?_
  refine ww_aload_n C 0 dX1_letLoose_1 rfl rfl 2 rfl ?_
  refine ww_getS C cl_X1 (obScene hb hn) 1 (by decide) rfl (b + 2) (so_scene hb 1 2 (by decide) rfl) w_481 dX1_letLoose_2 5 rfl ?_
  refine ww_iload_n C 1 dX1_letLoose_5 rfl rfl 6 rfl ?_
  refine ww_iald C (iaScene (q := b) hb hn 2 12 (by decide)) dX1_letLoose_6 h 7 rfl (fun h => ?_)
  refine ww_aload_n C 0 dX1_letLoose_7 rfl rfl 8 rfl ?_
  refine ww_getS C cl_X1 (obScene hb hn) 2 (by decide) rfl (b + 3) (so_scene hb 2 3 (by decide) rfl) w_483 dX1_letLoose_8 11 rfl ?_
  refine ww_iload_n C 1 dX1_letLoose_11 rfl rfl 12 rfl ?_
  refine ww_iald C (iaScene (q := b) hb hn 3 12 (by decide)) dX1_letLoose_12 h 13 rfl (fun h => ?_)
  refine ww_callVv C (As := [.int (g.1 (b + 2) (a1).toNatClampNeg), .int (g.1 (b + 3) (a1).toNatClampNeg)]) (st := []) h cl_X1.1 (obScene hb hn) (fun _ _ hF => k_X1_blowUp hn hb hF) w_152 cm_X1_blowUp (by decide) (by decide) rfl rfl (Nat.le_of_ble_eq_true rfl) dX1_letLoose_13 16 rfl (fun _ u4 h => ?_)
  refine ww_aload_n C 0 dX1_letLoose_16 rfl rfl 17 rfl ?_
  refine ww_getS C cl_X1 (obScene hb hn) 4 (by decide) rfl (b + 5) (so_scene hb 4 5 (by decide) rfl) w_487 dX1_letLoose_17 20 rfl ?_
  refine ww_iload_n C 1 dX1_letLoose_20 rfl rfl 21 rfl ?_
  refine ww_iconst C (2 : Int32) dX1_letLoose_21 (by decide) 22 rfl ?_
  refine ww_iast C (iaScene (q := b) hb hn 5 12 (by decide)) dX1_letLoose_22 h 23 rfl (fun u6 h => ?_)
  exact ww_vret C dX1_letLoose_23 hr h

set_option maxRecDepth 100000 in
set_option maxHeartbeats 4000000 in
theorem k_X1_fading {l : Launch} {D : va_G} {ad : Nat → Nat} {cA : Nat → ClassId} {tys : List (ClassId × FieldType)} {n : Nat} {sa : SA} (hn : 73 ≤ n) {N : Nat} {g : Mem} {b : Nat} (hb : isScene b) {a1 : Int32} {a2 : Int32} {a3 : Int32} {r : Int32} {g1 : Mem} (h : X1_fading N b a1 a2 a3 g = some (r, g1)) : CTi l yX1_fading (wsm yX1_fading cX1_fading 4 (some .int)) 3 D YI ad cA tys n sa g [.ref (ad b), .int a1, .int a2, .int a3] r g1 := by
  refine ct_of RX1 rfl (by decide +kernel) (Nat.le_of_ble_eq_true rfl) rfl (fun sz => PBi D YI ad cA n r g1 sz) ?_
  intro p e R s m args below meth c C hr
  rw [X1_fading] at h
  refine ww_aload_n C 0 dX1_fading_0 rfl rfl 1 rfl ?_
  refine ww_getM C cl_X1 (obScene hb hn) 11 (by decide) rfl w_501 dX1_fading_1 h 4 rfl (fun t4 ht4 h => ?_)
  refine ww_iconst C (2 : Int32) dX1_fading_4 (by decide) 5 rfl ?_
  refine ww_iconst C (0 : Int32) dX1_fading_5 (by decide) 6 rfl ?_
  refine ww_iconst C (0 : Int32) dX1_fading_6 (by decide) 7 rfl ?_
  refine ww_iload_n C 2 dX1_fading_7 rfl rfl 8 rfl ?_
  refine ww_iload_n C 1 dX1_fading_8 rfl rfl 9 rfl ?_
  refine ww_iload_n C 3 dX1_fading_9 rfl rfl 10 rfl ?_
  refine ww_iconst C (0 : Int32) dX1_fading_10 (by decide) 11 rfl ?_
  refine ww_callVi C (As := [.int (2 : Int32), .int (0 : Int32), .int (0 : Int32), .int a2, .int a1, .int a3, .int (0 : Int32)]) (st := []) h cl_X4.1 (obText ht4 (Nat.le_trans (by decide) hn)) (fun _ _ hF => k_X4_says (Nat.le_trans (by decide) hn) ht4 hF) w_96 cm_X4_says (by decide) (by decide) rfl rfl (Nat.le_of_ble_eq_true rfl) dX1_fading_11 14 rfl (fun v6 u5 h => ?_)
  exact ww_iret C dX1_fading_14 hr h

set_option maxRecDepth 100000 in
set_option maxHeartbeats 4000000 in
theorem k_X1_faded {l : Launch} {D : va_G} {ad : Nat → Nat} {cA : Nat → ClassId} {tys : List (ClassId × FieldType)} {n : Nat} {sa : SA} (hn : 73 ≤ n) {N : Nat} {g : Mem} {b : Nat} (hb : isScene b) {a1 : Int32} {a2 : Int32} {a3 : Int32} {r : Int32} {g1 : Mem} (h : X1_faded N b a1 a2 a3 g = some (r, g1)) : CTi l yX1_faded (wsm yX1_faded cX1_faded 4 (some .int)) 4 D YI ad cA tys n sa g [.ref (ad b), .int a1, .int a2, .int a3] r g1 := by
  refine ct_of RX1 rfl (by decide +kernel) (Nat.le_of_ble_eq_true rfl) rfl (fun sz => PBi D YI ad cA n r g1 sz) ?_
  intro p e R s m args below meth c C hr
  rw [X1_faded] at h
  refine ww_iconst C (0 : Int32) dX1_faded_0 (by decide) 1 rfl ?_
  refine ww_iload_n C 2 dX1_faded_1 rfl rfl 2 rfl ?_
  refine ww_aload_n C 0 dX1_faded_2 rfl rfl 3 rfl ?_
  refine ww_iload_n C 1 dX1_faded_3 rfl rfl 4 rfl ?_
  refine ww_iload_n C 2 dX1_faded_4 rfl rfl 5 rfl ?_
  refine ww_iload_n C 3 dX1_faded_5 rfl rfl 6 rfl ?_
  refine ww_callVi C (As := [.int a1, .int a2, .int a3]) (st := [.int a2, .int (0 : Int32)]) h cl_X1.1 (obScene hb hn) (fun _ _ hF => k_X1_fading hn hb hF) w_169 cm_X1_fading (by decide) (by decide) rfl rfl (Nat.le_of_ble_eq_true rfl) dX1_faded_6 9 rfl (fun v4 u3 h => ?_)
  refine ww_isub C dX1_faded_9 10 rfl ?_
  refine ww_max C w_173 wm_max (by decide) (Nat.le_of_ble_eq_true rfl) dX1_faded_10 13 rfl ?_
  exact ww_iret C dX1_faded_13 hr h

set_option maxRecDepth 100000 in
set_option maxHeartbeats 4000000 in
theorem k_X1_passHours {l : Launch} {D : va_G} {ad : Nat → Nat} {cA : Nat → ClassId} {tys : List (ClassId × FieldType)} {n : Nat} {sa : SA} (hn : 73 ≤ n) {N : Nat} {g : Mem} {b : Nat} (hb : isScene b) {a1 : Int32} {r : Int32} {g1 : Mem} (h : X1_passHours N b a1 g = some (r, g1)) : CTv l yX1_passHours (wsm yX1_passHours cX1_passHours 4 none) 5 D YI ad cA tys n sa g [.ref (ad b), .int a1] g1 := by
  refine ct_of RX1 rfl (by decide +kernel) (Nat.le_of_ble_eq_true rfl) rfl (fun sz => PBv D YI ad cA n g1 sz) ?_
  intro p e R s m args below meth c C hr
  have G2h : ∀ (fu : Nat), (∀ (x2 : Int32) (x3 : Int32) (g : Mem), X1_passHours_G2 N b a1 fu 0 x2 x3 g = some (r, g1) → WW p l e R s m args below meth c 4 D YI ad cA n (MQ below (PBv D YI ad cA n g1 s.heap.size) args s 0 0 (AA n ad s.heap.size)) g 2 [(0, .ref (ad b)), (1, .int a1), (2, .int x2)] []) ∧ (∀ (x2 : Int32) (x3 : Int32) (g : Mem), X1_passHours_G2 N b a1 fu 1 x2 x3 g = some (r, g1) → WW p l e R s m args below meth c 4 D YI ad cA n (MQ below (PBv D YI ad cA n g1 s.heap.size) args s 0 0 (AA n ad s.heap.size)) g 9 [(0, .ref (ad b)), (1, .int a1), (2, .int x2), (3, .int x3)] []) ∧ (∀ (x2 : Int32) (x3 : Int32) (g : Mem), X1_passHours_G2 N b a1 fu 2 x2 x3 g = some (r, g1) → WW p l e R s m args below meth c 4 D YI ad cA n (MQ below (PBv D YI ad cA n g1 s.heap.size) args s 0 0 (AA n ad s.heap.size)) g 44 [(0, .ref (ad b)), (1, .int a1), (2, .int x2), (3, .int x3)] []) := by
    intro fu
    induction fu with
    | zero => exact ⟨(by intro x2 x3 g h; cases h), (by intro x2 x3 g h; cases h), (by intro x2 x3 g h; cases h)⟩
    | succ fu ih =>
      refine ⟨?_, ?_, ?_⟩
      · intro x2 x3 g h
        rw [X1_passHours_G2] at h
        refine ww_iload_n C 2 dX1_passHours_2 rfl rfl 3 rfl ?_
        refine ww_iload_n C 1 dX1_passHours_3 rfl rfl 4 rfl ?_
        refine ww_icmp_ge C 113 dX1_passHours_4 (by decide) h 7 rfl (fun h => ?_) (fun h => ?_)
        · exact ww_vret C dX1_passHours_113 hr h
        · refine ww_iconst C (0 : Int32) dX1_passHours_7 (by decide) 8 rfl ?_
          refine ww_istore_n C [(3, .int (0 : Int32)), (0, .ref (ad b)), (1, .int a1), (2, .int x2)] dX1_passHours_8 rfl (by decide) rfl 9 rfl ?_
          exact ww_sub [1, 2, 3, 0] rfl ((ih).2.1 _ _ _ h)
      · intro x2 x3 g h
        rw [X1_passHours_G2] at h
        refine ww_iload_n C 3 dX1_passHours_9 rfl rfl 10 rfl ?_
        refine ww_bipush C (6 : Int32) dX1_passHours_10 (by decide) 12 rfl ?_
        refine ww_icmp_ge C 42 dX1_passHours_12 (by decide) h 15 rfl (fun h => ?_) (fun h => ?_)
        · refine ww_iconst C (0 : Int32) dX1_passHours_42 (by decide) 43 rfl ?_
          refine ww_istore_n C [(3, .int (0 : Int32)), (0, .ref (ad b)), (1, .int a1), (2, .int x2)] dX1_passHours_43 rfl (by decide) rfl 44 rfl ?_
          exact ww_sub [1, 2, 3, 0] rfl ((ih).2.2 _ _ _ h)
        · refine ww_aload_n C 0 dX1_passHours_15 rfl rfl 16 rfl ?_
          refine ww_getS C cl_X1 (obScene hb hn) 0 (by decide) rfl (b + 1) (so_scene hb 0 1 (by decide) rfl) w_479 dX1_passHours_16 19 rfl ?_
          refine ww_iload_n C 3 dX1_passHours_19 rfl rfl 20 rfl ?_
          refine ww_aload_n C 0 dX1_passHours_20 rfl rfl 21 rfl ?_
          refine ww_iload_n C 3 dX1_passHours_21 rfl rfl 22 rfl ?_
          refine ww_aload_n C 0 dX1_passHours_22 rfl rfl 23 rfl ?_
          refine ww_getS C cl_X1 (obScene hb hn) 0 (by decide) rfl (b + 1) (so_scene hb 0 1 (by decide) rfl) w_479 dX1_passHours_23 26 rfl ?_
          refine ww_iload_n C 3 dX1_passHours_26 rfl rfl 27 rfl ?_
          refine ww_iald C (iaScene (q := b) hb hn 1 6 (by decide)) dX1_passHours_27 h 28 rfl (fun h => ?_)
          refine ww_aload_n C 0 dX1_passHours_28 rfl rfl 29 rfl ?_
          refine ww_getI C cl_X1 (obScene hb hn) 10 (by decide) rfl w_500 dX1_passHours_29 32 rfl ?_
          refine ww_callVi C (As := [.int x3, .int (g.1 (b + 1) (x3).toNatClampNeg), .int (g.1 b 10)]) (st := [.int x3, .ref (ad (b + 1))]) h cl_X1.1 (obScene hb hn) (fun _ _ hF => k_X1_faded hn hb hF) w_165 cm_X1_faded (by decide) (by decide) rfl rfl (Nat.le_of_ble_eq_true rfl) dX1_passHours_32 35 rfl (fun v14 u13 h => ?_)
          refine ww_iast C (iaScene (q := b) hb hn 1 6 (by decide)) dX1_passHours_35 h 36 rfl (fun u15 h => ?_)
          refine ww_iinc C 3 (1 : Int32) (by decide) (fun v16 => [(3, .int v16), (0, .ref (ad b)), (1, .int a1), (2, .int x2)]) dX1_passHours_36 rfl (by decide) (fun _ => rfl) h 39 rfl (fun v16 h => ?_)
          refine ww_goto C 9 dX1_passHours_39 (by decide) ?_
          exact ww_sub [1, 2, 3, 0] rfl ((ih).2.1 _ _ _ h)
      · intro x2 x3 g h
        rw [X1_passHours_G2] at h
        refine ww_iload_n C 3 dX1_passHours_44 rfl rfl 45 rfl ?_
        refine ww_aload_n C 0 dX1_passHours_45 rfl rfl 46 rfl ?_
        refine ww_getI C cl_X1 (obScene hb hn) 9 (by decide) rfl w_498 dX1_passHours_46 49 rfl ?_
        refine ww_icmp_ge C 97 dX1_passHours_49 (by decide) h 52 rfl (fun h => ?_) (fun h => ?_)
        · refine ww_aload_n C 0 dX1_passHours_97 rfl rfl 98 rfl ?_
          refine ww_dup C dX1_passHours_98 rfl 99 rfl ?_
          refine ww_getI C cl_X1 (obScene hb hn) 10 (by decide) rfl w_500 dX1_passHours_99 102 rfl ?_
          refine ww_iconst C (1 : Int32) dX1_passHours_102 (by decide) 103 rfl ?_
          refine ww_iadd C dX1_passHours_103 104 rfl ?_
          refine ww_putI C cl_X1 (obScene hb hn) 10 (by decide) rfl tyX1 tyX1_ok nmX1 rfl rfl rfl w_500 dX1_passHours_104 h 107 rfl (fun u17 h => ?_)
          refine ww_iinc C 2 (1 : Int32) (by decide) (fun v18 => [(2, .int v18), (0, .ref (ad b)), (1, .int a1), (3, .int x3)]) dX1_passHours_107 rfl (by decide) (fun _ => rfl) h 110 rfl (fun v18 h => ?_)
          refine ww_goto C 2 dX1_passHours_110 (by decide) ?_
          exact ww_sub [1, 2, 0] rfl ((ih).1 _ _ _ h)
        · refine ww_iload_n C 3 dX1_passHours_52 rfl rfl 53 rfl ?_
          refine ww_bipush C (6 : Int32) dX1_passHours_53 (by decide) 55 rfl ?_
          refine ww_icmp_ge C 97 dX1_passHours_55 (by decide) h 58 rfl (fun h => ?_) (fun h => ?_)
          · refine ww_aload_n C 0 dX1_passHours_97 rfl rfl 98 rfl ?_
            refine ww_dup C dX1_passHours_98 rfl 99 rfl ?_
            refine ww_getI C cl_X1 (obScene hb hn) 10 (by decide) rfl w_500 dX1_passHours_99 102 rfl ?_
            refine ww_iconst C (1 : Int32) dX1_passHours_102 (by decide) 103 rfl ?_
            refine ww_iadd C dX1_passHours_103 104 rfl ?_
            refine ww_putI C cl_X1 (obScene hb hn) 10 (by decide) rfl tyX1 tyX1_ok nmX1 rfl rfl rfl w_500 dX1_passHours_104 h 107 rfl (fun u19 h => ?_)
            refine ww_iinc C 2 (1 : Int32) (by decide) (fun v20 => [(2, .int v20), (0, .ref (ad b)), (1, .int a1), (3, .int x3)]) dX1_passHours_107 rfl (by decide) (fun _ => rfl) h 110 rfl (fun v20 h => ?_)
            refine ww_goto C 2 dX1_passHours_110 (by decide) ?_
            exact ww_sub [1, 2, 0] rfl ((ih).1 _ _ _ h)
          · refine ww_aload_n C 0 dX1_passHours_58 rfl rfl 59 rfl ?_
            refine ww_getS C cl_X1 (obScene hb hn) 7 (by decide) rfl (b + 8) (so_scene hb 7 8 (by decide) rfl) w_493 dX1_passHours_59 62 rfl ?_
            refine ww_iload_n C 3 dX1_passHours_62 rfl rfl 63 rfl ?_
            refine ww_bipush C (99 : Int32) dX1_passHours_63 (by decide) 65 rfl ?_
            refine ww_aload_n C 0 dX1_passHours_65 rfl rfl 66 rfl ?_
            refine ww_getS C cl_X1 (obScene hb hn) 7 (by decide) rfl (b + 8) (so_scene hb 7 8 (by decide) rfl) w_493 dX1_passHours_66 69 rfl ?_
            refine ww_iload_n C 3 dX1_passHours_69 rfl rfl 70 rfl ?_
            refine ww_iald C (iaScene (q := b) hb hn 8 6 (by decide)) dX1_passHours_70 h 71 rfl (fun h => ?_)
            refine ww_aload_n C 0 dX1_passHours_71 rfl rfl 72 rfl ?_
            refine ww_getS C cl_X1 (obScene hb hn) 5 (by decide) rfl (b + 6) (so_scene hb 5 6 (by decide) rfl) w_489 dX1_passHours_72 75 rfl ?_
            refine ww_iload_n C 3 dX1_passHours_75 rfl rfl 76 rfl ?_
            refine ww_iald C (iaScene (q := b) hb hn 6 6 (by decide)) dX1_passHours_76 h 77 rfl (fun h => ?_)
            refine ww_aload_n C 0 dX1_passHours_77 rfl rfl 78 rfl ?_
            refine ww_getS C cl_X1 (obScene hb hn) 6 (by decide) rfl (b + 7) (so_scene hb 6 7 (by decide) rfl) w_491 dX1_passHours_78 81 rfl ?_
            refine ww_iload_n C 3 dX1_passHours_81 rfl rfl 82 rfl ?_
            refine ww_iald C (iaScene (q := b) hb hn 7 6 (by decide)) dX1_passHours_82 h 83 rfl (fun h => ?_)
            refine ww_callSi C (As := [.int (g.1 (b + 6) (x3).toNatClampNeg), .int (g.1 (b + 7) (x3).toNatClampNeg)]) (st := [.int (g.1 (b + 8) (x3).toNatClampNeg), .int (99 : Int32), .int x3, .ref (ad (b + 8))]) h (fun _ _ hF => k_X0_breathing hn hF) w_174 cm_X0_breathing (by decide) (by decide) rfl rfl (Nat.le_of_ble_eq_true rfl) dX1_passHours_83 86 rfl (fun v22 u21 h => ?_)
            refine ww_iadd C dX1_passHours_86 87 rfl ?_
            refine ww_min C w_156 wm_min (by decide) (Nat.le_of_ble_eq_true rfl) dX1_passHours_87 90 rfl ?_
            refine ww_iast C (iaScene (q := b) hb hn 8 6 (by decide)) dX1_passHours_90 h 91 rfl (fun u23 h => ?_)
            refine ww_iinc C 3 (1 : Int32) (by decide) (fun v24 => [(3, .int v24), (0, .ref (ad b)), (1, .int a1), (2, .int x2)]) dX1_passHours_91 rfl (by decide) (fun _ => rfl) h 94 rfl (fun v24 h => ?_)
            refine ww_goto C 44 dX1_passHours_94 (by decide) ?_
            exact ww_sub [1, 2, 3, 0] rfl ((ih).2.2 _ _ _ h)
  rw [X1_passHours] at h
  refine ww_iconst C (0 : Int32) dX1_passHours_0 (by decide) 1 rfl ?_
  refine ww_istore_n C [(2, .int (0 : Int32)), (0, .ref (ad b)), (1, .int a1)] dX1_passHours_1 rfl (by decide) rfl 2 rfl ?_
  exact ww_sub [1, 2, 0] rfl ((G2h N).1 _ _ _ h)

set_option maxRecDepth 100000 in
set_option maxHeartbeats 4000000 in
theorem k_X1_mainSort {l : Launch} {D : va_G} {ad : Nat → Nat} {cA : Nat → ClassId} {tys : List (ClassId × FieldType)} {n : Nat} {sa : SA} (hn : 73 ≤ n) {N : Nat} {g : Mem} {b : Nat} (hb : isScene b) {r : Int32} {g1 : Mem} (h : X1_mainSort N b g = some (r, g1)) : CTi l yX1_mainSort (wsm yX1_mainSort cX1_mainSort 4 (some .int)) 1 D YI ad cA tys n sa g [.ref (ad b)] r g1 := by
  refine ct_of RX1 rfl (by decide +kernel) (Nat.le_of_ble_eq_true rfl) rfl (fun sz => PBi D YI ad cA n r g1 sz) ?_
  intro p e R s m args below meth c C hr
  have L6h : ∀ (fu : Nat), (∀ (x1 : Int32) (x2 : Int32) (x3 : Int32) (g : Mem), X1_mainSort_L6 N b fu x1 x2 x3 g = some (r, g1) → WW p l e R s m args below meth c 4 D YI ad cA n (MQ below (PBi D YI ad cA n r g1 s.heap.size) args s 0 0 (AA n ad s.heap.size)) g 6 [(0, .ref (ad b)), (1, .int x1), (2, .int x2), (3, .int x3)] []) := by
    intro fu
    induction fu with
    | zero => intro x1 x2 x3 g h; cases h
    | succ fu ih =>
      intro x1 x2 x3 g h
      rw [X1_mainSort_L6] at h
      refine ww_iload_n C 3 dX1_mainSort_6 rfl rfl 7 rfl ?_
      refine ww_bipush C (6 : Int32) dX1_mainSort_7 (by decide) 9 rfl ?_
      refine ww_icmp_ge C 37 dX1_mainSort_9 (by decide) h 12 rfl (fun h => ?_) (fun h => ?_)
      · refine ww_iload_n C 1 dX1_mainSort_37 rfl rfl 38 rfl ?_
        exact ww_iret C dX1_mainSort_38 hr h
      · refine ww_aload_n C 0 dX1_mainSort_12 rfl rfl 13 rfl ?_
        refine ww_getS C cl_X1 (obScene hb hn) 0 (by decide) rfl (b + 1) (so_scene hb 0 1 (by decide) rfl) w_479 dX1_mainSort_13 16 rfl ?_
        refine ww_iload_n C 3 dX1_mainSort_16 rfl rfl 17 rfl ?_
        refine ww_iald C (iaScene (q := b) hb hn 1 6 (by decide)) dX1_mainSort_17 h 18 rfl (fun h => ?_)
        refine ww_iload_n C 2 dX1_mainSort_18 rfl rfl 19 rfl ?_
        refine ww_icmp_le C 31 dX1_mainSort_19 (by decide) h 22 rfl (fun h => ?_) (fun h => ?_)
        · refine ww_iinc C 3 (1 : Int32) (by decide) (fun v4 => [(3, .int v4), (0, .ref (ad b)), (1, .int x1), (2, .int x2)]) dX1_mainSort_31 rfl (by decide) (fun _ => rfl) h 34 rfl (fun v4 h => ?_)
          refine ww_goto C 6 dX1_mainSort_34 (by decide) ?_
          exact ww_sub [1, 2, 3, 0] rfl (ih _ _ _ _ h)
        · refine ww_aload_n C 0 dX1_mainSort_22 rfl rfl 23 rfl ?_
          refine ww_getS C cl_X1 (obScene hb hn) 0 (by decide) rfl (b + 1) (so_scene hb 0 1 (by decide) rfl) w_479 dX1_mainSort_23 26 rfl ?_
          refine ww_iload_n C 3 dX1_mainSort_26 rfl rfl 27 rfl ?_
          refine ww_iald C (iaScene (q := b) hb hn 1 6 (by decide)) dX1_mainSort_27 h 28 rfl (fun h => ?_)
          refine ww_bi h (fun v5 h => ?_)
          refine ww_istore_n C [(2, .int v5), (0, .ref (ad b)), (1, .int x1), (3, .int x3)] dX1_mainSort_28 rfl (by decide) rfl 29 rfl ?_
          refine ww_iload_n C 3 dX1_mainSort_29 rfl rfl 30 rfl ?_
          refine ww_istore_n C [(1, .int x3), (2, .int v5), (0, .ref (ad b)), (3, .int x3)] dX1_mainSort_30 rfl (by decide) rfl 31 rfl ?_
          refine ww_iinc C 3 (1 : Int32) (by decide) (fun v6 => [(3, .int v6), (1, .int x3), (2, .int v5), (0, .ref (ad b))]) dX1_mainSort_31 rfl (by decide) (fun _ => rfl) h 34 rfl (fun v6 h => ?_)
          refine ww_goto C 6 dX1_mainSort_34 (by decide) ?_
          exact ww_sub [3, 1, 2, 0] rfl (ih _ _ _ _ h)
  rw [X1_mainSort] at h
  refine ww_iconst C (-1 : Int32) dX1_mainSort_0 (by decide) 1 rfl ?_
  refine ww_istore_n C [(1, .int (-1 : Int32)), (0, .ref (ad b))] dX1_mainSort_1 rfl (by decide) rfl 2 rfl ?_
  refine ww_iconst C (0 : Int32) dX1_mainSort_2 (by decide) 3 rfl ?_
  refine ww_istore_n C [(2, .int (0 : Int32)), (1, .int (-1 : Int32)), (0, .ref (ad b))] dX1_mainSort_3 rfl (by decide) rfl 4 rfl ?_
  refine ww_iconst C (0 : Int32) dX1_mainSort_4 (by decide) 5 rfl ?_
  refine ww_istore_n C [(3, .int (0 : Int32)), (2, .int (0 : Int32)), (1, .int (-1 : Int32)), (0, .ref (ad b))] dX1_mainSort_5 rfl (by decide) rfl 6 rfl ?_
  exact ww_sub [3, 2, 1, 0] rfl (L6h N _ _ _ _ h)

set_option maxRecDepth 100000 in
set_option maxHeartbeats 4000000 in
theorem k_X1_fair {l : Launch} {D : va_G} {ad : Nat → Nat} {cA : Nat → ClassId} {tys : List (ClassId × FieldType)} {n : Nat} {sa : SA} (hn : 73 ≤ n) {N : Nat} {g : Mem} {b : Nat} (hb : isScene b) {r : Int32} {g1 : Mem} (h : X1_fair N b g = some (r, g1)) : CTi l yX1_fair (wsm yX1_fair cX1_fair 1 (some .int)) 1 D YI ad cA tys n sa g [.ref (ad b)] r g1 := by
  refine ct_of RX1 rfl (by decide +kernel) (Nat.le_of_ble_eq_true rfl) rfl (fun sz => PBi D YI ad cA n r g1 sz) ?_
  intro p e R s m args below meth c C hr
  rw [X1_fair] at h
  refine ww_aload_n C 0 dX1_fair_0 rfl rfl 1 rfl ?_
  refine ww_getS C cl_X1 (obScene hb hn) 0 (by decide) rfl (b + 1) (so_scene hb 0 1 (by decide) rfl) w_479 dX1_fair_1 4 rfl ?_
  refine ww_iconst C (0 : Int32) dX1_fair_4 (by decide) 5 rfl ?_
  refine ww_iald C (iaScene (q := b) hb hn 1 6 (by decide)) dX1_fair_5 h 6 rfl (fun h => ?_)
  refine ww_aload_n C 0 dX1_fair_6 rfl rfl 7 rfl ?_
  refine ww_getS C cl_X1 (obScene hb hn) 0 (by decide) rfl (b + 1) (so_scene hb 0 1 (by decide) rfl) w_479 dX1_fair_7 10 rfl ?_
  refine ww_iconst C (3 : Int32) dX1_fair_10 (by decide) 11 rfl ?_
  refine ww_iald C (iaScene (q := b) hb hn 1 6 (by decide)) dX1_fair_11 h 12 rfl (fun h => ?_)
  refine ww_iadd C dX1_fair_12 13 rfl ?_
  refine ww_aload_n C 0 dX1_fair_13 rfl rfl 14 rfl ?_
  refine ww_getS C cl_X1 (obScene hb hn) 0 (by decide) rfl (b + 1) (so_scene hb 0 1 (by decide) rfl) w_479 dX1_fair_14 17 rfl ?_
  refine ww_iconst C (2 : Int32) dX1_fair_17 (by decide) 18 rfl ?_
  refine ww_iald C (iaScene (q := b) hb hn 1 6 (by decide)) dX1_fair_18 h 19 rfl (fun h => ?_)
  refine ww_isub C dX1_fair_19 20 rfl ?_
  refine ww_iconst C (2 : Int32) dX1_fair_20 (by decide) 21 rfl ?_
  refine ww_aload_n C 0 dX1_fair_21 rfl rfl 22 rfl ?_
  refine ww_getS C cl_X1 (obScene hb hn) 0 (by decide) rfl (b + 1) (so_scene hb 0 1 (by decide) rfl) w_479 dX1_fair_22 25 rfl ?_
  refine ww_iconst C (5 : Int32) dX1_fair_25 (by decide) 26 rfl ?_
  refine ww_iald C (iaScene (q := b) hb hn 1 6 (by decide)) dX1_fair_26 h 27 rfl (fun h => ?_)
  refine ww_imul C dX1_fair_27 28 rfl ?_
  refine ww_isub C dX1_fair_28 29 rfl ?_
  exact ww_iret C dX1_fair_29 hr h

set_option maxRecDepth 100000 in
set_option maxHeartbeats 4000000 in
theorem k_X1_overBay {l : Launch} {D : va_G} {ad : Nat → Nat} {cA : Nat → ClassId} {tys : List (ClassId × FieldType)} {n : Nat} {sa : SA} (hn : 73 ≤ n) {N : Nat} {g : Mem} {b : Nat} (hb : isScene b) {a1 : Int32} {r : Int32} {g1 : Mem} (h : X1_overBay N b a1 g = some (r, g1)) : CTi l yX1_overBay (wsm yX1_overBay cX1_overBay 2 (some .int)) 3 D YI ad cA tys n sa g [.ref (ad b), .int a1] r g1 := by
  refine ct_of RX1 rfl (by decide +kernel) (Nat.le_of_ble_eq_true rfl) rfl (fun sz => PBi D YI ad cA n r g1 sz) ?_
  intro p e R s m args below meth c C hr
  rw [X1_overBay] at h
  refine ww_iload_n C 1 dX1_overBay_0 rfl rfl 1 rfl ?_
  refine ww_bipush C (6 : Int32) dX1_overBay_1 (by decide) 3 rfl ?_
  refine ww_icmp_ne C 11 dX1_overBay_3 (by decide) h 6 rfl (fun h => ?_) (fun h => ?_)
  · refine ww_iload_n C 1 dX1_overBay_11 rfl rfl 12 rfl ?_
    refine ww_callNi C (As := [.int a1]) (st := []) h (fun _ _ hF => k_X5_isSort hn hF) C.2.2.2.2.2.2.2.1.2.2.2.2.2.2.2.2.2.1 cm_X5_isSort (by decide) (by decide) rfl rfl (Nat.le_of_ble_eq_true rfl) dX1_overBay_12 15 rfl (fun v8 u7 h => ?_)
    refine ww_if_eq C 27 dX1_overBay_15 (by decide) h 18 rfl (fun h => ?_) (fun h => ?_)
    · refine ww_aload_n C 0 dX1_overBay_27 rfl rfl 28 rfl ?_
      refine ww_callVi C (As := []) (st := []) h cl_X1.1 (obScene hb hn) (fun _ _ hF => k_X1_fair hn hb hF) w_189 cm_X1_fair (by decide) (by decide) rfl rfl (Nat.le_of_ble_eq_true rfl) dX1_overBay_28 31 rfl (fun v10 u9 h => ?_)
      exact ww_iret C dX1_overBay_31 hr h
    · refine ww_aload_n C 0 dX1_overBay_18 rfl rfl 19 rfl ?_
      refine ww_getS C cl_X1 (obScene hb hn) 0 (by decide) rfl (b + 1) (so_scene hb 0 1 (by decide) rfl) w_479 dX1_overBay_19 22 rfl ?_
      refine ww_iload_n C 1 dX1_overBay_22 rfl rfl 23 rfl ?_
      refine ww_iald C (iaScene (q := b) hb hn 1 6 (by decide)) dX1_overBay_23 h 24 rfl (fun h => ?_)
      refine ww_goto C 31 dX1_overBay_24 (by decide) ?_
      exact ww_iret C dX1_overBay_31 hr h
  · refine ww_aload_n C 0 dX1_overBay_6 rfl rfl 7 rfl ?_
    refine ww_callVi C (As := []) (st := []) h cl_X1.1 (obScene hb hn) (fun _ _ hF => k_X1_mainSort hn hb hF) w_187 cm_X1_mainSort (by decide) (by decide) rfl rfl (Nat.le_of_ble_eq_true rfl) dX1_overBay_7 10 rfl (fun v12 u11 h => ?_)
    exact ww_iret C dX1_overBay_10 hr h

set_option maxRecDepth 100000 in
set_option maxHeartbeats 4000000 in
theorem k_X1_becomes {l : Launch} {D : va_G} {ad : Nat → Nat} {cA : Nat → ClassId} {tys : List (ClassId × FieldType)} {n : Nat} {sa : SA} (hn : 73 ≤ n) {N : Nat} {g : Mem} {b : Nat} (hb : isScene b) {a1 : Nat} (ha1 : isScene a1) {r : Int32} {g1 : Mem} (h : X1_becomes N b a1 g = some (r, g1)) : CTv l yX1_becomes (wsm yX1_becomes cX1_becomes 2 none) 2 D YI ad cA tys n sa g [.ref (ad b), .ref (ad a1)] g1 := by
  refine ct_of RX1 rfl (by decide +kernel) (Nat.le_of_ble_eq_true rfl) rfl (fun sz => PBv D YI ad cA n g1 sz) ?_
  intro p e R s m args below meth c C hr
  rw [X1_becomes] at h
  refine ww_aload_n C 1 dX1_becomes_0 rfl rfl 1 rfl ?_
  refine ww_getS C cl_X1 (obScene ha1 hn) 0 (by decide) rfl (a1 + 1) (so_scene ha1 0 1 (by decide) rfl) w_479 dX1_becomes_1 4 rfl ?_
  refine ww_iconst C (0 : Int32) dX1_becomes_4 (by decide) 5 rfl ?_
  refine ww_aload_n C 0 dX1_becomes_5 rfl rfl 6 rfl ?_
  refine ww_getS C cl_X1 (obScene hb hn) 0 (by decide) rfl (b + 1) (so_scene hb 0 1 (by decide) rfl) w_479 dX1_becomes_6 9 rfl ?_
  refine ww_iconst C (0 : Int32) dX1_becomes_9 (by decide) 10 rfl ?_
  refine ww_bipush C (6 : Int32) dX1_becomes_10 (by decide) 12 rfl ?_
  refine ww_copy C (iaScene (q := a1) ha1 hn 1 6 (by decide)) (iaScene (q := b) hb hn 1 6 (by decide)) w_201 wm_copy (by decide) (Nat.le_of_ble_eq_true rfl) dX1_becomes_12 h 15 rfl (fun u14 h => ?_)
  refine ww_aload_n C 1 dX1_becomes_15 rfl rfl 16 rfl ?_
  refine ww_getS C cl_X1 (obScene ha1 hn) 1 (by decide) rfl (a1 + 2) (so_scene ha1 1 2 (by decide) rfl) w_481 dX1_becomes_16 19 rfl ?_
  refine ww_iconst C (0 : Int32) dX1_becomes_19 (by decide) 20 rfl ?_
  refine ww_aload_n C 0 dX1_becomes_20 rfl rfl 21 rfl ?_
  refine ww_getS C cl_X1 (obScene hb hn) 1 (by decide) rfl (b + 2) (so_scene hb 1 2 (by decide) rfl) w_481 dX1_becomes_21 24 rfl ?_
  refine ww_iconst C (0 : Int32) dX1_becomes_24 (by decide) 25 rfl ?_
  refine ww_bipush C (12 : Int32) dX1_becomes_25 (by decide) 27 rfl ?_
  refine ww_copy C (iaScene (q := a1) ha1 hn 2 12 (by decide)) (iaScene (q := b) hb hn 2 12 (by decide)) w_201 wm_copy (by decide) (Nat.le_of_ble_eq_true rfl) dX1_becomes_27 h 30 rfl (fun u15 h => ?_)
  refine ww_aload_n C 1 dX1_becomes_30 rfl rfl 31 rfl ?_
  refine ww_getS C cl_X1 (obScene ha1 hn) 2 (by decide) rfl (a1 + 3) (so_scene ha1 2 3 (by decide) rfl) w_483 dX1_becomes_31 34 rfl ?_
  refine ww_iconst C (0 : Int32) dX1_becomes_34 (by decide) 35 rfl ?_
  refine ww_aload_n C 0 dX1_becomes_35 rfl rfl 36 rfl ?_
  refine ww_getS C cl_X1 (obScene hb hn) 2 (by decide) rfl (b + 3) (so_scene hb 2 3 (by decide) rfl) w_483 dX1_becomes_36 39 rfl ?_
  refine ww_iconst C (0 : Int32) dX1_becomes_39 (by decide) 40 rfl ?_
  refine ww_bipush C (12 : Int32) dX1_becomes_40 (by decide) 42 rfl ?_
  refine ww_copy C (iaScene (q := a1) ha1 hn 3 12 (by decide)) (iaScene (q := b) hb hn 3 12 (by decide)) w_201 wm_copy (by decide) (Nat.le_of_ble_eq_true rfl) dX1_becomes_42 h 45 rfl (fun u16 h => ?_)
  refine ww_aload_n C 1 dX1_becomes_45 rfl rfl 46 rfl ?_
  refine ww_getS C cl_X1 (obScene ha1 hn) 3 (by decide) rfl (a1 + 4) (so_scene ha1 3 4 (by decide) rfl) w_485 dX1_becomes_46 49 rfl ?_
  refine ww_iconst C (0 : Int32) dX1_becomes_49 (by decide) 50 rfl ?_
  refine ww_aload_n C 0 dX1_becomes_50 rfl rfl 51 rfl ?_
  refine ww_getS C cl_X1 (obScene hb hn) 3 (by decide) rfl (b + 4) (so_scene hb 3 4 (by decide) rfl) w_485 dX1_becomes_51 54 rfl ?_
  refine ww_iconst C (0 : Int32) dX1_becomes_54 (by decide) 55 rfl ?_
  refine ww_bipush C (12 : Int32) dX1_becomes_55 (by decide) 57 rfl ?_
  refine ww_copy C (iaScene (q := a1) ha1 hn 4 12 (by decide)) (iaScene (q := b) hb hn 4 12 (by decide)) w_201 wm_copy (by decide) (Nat.le_of_ble_eq_true rfl) dX1_becomes_57 h 60 rfl (fun u17 h => ?_)
  refine ww_aload_n C 1 dX1_becomes_60 rfl rfl 61 rfl ?_
  refine ww_getS C cl_X1 (obScene ha1 hn) 4 (by decide) rfl (a1 + 5) (so_scene ha1 4 5 (by decide) rfl) w_487 dX1_becomes_61 64 rfl ?_
  refine ww_iconst C (0 : Int32) dX1_becomes_64 (by decide) 65 rfl ?_
  refine ww_aload_n C 0 dX1_becomes_65 rfl rfl 66 rfl ?_
  refine ww_getS C cl_X1 (obScene hb hn) 4 (by decide) rfl (b + 5) (so_scene hb 4 5 (by decide) rfl) w_487 dX1_becomes_66 69 rfl ?_
  refine ww_iconst C (0 : Int32) dX1_becomes_69 (by decide) 70 rfl ?_
  refine ww_bipush C (12 : Int32) dX1_becomes_70 (by decide) 72 rfl ?_
  refine ww_copy C (iaScene (q := a1) ha1 hn 5 12 (by decide)) (iaScene (q := b) hb hn 5 12 (by decide)) w_201 wm_copy (by decide) (Nat.le_of_ble_eq_true rfl) dX1_becomes_72 h 75 rfl (fun u18 h => ?_)
  refine ww_aload_n C 1 dX1_becomes_75 rfl rfl 76 rfl ?_
  refine ww_getS C cl_X1 (obScene ha1 hn) 5 (by decide) rfl (a1 + 6) (so_scene ha1 5 6 (by decide) rfl) w_489 dX1_becomes_76 79 rfl ?_
  refine ww_iconst C (0 : Int32) dX1_becomes_79 (by decide) 80 rfl ?_
  refine ww_aload_n C 0 dX1_becomes_80 rfl rfl 81 rfl ?_
  refine ww_getS C cl_X1 (obScene hb hn) 5 (by decide) rfl (b + 6) (so_scene hb 5 6 (by decide) rfl) w_489 dX1_becomes_81 84 rfl ?_
  refine ww_iconst C (0 : Int32) dX1_becomes_84 (by decide) 85 rfl ?_
  refine ww_bipush C (6 : Int32) dX1_becomes_85 (by decide) 87 rfl ?_
  refine ww_copy C (iaScene (q := a1) ha1 hn 6 6 (by decide)) (iaScene (q := b) hb hn 6 6 (by decide)) w_201 wm_copy (by decide) (Nat.le_of_ble_eq_true rfl) dX1_becomes_87 h 90 rfl (fun u19 h => ?_)
  refine ww_aload_n C 1 dX1_becomes_90 rfl rfl 91 rfl ?_
  refine ww_getS C cl_X1 (obScene ha1 hn) 6 (by decide) rfl (a1 + 7) (so_scene ha1 6 7 (by decide) rfl) w_491 dX1_becomes_91 94 rfl ?_
  refine ww_iconst C (0 : Int32) dX1_becomes_94 (by decide) 95 rfl ?_
  refine ww_aload_n C 0 dX1_becomes_95 rfl rfl 96 rfl ?_
  refine ww_getS C cl_X1 (obScene hb hn) 6 (by decide) rfl (b + 7) (so_scene hb 6 7 (by decide) rfl) w_491 dX1_becomes_96 99 rfl ?_
  refine ww_iconst C (0 : Int32) dX1_becomes_99 (by decide) 100 rfl ?_
  refine ww_bipush C (6 : Int32) dX1_becomes_100 (by decide) 102 rfl ?_
  refine ww_copy C (iaScene (q := a1) ha1 hn 7 6 (by decide)) (iaScene (q := b) hb hn 7 6 (by decide)) w_201 wm_copy (by decide) (Nat.le_of_ble_eq_true rfl) dX1_becomes_102 h 105 rfl (fun u20 h => ?_)
  refine ww_aload_n C 1 dX1_becomes_105 rfl rfl 106 rfl ?_
  refine ww_getS C cl_X1 (obScene ha1 hn) 7 (by decide) rfl (a1 + 8) (so_scene ha1 7 8 (by decide) rfl) w_493 dX1_becomes_106 109 rfl ?_
  refine ww_iconst C (0 : Int32) dX1_becomes_109 (by decide) 110 rfl ?_
  refine ww_aload_n C 0 dX1_becomes_110 rfl rfl 111 rfl ?_
  refine ww_getS C cl_X1 (obScene hb hn) 7 (by decide) rfl (b + 8) (so_scene hb 7 8 (by decide) rfl) w_493 dX1_becomes_111 114 rfl ?_
  refine ww_iconst C (0 : Int32) dX1_becomes_114 (by decide) 115 rfl ?_
  refine ww_bipush C (6 : Int32) dX1_becomes_115 (by decide) 117 rfl ?_
  refine ww_copy C (iaScene (q := a1) ha1 hn 8 6 (by decide)) (iaScene (q := b) hb hn 8 6 (by decide)) w_201 wm_copy (by decide) (Nat.le_of_ble_eq_true rfl) dX1_becomes_117 h 120 rfl (fun u21 h => ?_)
  refine ww_aload_n C 1 dX1_becomes_120 rfl rfl 121 rfl ?_
  refine ww_getS C cl_X1 (obScene ha1 hn) 8 (by decide) rfl (a1 + 9) (so_scene ha1 8 9 (by decide) rfl) w_495 dX1_becomes_121 124 rfl ?_
  refine ww_iconst C (0 : Int32) dX1_becomes_124 (by decide) 125 rfl ?_
  refine ww_aload_n C 0 dX1_becomes_125 rfl rfl 126 rfl ?_
  refine ww_getS C cl_X1 (obScene hb hn) 8 (by decide) rfl (b + 9) (so_scene hb 8 9 (by decide) rfl) w_495 dX1_becomes_126 129 rfl ?_
  refine ww_iconst C (0 : Int32) dX1_becomes_129 (by decide) 130 rfl ?_
  refine ww_bipush C (6 : Int32) dX1_becomes_130 (by decide) 132 rfl ?_
  refine ww_copy C (iaScene (q := a1) ha1 hn 9 6 (by decide)) (iaScene (q := b) hb hn 9 6 (by decide)) w_201 wm_copy (by decide) (Nat.le_of_ble_eq_true rfl) dX1_becomes_132 h 135 rfl (fun u22 h => ?_)
  refine ww_aload_n C 0 dX1_becomes_135 rfl rfl 136 rfl ?_
  refine ww_aload_n C 1 dX1_becomes_136 rfl rfl 137 rfl ?_
  refine ww_getI C cl_X1 (obScene ha1 hn) 9 (by decide) rfl w_498 dX1_becomes_137 140 rfl ?_
  refine ww_putI C cl_X1 (obScene hb hn) 9 (by decide) rfl tyX1 tyX1_ok nmX1 rfl rfl rfl w_498 dX1_becomes_140 h 143 rfl (fun u23 h => ?_)
  refine ww_aload_n C 0 dX1_becomes_143 rfl rfl 144 rfl ?_
  refine ww_aload_n C 1 dX1_becomes_144 rfl rfl 145 rfl ?_
  refine ww_getI C cl_X1 (obScene ha1 hn) 10 (by decide) rfl w_500 dX1_becomes_145 148 rfl ?_
  refine ww_putI C cl_X1 (obScene hb hn) 10 (by decide) rfl tyX1 tyX1_ok nmX1 rfl rfl rfl w_500 dX1_becomes_148 h 151 rfl (fun u24 h => ?_)
  refine ww_aload_n C 0 dX1_becomes_151 rfl rfl 152 rfl ?_
  refine ww_aload_n C 1 dX1_becomes_152 rfl rfl 153 rfl ?_
  refine ww_getM C cl_X1 (obScene ha1 hn) 11 (by decide) rfl w_501 dX1_becomes_153 h 156 rfl (fun t25 ht25 h => ?_)
  refine ww_putM C cl_X1 (sc_lt hb) (obScene hb hn) 11 (by decide) rfl (by decide) tyX1 tyX1_ok nmX1 rfl rfl rfl w_501 dX1_becomes_156 h 159 rfl (fun u26 h => ?_)
  exact ww_vret C dX1_becomes_159 hr h

set_option maxRecDepth 100000 in
set_option maxHeartbeats 4000000 in
theorem k_X1_sum {l : Launch} {D : va_G} {ad : Nat → Nat} {cA : Nat → ClassId} {tys : List (ClassId × FieldType)} {n : Nat} {sa : SA} (hn : 73 ≤ n) {N : Nat} {g : Mem} {a1 : Nat} {a2 : Int32} {r : Int32} {g1 : Mem} (h : X1_sum N a1 a2 g = some (r, g1)) : CTi l yX1_sum (wsm yX1_sum cX1_sum 4 (some .int)) 1 D YI ad cA tys n sa g [.ref (ad a1), .int a2] r g1 := by
  refine ct_of RX1 rfl (by decide +kernel) (Nat.le_of_ble_eq_true rfl) rfl (fun sz => PBi D YI ad cA n r g1 sz) ?_
  intro p e R s m args below meth c C hr
  have L4h : ∀ (fu : Nat), (∀ (x2 : Int32) (x3 : Int32) (g : Mem), X1_sum_L4 N a1 a2 fu x2 x3 g = some (r, g1) → WW p l e R s m args below meth c 4 D YI ad cA n (MQ below (PBi D YI ad cA n r g1 s.heap.size) args s 0 0 (AA n ad s.heap.size)) g 4 [(0, .ref (ad a1)), (1, .int a2), (2, .int x2), (3, .int x3)] []) := by
    intro fu
    induction fu with
    | zero => intro x2 x3 g h; cases h
    | succ fu ih =>
      intro x2 x3 g h
      rw [X1_sum_L4] at h
      refine ww_iload_n C 3 dX1_sum_4 rfl rfl 5 rfl ?_
      refine ww_aload_n C 0 dX1_sum_5 rfl rfl 6 rfl ?_
      obtain ⟨hd6, h⟩ := gd_some h
      refine ww_alen C (iaDyn hd6 hn) (Int32.ofNat (lnI a1)) rfl dX1_sum_6 7 rfl ?_
      refine ww_icmp_ge C 30 dX1_sum_7 (by decide) h 10 rfl (fun h => ?_) (fun h => ?_)
      · refine ww_iload_n C 2 dX1_sum_30 rfl rfl 31 rfl ?_
        exact ww_iret C dX1_sum_31 hr h
      · refine ww_iload_n C 1 dX1_sum_10 rfl rfl 11 rfl ?_
        refine ww_iload_n C 3 dX1_sum_11 rfl rfl 12 rfl ?_
        refine ww_ishr C dX1_sum_12 13 rfl ?_
        refine ww_iconst C (1 : Int32) dX1_sum_13 (by decide) 14 rfl ?_
        refine ww_iand C dX1_sum_14 15 rfl ?_
        refine ww_if_eq C 24 dX1_sum_15 (by decide) h 18 rfl (fun h => ?_) (fun h => ?_)
        · refine ww_iinc C 3 (1 : Int32) (by decide) (fun v7 => [(3, .int v7), (0, .ref (ad a1)), (1, .int a2), (2, .int x2)]) dX1_sum_24 rfl (by decide) (fun _ => rfl) h 27 rfl (fun v7 h => ?_)
          refine ww_goto C 4 dX1_sum_27 (by decide) ?_
          exact ww_sub [1, 2, 3, 0] rfl (ih _ _ _ h)
        · refine ww_iload_n C 2 dX1_sum_18 rfl rfl 19 rfl ?_
          refine ww_aload_n C 0 dX1_sum_19 rfl rfl 20 rfl ?_
          refine ww_iload_n C 3 dX1_sum_20 rfl rfl 21 rfl ?_
          obtain ⟨hd8, h⟩ := gd_some h
          refine ww_iald C (iaDyn hd8 hn) dX1_sum_21 h 22 rfl (fun h => ?_)
          refine ww_iadd C dX1_sum_22 23 rfl ?_
          refine ww_bi h (fun v9 h => ?_)
          refine ww_istore_n C [(2, .int v9), (0, .ref (ad a1)), (1, .int a2), (3, .int x3)] dX1_sum_23 rfl (by decide) rfl 24 rfl ?_
          refine ww_iinc C 3 (1 : Int32) (by decide) (fun v10 => [(3, .int v10), (2, .int v9), (0, .ref (ad a1)), (1, .int a2)]) dX1_sum_24 rfl (by decide) (fun _ => rfl) h 27 rfl (fun v10 h => ?_)
          refine ww_goto C 4 dX1_sum_27 (by decide) ?_
          exact ww_sub [2, 3, 1, 0] rfl (ih _ _ _ h)
  rw [X1_sum] at h
  refine ww_iconst C (0 : Int32) dX1_sum_0 (by decide) 1 rfl ?_
  refine ww_istore_n C [(2, .int (0 : Int32)), (0, .ref (ad a1)), (1, .int a2)] dX1_sum_1 rfl (by decide) rfl 2 rfl ?_
  refine ww_iconst C (0 : Int32) dX1_sum_2 (by decide) 3 rfl ?_
  refine ww_istore_n C [(3, .int (0 : Int32)), (2, .int (0 : Int32)), (0, .ref (ad a1)), (1, .int a2)] dX1_sum_3 rfl (by decide) rfl 4 rfl ?_
  exact ww_sub [2, 3, 1, 0] rfl (L4h N _ _ _ h)

