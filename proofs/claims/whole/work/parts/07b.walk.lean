set_option maxRecDepth 100000 in
set_option maxHeartbeats 4000000 in
theorem k_X3_hasRoom {l : Launch} {D : va_G} {ad : Nat → Nat} {cA : Nat → ClassId} {tys : List (ClassId × FieldType)} {n : Nat} {sa : Nat → Nat} (hn : 42 ≤ n) {N : Nat} {g : Mem} {a1 : Int32} {r : Int32} {g1 : Mem} (h : X3_hasRoom N a1 g = some (r, g1)) : CTi l yX3_hasRoom (wsm yX3_hasRoom cX3_hasRoom 2 (some .boolean)) 1 D YI ad cA tys n sa g [.ref (ad 0), .int a1] r g1 := by
  refine ct_of RX3 rfl (by decide +kernel) (Nat.le_of_ble_eq_true rfl) rfl (fun sz => PBi D YI ad cA n r g1 sz) ?_
  intro p e R s m args below meth c C hr
  rw [X3_hasRoom] at h
  refine ww_iload_n C 1 dX3_hasRoom_0 rfl rfl 1 rfl ?_
  refine ww_sipush C (160 : Int32) dX3_hasRoom_1 (by decide) 4 rfl ?_
  refine ww_aload_n C 0 dX3_hasRoom_4 rfl rfl 5 rfl ?_
  refine ww_getI C cl_X3 (obTape hn) 1 (by decide) rfl w_90 dX3_hasRoom_5 8 rfl ?_
  refine ww_isub C dX3_hasRoom_8 9 rfl ?_
  refine ww_icmp_gt C 16 dX3_hasRoom_9 (by decide) h 12 rfl (fun h => ?_) (fun h => ?_)
  · refine ww_iconst C (0 : Int32) dX3_hasRoom_16 (by decide) 17 rfl ?_
    exact ww_zret C dX3_hasRoom_17 hr rfl h
  · refine ww_iconst C (1 : Int32) dX3_hasRoom_12 (by decide) 13 rfl ?_
    refine ww_goto C 17 dX3_hasRoom_13 (by decide) ?_
    exact ww_zret C dX3_hasRoom_17 hr rfl h

set_option maxRecDepth 100000 in
set_option maxHeartbeats 4000000 in
theorem k_X3_add {l : Launch} {D : va_G} {ad : Nat → Nat} {cA : Nat → ClassId} {tys : List (ClassId × FieldType)} {n : Nat} {sa : Nat → Nat} (hn : 42 ≤ n) {N : Nat} {g : Mem} {a1 : Int32} {r : Int32} {g1 : Mem} (h : X3_add N a1 g = some (r, g1)) : CTv l yX3_add (wsm yX3_add cX3_add 2 none) 1 D YI ad cA tys n sa g [.ref (ad 0), .int a1] g1 := by
  refine ct_of RX3 rfl (by decide +kernel) (Nat.le_of_ble_eq_true rfl) rfl (fun sz => PBv D YI ad cA n g1 sz) ?_
  intro p e R s m args below meth c C hr
  rw [X3_add] at h
  refine ww_aload_n C 0 dX3_add_0 rfl rfl 1 rfl ?_
  refine ww_getI C cl_X3 (obTape hn) 1 (by decide) rfl w_90 dX3_add_1 4 rfl ?_
  refine ww_sipush C (160 : Int32) dX3_add_4 (by decide) 7 rfl ?_
  refine ww_icmp_ge C 30 dX3_add_7 (by decide) h 10 rfl (fun h => ?_) (fun h => ?_)
  · exact ww_vret C dX3_add_30 hr h
  · refine ww_aload_n C 0 dX3_add_10 rfl rfl 11 rfl ?_
    refine ww_getS C cl_X3 (obTape hn) 0 (by decide) rfl 1 rfl w_89 dX3_add_11 14 rfl ?_
    refine ww_aload_n C 0 dX3_add_14 rfl rfl 15 rfl ?_
    refine ww_getI C cl_X3 (obTape hn) 1 (by decide) rfl w_90 dX3_add_15 18 rfl ?_
    refine ww_iload_n C 1 dX3_add_18 rfl rfl 19 rfl ?_
    refine ww_iast C (iaTape hn) dX3_add_19 h 20 rfl (fun u3 h => ?_)
    refine ww_aload_n C 0 dX3_add_20 rfl rfl 21 rfl ?_
    refine ww_dup C dX3_add_21 rfl 22 rfl ?_
    refine ww_getI C cl_X3 (obTape hn) 1 (by decide) rfl w_90 dX3_add_22 25 rfl ?_
    refine ww_iconst C (1 : Int32) dX3_add_25 (by decide) 26 rfl ?_
    refine ww_iadd C dX3_add_26 27 rfl ?_
    refine ww_putI C cl_X3 (obTape hn) 1 (by decide) rfl tyX3 tyX3_ok nmX3 rfl rfl rfl w_90 dX3_add_27 h 30 rfl (fun u4 h => ?_)
    exact ww_vret C dX3_add_30 hr h

set_option maxRecDepth 100000 in
set_option maxHeartbeats 4000000 in
theorem k_X4_clear {l : Launch} {D : va_G} {ad : Nat → Nat} {cA : Nat → ClassId} {tys : List (ClassId × FieldType)} {n : Nat} {sa : Nat → Nat} (hn : 42 ≤ n) {N : Nat} {g : Mem} {b : Nat} (hb : isText b) {r : Int32} {g1 : Mem} (h : X4_clear N b g = some (r, g1)) : CTv l yX4_clear (wsm yX4_clear cX4_clear 1 none) 1 D YI ad cA tys n sa g [.ref (ad b)] g1 := by
  refine ct_of RX4 rfl (by decide +kernel) (Nat.le_of_ble_eq_true rfl) rfl (fun sz => PBv D YI ad cA n g1 sz) ?_
  intro p e R s m args below meth c C hr
  rw [X4_clear] at h
  refine ww_aload_n C 0 dX4_clear_0 rfl rfl 1 rfl ?_
  refine ww_iconst C (0 : Int32) dX4_clear_1 (by decide) 2 rfl ?_
  refine ww_putI C cl_X4 (obText hb hn) 2 (by decide) rfl tyX4 tyX4_ok nmX4 rfl rfl rfl w_125 dX4_clear_2 h 5 rfl (fun u2 h => ?_)
  exact ww_vret C dX4_clear_5 hr h

set_option maxRecDepth 100000 in
set_option maxHeartbeats 4000000 in
theorem k_X3_isBlank {l : Launch} {D : va_G} {ad : Nat → Nat} {cA : Nat → ClassId} {tys : List (ClassId × FieldType)} {n : Nat} {sa : Nat → Nat} (hn : 42 ≤ n) {N : Nat} {g : Mem} {a1 : Int32} {r : Int32} {g1 : Mem} (h : X3_isBlank N a1 g = some (r, g1)) : CTi l yX3_isBlank (wsm yX3_isBlank cX3_isBlank 1 (some .boolean)) 1 D YI ad cA tys n sa g [.int a1] r g1 := by
  refine ct_of RX3 rfl (by decide +kernel) (Nat.le_of_ble_eq_true rfl) rfl (fun sz => PBi D YI ad cA n r g1 sz) ?_
  intro p e R s m args below meth c C hr
  rw [X3_isBlank] at h
  refine ww_iload_n C 0 dX3_isBlank_0 rfl rfl 1 rfl ?_
  refine ww_bipush C (32 : Int32) dX3_isBlank_1 (by decide) 3 rfl ?_
  refine ww_icmp_eq C 12 dX3_isBlank_3 (by decide) h 6 rfl (fun h => ?_) (fun h => ?_)
  · refine ww_iconst C (1 : Int32) dX3_isBlank_12 (by decide) 13 rfl ?_
    refine ww_goto C 17 dX3_isBlank_13 (by decide) ?_
    exact ww_zret C dX3_isBlank_17 hr rfl h
  · refine ww_iload_n C 0 dX3_isBlank_6 rfl rfl 7 rfl ?_
    refine ww_bipush C (10 : Int32) dX3_isBlank_7 (by decide) 9 rfl ?_
    refine ww_icmp_ne C 16 dX3_isBlank_9 (by decide) h 12 rfl (fun h => ?_) (fun h => ?_)
    · refine ww_iconst C (0 : Int32) dX3_isBlank_16 (by decide) 17 rfl ?_
      exact ww_zret C dX3_isBlank_17 hr rfl h
    · refine ww_iconst C (1 : Int32) dX3_isBlank_12 (by decide) 13 rfl ?_
      refine ww_goto C 17 dX3_isBlank_13 (by decide) ?_
      exact ww_zret C dX3_isBlank_17 hr rfl h

set_option maxRecDepth 100000 in
set_option maxHeartbeats 4000000 in
theorem k_X3_isLetter {l : Launch} {D : va_G} {ad : Nat → Nat} {cA : Nat → ClassId} {tys : List (ClassId × FieldType)} {n : Nat} {sa : Nat → Nat} (hn : 42 ≤ n) {N : Nat} {g : Mem} {a1 : Int32} {r : Int32} {g1 : Mem} (h : X3_isLetter N a1 g = some (r, g1)) : CTi l yX3_isLetter (wsm yX3_isLetter cX3_isLetter 1 (some .boolean)) 1 D YI ad cA tys n sa g [.int a1] r g1 := by
  refine ct_of RX3 rfl (by decide +kernel) (Nat.le_of_ble_eq_true rfl) rfl (fun sz => PBi D YI ad cA n r g1 sz) ?_
  intro p e R s m args below meth c C hr
  rw [X3_isLetter] at h
  refine ww_iload_n C 0 dX3_isLetter_0 rfl rfl 1 rfl ?_
  refine ww_bipush C (97 : Int32) dX3_isLetter_1 (by decide) 3 rfl ?_
  refine ww_icmp_lt C 16 dX3_isLetter_3 (by decide) h 6 rfl (fun h => ?_) (fun h => ?_)
  · refine ww_iconst C (0 : Int32) dX3_isLetter_16 (by decide) 17 rfl ?_
    exact ww_zret C dX3_isLetter_17 hr rfl h
  · refine ww_iload_n C 0 dX3_isLetter_6 rfl rfl 7 rfl ?_
    refine ww_bipush C (122 : Int32) dX3_isLetter_7 (by decide) 9 rfl ?_
    refine ww_icmp_gt C 16 dX3_isLetter_9 (by decide) h 12 rfl (fun h => ?_) (fun h => ?_)
    · refine ww_iconst C (0 : Int32) dX3_isLetter_16 (by decide) 17 rfl ?_
      exact ww_zret C dX3_isLetter_17 hr rfl h
    · refine ww_iconst C (1 : Int32) dX3_isLetter_12 (by decide) 13 rfl ?_
      refine ww_goto C 17 dX3_isLetter_13 (by decide) ?_
      exact ww_zret C dX3_isLetter_17 hr rfl h

set_option maxRecDepth 100000 in
set_option maxHeartbeats 4000000 in
theorem k_X3_isDigit {l : Launch} {D : va_G} {ad : Nat → Nat} {cA : Nat → ClassId} {tys : List (ClassId × FieldType)} {n : Nat} {sa : Nat → Nat} (hn : 42 ≤ n) {N : Nat} {g : Mem} {a1 : Int32} {r : Int32} {g1 : Mem} (h : X3_isDigit N a1 g = some (r, g1)) : CTi l yX3_isDigit (wsm yX3_isDigit cX3_isDigit 1 (some .boolean)) 1 D YI ad cA tys n sa g [.int a1] r g1 := by
  refine ct_of RX3 rfl (by decide +kernel) (Nat.le_of_ble_eq_true rfl) rfl (fun sz => PBi D YI ad cA n r g1 sz) ?_
  intro p e R s m args below meth c C hr
  rw [X3_isDigit] at h
  refine ww_iload_n C 0 dX3_isDigit_0 rfl rfl 1 rfl ?_
  refine ww_bipush C (48 : Int32) dX3_isDigit_1 (by decide) 3 rfl ?_
  refine ww_icmp_lt C 16 dX3_isDigit_3 (by decide) h 6 rfl (fun h => ?_) (fun h => ?_)
  · refine ww_iconst C (0 : Int32) dX3_isDigit_16 (by decide) 17 rfl ?_
    exact ww_zret C dX3_isDigit_17 hr rfl h
  · refine ww_iload_n C 0 dX3_isDigit_6 rfl rfl 7 rfl ?_
    refine ww_bipush C (57 : Int32) dX3_isDigit_7 (by decide) 9 rfl ?_
    refine ww_icmp_gt C 16 dX3_isDigit_9 (by decide) h 12 rfl (fun h => ?_) (fun h => ?_)
    · refine ww_iconst C (0 : Int32) dX3_isDigit_16 (by decide) 17 rfl ?_
      exact ww_zret C dX3_isDigit_17 hr rfl h
    · refine ww_iconst C (1 : Int32) dX3_isDigit_12 (by decide) 13 rfl ?_
      refine ww_goto C 17 dX3_isDigit_13 (by decide) ?_
      exact ww_zret C dX3_isDigit_17 hr rfl h

set_option maxRecDepth 100000 in
set_option maxHeartbeats 4000000 in
theorem k_X3_nextNumber {l : Launch} {D : va_G} {ad : Nat → Nat} {cA : Nat → ClassId} {tys : List (ClassId × FieldType)} {n : Nat} {sa : Nat → Nat} (hn : 42 ≤ n) {N : Nat} {g : Mem} {r : Int32} {g1 : Mem} (h : X3_nextNumber N g = some (r, g1)) : CTv l yX3_nextNumber (wsm yX3_nextNumber cX3_nextNumber 1 none) 2 D YI ad cA tys n sa g [.ref (ad 0)] g1 := by
  refine ct_of RX3 rfl (by decide +kernel) (Nat.le_of_ble_eq_true rfl) rfl (fun sz => PBv D YI ad cA n g1 sz) ?_
  intro p e R s m args below meth c C hr
  have L5h : ∀ (fu : Nat), (∀ (g : Mem), X3_nextNumber_L5 N fu g = some (r, g1) → WW p l e R s m args below meth c 1 D YI ad cA n (MQ below (PBv D YI ad cA n g1 s.heap.size) args s 0 0 (AA n ad s.heap.size)) g 5 [(0, .ref (ad 0))] []) := by
    intro fu
    induction fu with
    | zero => intro g h; cases h
    | succ fu ih =>
      intro g h
      rw [X3_nextNumber_L5] at h
      refine ww_aload_n C 0 dX3_nextNumber_5 rfl rfl 6 rfl ?_
      refine ww_getI C cl_X3 (obTape hn) 2 (by decide) rfl w_92 dX3_nextNumber_6 9 rfl ?_
      refine ww_aload_n C 0 dX3_nextNumber_9 rfl rfl 10 rfl ?_
      refine ww_getI C cl_X3 (obTape hn) 1 (by decide) rfl w_90 dX3_nextNumber_10 13 rfl ?_
      refine ww_icmp_ge C 68 dX3_nextNumber_13 (by decide) h 16 rfl (fun h => ?_) (fun h => ?_)
      · refine ww_aload_n C 0 dX3_nextNumber_68 rfl rfl 69 rfl ?_
        refine ww_aload_n C 0 dX3_nextNumber_69 rfl rfl 70 rfl ?_
        refine ww_getI C cl_X3 (obTape hn) 2 (by decide) rfl w_92 dX3_nextNumber_70 73 rfl ?_
        refine ww_aload_n C 0 dX3_nextNumber_73 rfl rfl 74 rfl ?_
        refine ww_getI C cl_X3 (obTape hn) 3 (by decide) rfl w_93 dX3_nextNumber_74 77 rfl ?_
        refine ww_isub C dX3_nextNumber_77 78 rfl ?_
        refine ww_iconst C (4 : Int32) dX3_nextNumber_78 (by decide) 79 rfl ?_
        refine ww_icmp_le C 88 dX3_nextNumber_79 (by decide) h 82 rfl (fun h => ?_) (fun h => ?_)
        · refine ww_sipush C (258 : Int32) dX3_nextNumber_88 (by decide) 91 rfl ?_
          refine ww_putI C cl_X3 (obTape hn) 4 (by decide) rfl tyX3 tyX3_ok nmX3 rfl rfl rfl w_94 dX3_nextNumber_91 h 94 rfl (fun u10 h => ?_)
          exact ww_vret C dX3_nextNumber_94 hr h
        · refine ww_sipush C (257 : Int32) dX3_nextNumber_82 (by decide) 85 rfl ?_
          refine ww_goto C 91 dX3_nextNumber_85 (by decide) ?_
          refine ww_putI C cl_X3 (obTape hn) 4 (by decide) rfl tyX3 tyX3_ok nmX3 rfl rfl rfl w_94 dX3_nextNumber_91 h 94 rfl (fun u11 h => ?_)
          exact ww_vret C dX3_nextNumber_94 hr h
      · refine ww_aload_n C 0 dX3_nextNumber_16 rfl rfl 17 rfl ?_
        refine ww_getS C cl_X3 (obTape hn) 0 (by decide) rfl 1 rfl w_89 dX3_nextNumber_17 20 rfl ?_
        refine ww_aload_n C 0 dX3_nextNumber_20 rfl rfl 21 rfl ?_
        refine ww_getI C cl_X3 (obTape hn) 2 (by decide) rfl w_92 dX3_nextNumber_21 24 rfl ?_
        refine ww_iald C (iaTape hn) dX3_nextNumber_24 h 25 rfl (fun h => ?_)
        refine ww_callSi C (As := [.int (g.1 1 (g.1 0 2).toNatClampNeg)]) (st := []) h (fun _ _ hF => k_X3_isDigit hn hF) w_244 cm_X3_isDigit (by decide) (by decide) rfl rfl (Nat.le_of_ble_eq_true rfl) dX3_nextNumber_25 28 rfl (fun v13 u12 h => ?_)
        refine ww_if_eq C 68 dX3_nextNumber_28 (by decide) h 31 rfl (fun h => ?_) (fun h => ?_)
        · refine ww_aload_n C 0 dX3_nextNumber_68 rfl rfl 69 rfl ?_
          refine ww_aload_n C 0 dX3_nextNumber_69 rfl rfl 70 rfl ?_
          refine ww_getI C cl_X3 (obTape hn) 2 (by decide) rfl w_92 dX3_nextNumber_70 73 rfl ?_
          refine ww_aload_n C 0 dX3_nextNumber_73 rfl rfl 74 rfl ?_
          refine ww_getI C cl_X3 (obTape hn) 3 (by decide) rfl w_93 dX3_nextNumber_74 77 rfl ?_
          refine ww_isub C dX3_nextNumber_77 78 rfl ?_
          refine ww_iconst C (4 : Int32) dX3_nextNumber_78 (by decide) 79 rfl ?_
          refine ww_icmp_le C 88 dX3_nextNumber_79 (by decide) h 82 rfl (fun h => ?_) (fun h => ?_)
          · refine ww_sipush C (258 : Int32) dX3_nextNumber_88 (by decide) 91 rfl ?_
            refine ww_putI C cl_X3 (obTape hn) 4 (by decide) rfl tyX3 tyX3_ok nmX3 rfl rfl rfl w_94 dX3_nextNumber_91 h 94 rfl (fun u14 h => ?_)
            exact ww_vret C dX3_nextNumber_94 hr h
          · refine ww_sipush C (257 : Int32) dX3_nextNumber_82 (by decide) 85 rfl ?_
            refine ww_goto C 91 dX3_nextNumber_85 (by decide) ?_
            refine ww_putI C cl_X3 (obTape hn) 4 (by decide) rfl tyX3 tyX3_ok nmX3 rfl rfl rfl w_94 dX3_nextNumber_91 h 94 rfl (fun u15 h => ?_)
            exact ww_vret C dX3_nextNumber_94 hr h
        · refine ww_aload_n C 0 dX3_nextNumber_31 rfl rfl 32 rfl ?_
          refine ww_aload_n C 0 dX3_nextNumber_32 rfl rfl 33 rfl ?_
          refine ww_getI C cl_X3 (obTape hn) 5 (by decide) rfl w_95 dX3_nextNumber_33 36 rfl ?_
          refine ww_bipush C (10 : Int32) dX3_nextNumber_36 (by decide) 38 rfl ?_
          refine ww_imul C dX3_nextNumber_38 39 rfl ?_
          refine ww_aload_n C 0 dX3_nextNumber_39 rfl rfl 40 rfl ?_
          refine ww_getS C cl_X3 (obTape hn) 0 (by decide) rfl 1 rfl w_89 dX3_nextNumber_40 43 rfl ?_
          refine ww_aload_n C 0 dX3_nextNumber_43 rfl rfl 44 rfl ?_
          refine ww_getI C cl_X3 (obTape hn) 2 (by decide) rfl w_92 dX3_nextNumber_44 47 rfl ?_
          refine ww_iald C (iaTape hn) dX3_nextNumber_47 h 48 rfl (fun h => ?_)
          refine ww_iadd C dX3_nextNumber_48 49 rfl ?_
          refine ww_bipush C (48 : Int32) dX3_nextNumber_49 (by decide) 51 rfl ?_
          refine ww_isub C dX3_nextNumber_51 52 rfl ?_
          refine ww_putI C cl_X3 (obTape hn) 5 (by decide) rfl tyX3 tyX3_ok nmX3 rfl rfl rfl w_95 dX3_nextNumber_52 h 55 rfl (fun u16 h => ?_)
          refine ww_aload_n C 0 dX3_nextNumber_55 rfl rfl 56 rfl ?_
          refine ww_dup C dX3_nextNumber_56 rfl 57 rfl ?_
          refine ww_getI C cl_X3 (obTape hn) 2 (by decide) rfl w_92 dX3_nextNumber_57 60 rfl ?_
          refine ww_iconst C (1 : Int32) dX3_nextNumber_60 (by decide) 61 rfl ?_
          refine ww_iadd C dX3_nextNumber_61 62 rfl ?_
          refine ww_putI C cl_X3 (obTape hn) 2 (by decide) rfl tyX3 tyX3_ok nmX3 rfl rfl rfl w_92 dX3_nextNumber_62 h 65 rfl (fun u17 h => ?_)
          refine ww_goto C 5 dX3_nextNumber_65 (by decide) ?_
          exact ww_sub [0] rfl (ih _ h)
  rw [X3_nextNumber] at h
  refine ww_aload_n C 0 dX3_nextNumber_0 rfl rfl 1 rfl ?_
  refine ww_iconst C (0 : Int32) dX3_nextNumber_1 (by decide) 2 rfl ?_
  refine ww_putI C cl_X3 (obTape hn) 5 (by decide) rfl tyX3 tyX3_ok nmX3 rfl rfl rfl w_95 dX3_nextNumber_2 h 5 rfl (fun u18 h => ?_)
  exact ww_sub [0] rfl (L5h N _ h)

set_option maxRecDepth 100000 in
set_option maxHeartbeats 4000000 in
theorem k_X3_isSign {l : Launch} {D : va_G} {ad : Nat → Nat} {cA : Nat → ClassId} {tys : List (ClassId × FieldType)} {n : Nat} {sa : Nat → Nat} (hn : 42 ≤ n) {N : Nat} {g : Mem} {a1 : Int32} {r : Int32} {g1 : Mem} (h : X3_isSign N a1 g = some (r, g1)) : CTi l yX3_isSign (wsm yX3_isSign cX3_isSign 1 (some .boolean)) 1 D YI ad cA tys n sa g [.int a1] r g1 := by
  refine ct_of RX3 rfl (by decide +kernel) (Nat.le_of_ble_eq_true rfl) rfl (fun sz => PBi D YI ad cA n r g1 sz) ?_
  intro p e R s m args below meth c C hr
  rw [X3_isSign] at h
  refine ww_iload_n C 0 dX3_isSign_0 rfl rfl 1 rfl ?_
  refine ww_bipush C (40 : Int32) dX3_isSign_1 (by decide) 3 rfl ?_
  refine ww_icmp_lt C 18 dX3_isSign_3 (by decide) h 6 rfl (fun h => ?_) (fun h => ?_)
  · refine ww_iload_n C 0 dX3_isSign_18 rfl rfl 19 rfl ?_
    refine ww_bipush C (59 : Int32) dX3_isSign_19 (by decide) 21 rfl ?_
    refine ww_icmp_eq C 36 dX3_isSign_21 (by decide) h 24 rfl (fun h => ?_) (fun h => ?_)
    · refine ww_iconst C (1 : Int32) dX3_isSign_36 (by decide) 37 rfl ?_
      refine ww_goto C 41 dX3_isSign_37 (by decide) ?_
      exact ww_zret C dX3_isSign_41 hr rfl h
    · refine ww_iload_n C 0 dX3_isSign_24 rfl rfl 25 rfl ?_
      refine ww_bipush C (60 : Int32) dX3_isSign_25 (by decide) 27 rfl ?_
      refine ww_icmp_eq C 36 dX3_isSign_27 (by decide) h 30 rfl (fun h => ?_) (fun h => ?_)
      · refine ww_iconst C (1 : Int32) dX3_isSign_36 (by decide) 37 rfl ?_
        refine ww_goto C 41 dX3_isSign_37 (by decide) ?_
        exact ww_zret C dX3_isSign_41 hr rfl h
      · refine ww_iload_n C 0 dX3_isSign_30 rfl rfl 31 rfl ?_
        refine ww_bipush C (61 : Int32) dX3_isSign_31 (by decide) 33 rfl ?_
        refine ww_icmp_ne C 40 dX3_isSign_33 (by decide) h 36 rfl (fun h => ?_) (fun h => ?_)
        · refine ww_iconst C (0 : Int32) dX3_isSign_40 (by decide) 41 rfl ?_
          exact ww_zret C dX3_isSign_41 hr rfl h
        · refine ww_iconst C (1 : Int32) dX3_isSign_36 (by decide) 37 rfl ?_
          refine ww_goto C 41 dX3_isSign_37 (by decide) ?_
          exact ww_zret C dX3_isSign_41 hr rfl h
  · refine ww_iload_n C 0 dX3_isSign_6 rfl rfl 7 rfl ?_
    refine ww_bipush C (45 : Int32) dX3_isSign_7 (by decide) 9 rfl ?_
    refine ww_icmp_gt C 18 dX3_isSign_9 (by decide) h 12 rfl (fun h => ?_) (fun h => ?_)
    · refine ww_iload_n C 0 dX3_isSign_18 rfl rfl 19 rfl ?_
      refine ww_bipush C (59 : Int32) dX3_isSign_19 (by decide) 21 rfl ?_
      refine ww_icmp_eq C 36 dX3_isSign_21 (by decide) h 24 rfl (fun h => ?_) (fun h => ?_)
      · refine ww_iconst C (1 : Int32) dX3_isSign_36 (by decide) 37 rfl ?_
        refine ww_goto C 41 dX3_isSign_37 (by decide) ?_
        exact ww_zret C dX3_isSign_41 hr rfl h
      · refine ww_iload_n C 0 dX3_isSign_24 rfl rfl 25 rfl ?_
        refine ww_bipush C (60 : Int32) dX3_isSign_25 (by decide) 27 rfl ?_
        refine ww_icmp_eq C 36 dX3_isSign_27 (by decide) h 30 rfl (fun h => ?_) (fun h => ?_)
        · refine ww_iconst C (1 : Int32) dX3_isSign_36 (by decide) 37 rfl ?_
          refine ww_goto C 41 dX3_isSign_37 (by decide) ?_
          exact ww_zret C dX3_isSign_41 hr rfl h
        · refine ww_iload_n C 0 dX3_isSign_30 rfl rfl 31 rfl ?_
          refine ww_bipush C (61 : Int32) dX3_isSign_31 (by decide) 33 rfl ?_
          refine ww_icmp_ne C 40 dX3_isSign_33 (by decide) h 36 rfl (fun h => ?_) (fun h => ?_)
          · refine ww_iconst C (0 : Int32) dX3_isSign_40 (by decide) 41 rfl ?_
            exact ww_zret C dX3_isSign_41 hr rfl h
          · refine ww_iconst C (1 : Int32) dX3_isSign_36 (by decide) 37 rfl ?_
            refine ww_goto C 41 dX3_isSign_37 (by decide) ?_
            exact ww_zret C dX3_isSign_41 hr rfl h
    · refine ww_iload_n C 0 dX3_isSign_12 rfl rfl 13 rfl ?_
      refine ww_bipush C (44 : Int32) dX3_isSign_13 (by decide) 15 rfl ?_
      refine ww_icmp_ne C 36 dX3_isSign_15 (by decide) h 18 rfl (fun h => ?_) (fun h => ?_)
      · refine ww_iconst C (1 : Int32) dX3_isSign_36 (by decide) 37 rfl ?_
        refine ww_goto C 41 dX3_isSign_37 (by decide) ?_
        exact ww_zret C dX3_isSign_41 hr rfl h
      · refine ww_iload_n C 0 dX3_isSign_18 rfl rfl 19 rfl ?_
        refine ww_bipush C (59 : Int32) dX3_isSign_19 (by decide) 21 rfl ?_
        refine ww_icmp_eq C 36 dX3_isSign_21 (by decide) h 24 rfl (fun h => ?_) (fun h => ?_)
        · refine ww_iconst C (1 : Int32) dX3_isSign_36 (by decide) 37 rfl ?_
          refine ww_goto C 41 dX3_isSign_37 (by decide) ?_
          exact ww_zret C dX3_isSign_41 hr rfl h
        · refine ww_iload_n C 0 dX3_isSign_24 rfl rfl 25 rfl ?_
          refine ww_bipush C (60 : Int32) dX3_isSign_25 (by decide) 27 rfl ?_
          refine ww_icmp_eq C 36 dX3_isSign_27 (by decide) h 30 rfl (fun h => ?_) (fun h => ?_)
          · refine ww_iconst C (1 : Int32) dX3_isSign_36 (by decide) 37 rfl ?_
            refine ww_goto C 41 dX3_isSign_37 (by decide) ?_
            exact ww_zret C dX3_isSign_41 hr rfl h
          · refine ww_iload_n C 0 dX3_isSign_30 rfl rfl 31 rfl ?_
            refine ww_bipush C (61 : Int32) dX3_isSign_31 (by decide) 33 rfl ?_
            refine ww_icmp_ne C 40 dX3_isSign_33 (by decide) h 36 rfl (fun h => ?_) (fun h => ?_)
            · refine ww_iconst C (0 : Int32) dX3_isSign_40 (by decide) 41 rfl ?_
              exact ww_zret C dX3_isSign_41 hr rfl h
            · refine ww_iconst C (1 : Int32) dX3_isSign_36 (by decide) 37 rfl ?_
              refine ww_goto C 41 dX3_isSign_37 (by decide) ?_
              exact ww_zret C dX3_isSign_41 hr rfl h

set_option maxRecDepth 100000 in
set_option maxHeartbeats 4000000 in
theorem k_X4_add {l : Launch} {D : va_G} {ad : Nat → Nat} {cA : Nat → ClassId} {tys : List (ClassId × FieldType)} {n : Nat} {sa : Nat → Nat} (hn : 42 ≤ n) {N : Nat} {g : Mem} {b : Nat} (hb : isText b) {a1 : Int32} {r : Int32} {g1 : Mem} (h : X4_add N b a1 g = some (r, g1)) : CTv l yX4_add (wsm yX4_add cX4_add 2 none) 1 D YI ad cA tys n sa g [.ref (ad b), .int a1] g1 := by
  refine ct_of RX4 rfl (by decide +kernel) (Nat.le_of_ble_eq_true rfl) rfl (fun sz => PBv D YI ad cA n g1 sz) ?_
  intro p e R s m args below meth c C hr
  rw [X4_add] at h
  refine ww_aload_n C 0 dX4_add_0 rfl rfl 1 rfl ?_
  refine ww_getI C cl_X4 (obText hb hn) 2 (by decide) rfl w_125 dX4_add_1 4 rfl ?_
  refine ww_aload_n C 0 dX4_add_4 rfl rfl 5 rfl ?_
  refine ww_getS C cl_X4 (obText hb hn) 1 (by decide) rfl (b + 1) (so_text hb 1 1 (by decide)) w_124 dX4_add_5 8 rfl ?_
  refine ww_alen C (iaText (q := b) hb hn 1 160 (by decide)) (160 : Int32) (by decide) dX4_add_8 9 rfl ?_
  refine ww_icmp_ge C 32 dX4_add_9 (by decide) h 12 rfl (fun h => ?_) (fun h => ?_)
  · exact ww_vret C dX4_add_32 hr h
  · refine ww_aload_n C 0 dX4_add_12 rfl rfl 13 rfl ?_
    refine ww_getS C cl_X4 (obText hb hn) 1 (by decide) rfl (b + 1) (so_text hb 1 1 (by decide)) w_124 dX4_add_13 16 rfl ?_
    refine ww_aload_n C 0 dX4_add_16 rfl rfl 17 rfl ?_
    refine ww_getI C cl_X4 (obText hb hn) 2 (by decide) rfl w_125 dX4_add_17 20 rfl ?_
    refine ww_iload_n C 1 dX4_add_20 rfl rfl 21 rfl ?_
    refine ww_iast C (iaText (q := b) hb hn 1 160 (by decide)) dX4_add_21 h 22 rfl (fun u3 h => ?_)
    refine ww_aload_n C 0 dX4_add_22 rfl rfl 23 rfl ?_
    refine ww_dup C dX4_add_23 rfl 24 rfl ?_
    refine ww_getI C cl_X4 (obText hb hn) 2 (by decide) rfl w_125 dX4_add_24 27 rfl ?_
    refine ww_iconst C (1 : Int32) dX4_add_27 (by decide) 28 rfl ?_
    refine ww_iadd C dX4_add_28 29 rfl ?_
    refine ww_putI C cl_X4 (obText hb hn) 2 (by decide) rfl tyX4 tyX4_ok nmX4 rfl rfl rfl w_125 dX4_add_29 h 32 rfl (fun u4 h => ?_)
    exact ww_vret C dX4_add_32 hr h

set_option maxRecDepth 100000 in
set_option maxHeartbeats 4000000 in
theorem k_X4_endPart {l : Launch} {D : va_G} {ad : Nat → Nat} {cA : Nat → ClassId} {tys : List (ClassId × FieldType)} {n : Nat} {sa : Nat → Nat} (hn : 42 ≤ n) {N : Nat} {g : Mem} {b : Nat} (hb : isText b) {a1 : Int32} {r : Int32} {g1 : Mem} (h : X4_endPart N b a1 g = some (r, g1)) : CTv l yX4_endPart (wsm yX4_endPart cX4_endPart 2 none) 1 D YI ad cA tys n sa g [.ref (ad b), .int a1] g1 := by
  refine ct_of RX4 rfl (by decide +kernel) (Nat.le_of_ble_eq_true rfl) rfl (fun sz => PBv D YI ad cA n g1 sz) ?_
  intro p e R s m args below meth c C hr
  rw [X4_endPart] at h
  refine ww_iload_n C 1 dX4_endPart_0 rfl rfl 1 rfl ?_
  refine ww_if_lt C 19 dX4_endPart_1 (by decide) h 4 rfl (fun h => ?_) (fun h => ?_)
  · exact ww_vret C dX4_endPart_19 hr h
  · refine ww_iload_n C 1 dX4_endPart_4 rfl rfl 5 rfl ?_
    refine ww_iconst C (3 : Int32) dX4_endPart_5 (by decide) 6 rfl ?_
    refine ww_icmp_ge C 19 dX4_endPart_6 (by decide) h 9 rfl (fun h => ?_) (fun h => ?_)
    · exact ww_vret C dX4_endPart_19 hr h
    · refine ww_aload_n C 0 dX4_endPart_9 rfl rfl 10 rfl ?_
      refine ww_getS C cl_X4 (obText hb hn) 3 (by decide) rfl (b + 2) (so_text hb 3 2 (by decide)) w_126 dX4_endPart_10 13 rfl ?_
      refine ww_iload_n C 1 dX4_endPart_13 rfl rfl 14 rfl ?_
      refine ww_aload_n C 0 dX4_endPart_14 rfl rfl 15 rfl ?_
      refine ww_getI C cl_X4 (obText hb hn) 2 (by decide) rfl w_125 dX4_endPart_15 18 rfl ?_
      refine ww_iast C (iaText (q := b) hb hn 2 3 (by decide)) dX4_endPart_18 h 19 rfl (fun u2 h => ?_)
      exact ww_vret C dX4_endPart_19 hr h

set_option maxRecDepth 100000 in
set_option maxHeartbeats 4000000 in
theorem k_X3_clear {l : Launch} {D : va_G} {ad : Nat → Nat} {cA : Nat → ClassId} {tys : List (ClassId × FieldType)} {n : Nat} {sa : Nat → Nat} (hn : 42 ≤ n) {N : Nat} {g : Mem} {r : Int32} {g1 : Mem} (h : X3_clear N g = some (r, g1)) : CTv l yX3_clear (wsm yX3_clear cX3_clear 1 none) 1 D YI ad cA tys n sa g [.ref (ad 0)] g1 := by
  refine ct_of RX3 rfl (by decide +kernel) (Nat.le_of_ble_eq_true rfl) rfl (fun sz => PBv D YI ad cA n g1 sz) ?_
  intro p e R s m args below meth c C hr
  rw [X3_clear] at h
  refine ww_aload_n C 0 dX3_clear_0 rfl rfl 1 rfl ?_
  refine ww_iconst C (0 : Int32) dX3_clear_1 (by decide) 2 rfl ?_
  refine ww_putI C cl_X3 (obTape hn) 1 (by decide) rfl tyX3 tyX3_ok nmX3 rfl rfl rfl w_90 dX3_clear_2 h 5 rfl (fun u2 h => ?_)
  exact ww_vret C dX3_clear_5 hr h

set_option maxRecDepth 100000 in
set_option maxHeartbeats 4000000 in
theorem k_X3_isName {l : Launch} {D : va_G} {ad : Nat → Nat} {cA : Nat → ClassId} {tys : List (ClassId × FieldType)} {n : Nat} {sa : Nat → Nat} (hn : 42 ≤ n) {N : Nat} {g : Mem} {a1 : Int32} {r : Int32} {g1 : Mem} (h : X3_isName N a1 g = some (r, g1)) : CTi l yX3_isName (wsm yX3_isName cX3_isName 1 (some .boolean)) 1 D YI ad cA tys n sa g [.int a1] r g1 := by
  refine ct_of RX3 rfl (by decide +kernel) (Nat.le_of_ble_eq_true rfl) rfl (fun sz => PBi D YI ad cA n r g1 sz) ?_
  intro p e R s m args below meth c C hr
  rw [X3_isName] at h
  refine ww_iload_n C 0 dX3_isName_0 rfl rfl 1 rfl ?_
  refine ww_sipush C (266 : Int32) dX3_isName_1 (by decide) 4 rfl ?_
  refine ww_icmp_lt C 18 dX3_isName_4 (by decide) h 7 rfl (fun h => ?_) (fun h => ?_)
  · refine ww_iconst C (0 : Int32) dX3_isName_18 (by decide) 19 rfl ?_
    exact ww_zret C dX3_isName_19 hr rfl h
  · refine ww_iload_n C 0 dX3_isName_7 rfl rfl 8 rfl ?_
    refine ww_sipush C (272 : Int32) dX3_isName_8 (by decide) 11 rfl ?_
    refine ww_icmp_ge C 18 dX3_isName_11 (by decide) h 14 rfl (fun h => ?_) (fun h => ?_)
    · refine ww_iconst C (0 : Int32) dX3_isName_18 (by decide) 19 rfl ?_
      exact ww_zret C dX3_isName_19 hr rfl h
    · refine ww_iconst C (1 : Int32) dX3_isName_14 (by decide) 15 rfl ?_
      refine ww_goto C 19 dX3_isName_15 (by decide) ?_
      exact ww_zret C dX3_isName_19 hr rfl h

set_option maxRecDepth 100000 in
set_option maxHeartbeats 4000000 in
theorem k_X4_joined {l : Launch} {D : va_G} {ad : Nat → Nat} {cA : Nat → ClassId} {tys : List (ClassId × FieldType)} {n : Nat} {sa : Nat → Nat} (hn : 42 ≤ n) {N : Nat} {g : Mem} {a1 : Int32} {a2 : Int32} {a3 : Int32} {r : Int32} {g1 : Mem} (h : X4_joined N a1 a2 a3 g = some (r, g1)) : CTi l yX4_joined (wsm yX4_joined cX4_joined 3 (some .int)) 1 D YI ad cA tys n sa g [.int a1, .int a2, .int a3] r g1 := by
  refine ct_of RX4 rfl (by decide +kernel) (Nat.le_of_ble_eq_true rfl) rfl (fun sz => PBi D YI ad cA n r g1 sz) ?_
  intro p e R s m args below meth c C hr
  rw [X4_joined] at h
  refine ww_iload_n C 0 dX4_joined_0 rfl rfl 1 rfl ?_
  refine sw_1 h (fun e13 h => ?_) (fun n14 h => ?_)
  · refine ww_look C 68 dX4_joined_1 rfl (by first | (rw [e13]; done) | (rw [e13]; rfl)) (by decide) ?_
    refine ww_iload_n C 1 dX4_joined_68 rfl rfl 69 rfl ?_
    refine ww_iload_n C 2 dX4_joined_69 rfl rfl 70 rfl ?_
    refine ww_imul C dX4_joined_70 71 rfl ?_
    exact ww_iret C dX4_joined_71 hr h
  refine sw_1 h (fun e15 h => ?_) (fun n16 h => ?_)
  · refine ww_look C 60 dX4_joined_1 rfl (by first | (rw [e15]; done) | (rw [e15]; rfl)) (by decide) ?_
    refine ww_iload_n C 1 dX4_joined_60 rfl rfl 61 rfl ?_
    refine ww_iload_n C 2 dX4_joined_61 rfl rfl 62 rfl ?_
    refine ww_iadd C dX4_joined_62 63 rfl ?_
    exact ww_iret C dX4_joined_63 hr h
  refine sw_1 h (fun e17 h => ?_) (fun n18 h => ?_)
  · refine ww_look C 64 dX4_joined_1 rfl (by first | (rw [e17]; done) | (rw [e17]; rfl)) (by decide) ?_
    refine ww_iload_n C 1 dX4_joined_64 rfl rfl 65 rfl ?_
    refine ww_iload_n C 2 dX4_joined_65 rfl rfl 66 rfl ?_
    refine ww_isub C dX4_joined_66 67 rfl ?_
    exact ww_iret C dX4_joined_67 hr h
  refine sw_1 h (fun e19 h => ?_) (fun n20 h => ?_)
  · refine ww_look C 72 dX4_joined_1 rfl (by first | (rw [e19]; done) | (rw [e19]; rfl)) (by decide) ?_
    refine ww_iload_n C 1 dX4_joined_72 rfl rfl 73 rfl ?_
    refine ww_iload_n C 2 dX4_joined_73 rfl rfl 74 rfl ?_
    refine ww_icmp_ge C 81 dX4_joined_74 (by decide) h 77 rfl (fun h => ?_) (fun h => ?_)
    · refine ww_iconst C (0 : Int32) dX4_joined_81 (by decide) 82 rfl ?_
      exact ww_iret C dX4_joined_82 hr h
    · refine ww_iconst C (1 : Int32) dX4_joined_77 (by decide) 78 rfl ?_
      refine ww_goto C 82 dX4_joined_78 (by decide) ?_
      exact ww_iret C dX4_joined_82 hr h
  refine sw_1 h (fun e21 h => ?_) (fun n22 h => ?_)
  · refine ww_look C 83 dX4_joined_1 rfl (by first | (rw [e21]; done) | (rw [e21]; rfl)) (by decide) ?_
    refine ww_iload_n C 1 dX4_joined_83 rfl rfl 84 rfl ?_
    refine ww_iload_n C 2 dX4_joined_84 rfl rfl 85 rfl ?_
    refine ww_icmp_ne C 92 dX4_joined_85 (by decide) h 88 rfl (fun h => ?_) (fun h => ?_)
    · refine ww_iconst C (0 : Int32) dX4_joined_92 (by decide) 93 rfl ?_
      exact ww_iret C dX4_joined_93 hr h
    · refine ww_iconst C (1 : Int32) dX4_joined_88 (by decide) 89 rfl ?_
      refine ww_goto C 93 dX4_joined_89 (by decide) ?_
      exact ww_iret C dX4_joined_93 hr h
  refine sw_1 h (fun e23 h => ?_) (fun n24 h => ?_)
  · refine ww_look C 94 dX4_joined_1 rfl (by first | (rw [e23]; done) | (rw [e23]; rfl)) (by decide) ?_
    refine ww_iload_n C 1 dX4_joined_94 rfl rfl 95 rfl ?_
    refine ww_if_eq C 106 dX4_joined_95 (by decide) h 98 rfl (fun h => ?_) (fun h => ?_)
    · refine ww_iconst C (0 : Int32) dX4_joined_106 (by decide) 107 rfl ?_
      exact ww_iret C dX4_joined_107 hr h
    · refine ww_iload_n C 2 dX4_joined_98 rfl rfl 99 rfl ?_
      refine ww_if_eq C 106 dX4_joined_99 (by decide) h 102 rfl (fun h => ?_) (fun h => ?_)
      · refine ww_iconst C (0 : Int32) dX4_joined_106 (by decide) 107 rfl ?_
        exact ww_iret C dX4_joined_107 hr h
      · refine ww_iconst C (1 : Int32) dX4_joined_102 (by decide) 103 rfl ?_
        refine ww_goto C 107 dX4_joined_103 (by decide) ?_
        exact ww_iret C dX4_joined_107 hr h
  refine ww_look (off := 107) C 108 dX4_joined_1 rfl (by have q0 := sw_ne (z := 42) n14 rfl; have q1 := sw_ne (z := 43) n16 rfl; have q2 := sw_ne (z := 45) n18 rfl; have q3 := sw_ne (z := 60) n20 rfl; have q4 := sw_ne (z := 61) n22 rfl; have q5 := sw_ne (z := 263) n24 rfl; simp [Op.lookupswitch.offset, Ne.symm, q0, q0.symm, q1, q1.symm, q2, q2.symm, q3, q3.symm, q4, q4.symm, q5, q5.symm]) (by decide) ?_
  refine ww_iload_n C 1 dX4_joined_108 rfl rfl 109 rfl ?_
  refine ww_if_ne C 116 dX4_joined_109 (by decide) h 112 rfl (fun h => ?_) (fun h => ?_)
  · refine ww_iconst C (1 : Int32) dX4_joined_116 (by decide) 117 rfl ?_
    refine ww_goto C 121 dX4_joined_117 (by decide) ?_
    exact ww_iret C dX4_joined_121 hr h
  · refine ww_iload_n C 2 dX4_joined_112 rfl rfl 113 rfl ?_
    refine ww_if_eq C 120 dX4_joined_113 (by decide) h 116 rfl (fun h => ?_) (fun h => ?_)
    · refine ww_iconst C (0 : Int32) dX4_joined_120 (by decide) 121 rfl ?_
      exact ww_iret C dX4_joined_121 hr h
    · refine ww_iconst C (1 : Int32) dX4_joined_116 (by decide) 117 rfl ?_
      refine ww_goto C 121 dX4_joined_117 (by decide) ?_
      exact ww_iret C dX4_joined_121 hr h

set_option maxRecDepth 100000 in
set_option maxHeartbeats 4000000 in
theorem k_X4_says {l : Launch} {D : va_G} {ad : Nat → Nat} {cA : Nat → ClassId} {tys : List (ClassId × FieldType)} {n : Nat} {sa : Nat → Nat} (hn : 42 ≤ n) {N : Nat} {g : Mem} {b : Nat} (hb : isText b) {a1 : Int32} {a2 : Int32} {a3 : Int32} {a4 : Int32} {a5 : Int32} {a6 : Int32} {a7 : Int32} {r : Int32} {g1 : Mem} (h : X4_says N b a1 a2 a3 a4 a5 a6 a7 g = some (r, g1)) : CTi l yX4_says (wsm yX4_says cX4_says 11 (some .int)) 2 D YI ad cA tys n sa g [.ref (ad b), .int a1, .int a2, .int a3, .int a4, .int a5, .int a6, .int a7] r g1 := by
  refine ct_of RX4 rfl (by decide +kernel) (Nat.le_of_ble_eq_true rfl) rfl (fun sz => PBi D YI ad cA n r g1 sz) ?_
  intro p e R s m args below meth c C hr
  have L78h : ∀ (fu : Nat), (∀ (x8 : Int32) (x9 : Int32) (g : Mem), X4_says_L78 N b a1 a2 a3 a4 a5 a6 a7 fu x8 x9 g = some (r, g1) → WW p l e R s m args below meth c 11 D YI ad cA n (MQ below (PBi D YI ad cA n r g1 s.heap.size) args s 0 0 (AA n ad s.heap.size)) g 78 [(0, .ref (ad b)), (1, .int a1), (2, .int a2), (3, .int a3), (4, .int a4), (5, .int a5), (6, .int a6), (7, .int a7), (8, .int x8), (9, .int x9)] []) := by
    intro fu
    induction fu with
    | zero => intro x8 x9 g h; cases h
    | succ fu ih =>
      intro x8 x9 g h
      rw [X4_says_L78] at h
      refine ww_iload C 9 dX4_says_78 rfl 80 rfl ?_
      refine ww_aload_n C 0 dX4_says_80 rfl rfl 81 rfl ?_
      refine ww_getS C cl_X4 (obText hb hn) 3 (by decide) rfl (b + 2) (so_text hb 3 2 (by decide)) w_126 dX4_says_81 84 rfl ?_
      refine ww_iload_n C 1 dX4_says_84 rfl rfl 85 rfl ?_
      refine ww_iald C (iaText (q := b) hb hn 2 3 (by decide)) dX4_says_85 h 86 rfl (fun h => ?_)
      refine ww_icmp_ge C 294 dX4_says_86 (by decide) h 89 rfl (fun h => ?_) (fun h => ?_)
      · refine ww_iconst C (0 : Int32) dX4_says_294 (by decide) 295 rfl ?_
        refine ww_bipush C (99 : Int32) dX4_says_295 (by decide) 297 rfl ?_
        refine ww_aload_n C 0 dX4_says_297 rfl rfl 298 rfl ?_
        refine ww_getS C cl_X4 (obText hb hn) 5 (by decide) rfl (b + 4) (so_text hb 5 4 (by decide)) w_128 dX4_says_298 301 rfl ?_
        refine ww_iconst C (0 : Int32) dX4_says_301 (by decide) 302 rfl ?_
        refine ww_iald C (iaText (q := b) hb hn 4 40 (by decide)) dX4_says_302 h 303 rfl (fun h => ?_)
        refine ww_min C w_470 wm_min (by decide) (Nat.le_of_ble_eq_true rfl) dX4_says_303 306 rfl ?_
        refine ww_max C w_473 wm_max (by decide) (Nat.le_of_ble_eq_true rfl) dX4_says_306 309 rfl ?_
        exact ww_iret C dX4_says_309 hr h
      · refine ww_aload_n C 0 dX4_says_89 rfl rfl 90 rfl ?_
        refine ww_getS C cl_X4 (obText hb hn) 1 (by decide) rfl (b + 1) (so_text hb 1 1 (by decide)) w_124 dX4_says_90 93 rfl ?_
        refine ww_iload C 9 dX4_says_93 rfl 95 rfl ?_
        refine ww_iald C (iaText (q := b) hb hn 1 160 (by decide)) dX4_says_95 h 96 rfl (fun h => ?_)
        refine ww_ineg C dX4_says_96 97 rfl ?_
        refine ww_bi h (fun v150 h => ?_)
        refine ww_istore C [(10, .int v150), (0, .ref (ad b)), (1, .int a1), (2, .int a2), (3, .int a3), (4, .int a4), (5, .int a5), (6, .int a6), (7, .int a7), (8, .int x8), (9, .int x9)] dX4_says_97 (by decide) rfl 99 rfl ?_
        refine ww_iload C 0 dX4_says_99 rfl 101 rfl ?_
        refine ww_if_gt C 130 dX4_says_101 (by decide) h 104 rfl (fun h => ?_) (fun h => ?_)
        · refine ww_iload C 0 dX4_says_130 rfl 132 rfl ?_
          refine ww_callSi C (As := [.int v150]) (st := []) h (fun _ _ hF => k_X3_isName hn hF) w_466 cm_X3_isName (by decide) (by decide) rfl rfl (Nat.le_of_ble_eq_true rfl) dX4_says_132 135 rfl (fun v152 u151 h => ?_)
          refine ww_if_eq C 172 dX4_says_135 (by decide) h 138 rfl (fun h => ?_) (fun h => ?_)
          · refine ww_iload C 0 dX4_says_172 rfl 174 rfl ?_
            refine ww_sipush C (265 : Int32) dX4_says_174 (by decide) 177 rfl ?_
            refine ww_icmp_ne C 214 dX4_says_177 (by decide) h 180 rfl (fun h => ?_) (fun h => ?_)
            · refine ww_iload C 0 dX4_says_214 rfl 216 rfl ?_
              refine ww_sipush C (259 : Int32) dX4_says_216 (by decide) 219 rfl ?_
              refine ww_icmp_ne C 249 dX4_says_219 (by decide) h 222 rfl (fun h => ?_) (fun h => ?_)
              · refine ww_iload C 9 dX4_says_249 rfl 251 rfl ?_
                refine ww_iconst C (1 : Int32) dX4_says_251 (by decide) 252 rfl ?_
                refine ww_icmp_le C 288 dX4_says_252 (by decide) h 255 rfl (fun h => ?_) (fun h => ?_)
                · refine ww_iinc C 10 (1 : Int32) (by decide) (fun v153 => [(9, .int v153), (10, .int v150), (0, .ref (ad b)), (1, .int a1), (2, .int a2), (3, .int a3), (4, .int a4), (5, .int a5), (6, .int a6), (7, .int a7), (8, .int x8)]) dX4_says_288 rfl (by decide) (fun _ => rfl) h 291 rfl (fun v153 h => ?_)
                  refine ww_goto C 78 dX4_says_291 (by decide) ?_
                  exact ww_sub [2, 3, 4, 5, 6, 7, 8, 9, 10, 0] rfl (ih _ _ _ h)
                · refine ww_iinc C 9 (-1 : Int32) (by decide) (fun v154 => [(8, .int v154), (10, .int v150), (0, .ref (ad b)), (1, .int a1), (2, .int a2), (3, .int a3), (4, .int a4), (5, .int a5), (6, .int a6), (7, .int a7), (9, .int x9)]) dX4_says_255 rfl (by decide) (fun _ => rfl) h 258 rfl (fun v154 h => ?_)
                  refine ww_aload_n C 2 dX4_says_258 rfl rfl 259 rfl ?_
                  refine ww_getS C cl_X4 (obText hb hn) 5 (by decide) rfl (b + 4) (so_text hb 5 4 (by decide)) w_128 dX4_says_259 262 rfl ?_
                  refine ww_iload C 0 dX4_says_262 rfl 264 rfl ?_
                  refine ww_iconst C (1 : Int32) dX4_says_264 (by decide) 265 rfl ?_
                  refine ww_isub C dX4_says_265 266 rfl ?_
                  refine ww_iload C 1 dX4_says_266 rfl 268 rfl ?_
                  refine ww_aload_n C 2 dX4_says_268 rfl rfl 269 rfl ?_
                  refine ww_getS C cl_X4 (obText hb hn) 5 (by decide) rfl (b + 4) (so_text hb 5 4 (by decide)) w_128 dX4_says_269 272 rfl ?_
                  refine ww_iload C 0 dX4_says_272 rfl 274 rfl ?_
                  refine ww_iconst C (1 : Int32) dX4_says_274 (by decide) 275 rfl ?_
                  refine ww_isub C dX4_says_275 276 rfl ?_
                  refine ww_iald C (iaText (q := b) hb hn 4 40 (by decide)) dX4_says_276 h 277 rfl (fun h => ?_)
                  refine ww_aload_n C 2 dX4_says_277 rfl rfl 278 rfl ?_
                  refine ww_getS C cl_X4 (obText hb hn) 5 (by decide) rfl (b + 4) (so_text hb 5 4 (by decide)) w_128 dX4_says_278 281 rfl ?_
                  refine ww_iload C 0 dX4_says_281 rfl 283 rfl ?_
                  refine ww_iald C (iaText (q := b) hb hn 4 40 (by decide)) dX4_says_283 h 284 rfl (fun h => ?_)
                  refine ww_callSi C (As := [.int v150, .int (u151.1 (b + 4) (v154 - (1 : Int32)).toNatClampNeg), .int (u151.1 (b + 4) (v154).toNatClampNeg)]) (st := [.int (v154 - (1 : Int32)), .ref (ad (b + 4))]) h (fun _ _ hF => k_X4_joined hn hF) w_467 cm_X4_joined (by decide) (by decide) rfl rfl (Nat.le_of_ble_eq_true rfl) dX4_says_284 287 rfl (fun v156 u155 h => ?_)
                  refine ww_iast C (iaText (q := b) hb hn 4 40 (by decide)) dX4_says_287 h 288 rfl (fun u157 h => ?_)
                  refine ww_iinc C 10 (1 : Int32) (by decide) (fun v158 => [(9, .int v158), (8, .int v154), (10, .int v150), (0, .ref (ad b)), (1, .int a1), (2, .int a2), (3, .int a3), (4, .int a4), (5, .int a5), (6, .int a6), (7, .int a7)]) dX4_says_288 rfl (by decide) (fun _ => rfl) h 291 rfl (fun v158 h => ?_)
                  refine ww_goto C 78 dX4_says_291 (by decide) ?_
                  exact ww_sub [3, 4, 5, 6, 7, 8, 9, 10, 1, 0] rfl (ih _ _ _ h)
              · refine ww_iload C 9 dX4_says_222 rfl 224 rfl ?_
                refine ww_if_le C 249 dX4_says_224 (by decide) h 227 rfl (fun h => ?_) (fun h => ?_)
                · refine ww_iload C 9 dX4_says_249 rfl 251 rfl ?_
                  refine ww_iconst C (1 : Int32) dX4_says_251 (by decide) 252 rfl ?_
                  refine ww_icmp_le C 288 dX4_says_252 (by decide) h 255 rfl (fun h => ?_) (fun h => ?_)
                  · refine ww_iinc C 10 (1 : Int32) (by decide) (fun v159 => [(9, .int v159), (10, .int v150), (0, .ref (ad b)), (1, .int a1), (2, .int a2), (3, .int a3), (4, .int a4), (5, .int a5), (6, .int a6), (7, .int a7), (8, .int x8)]) dX4_says_288 rfl (by decide) (fun _ => rfl) h 291 rfl (fun v159 h => ?_)
                    refine ww_goto C 78 dX4_says_291 (by decide) ?_
                    exact ww_sub [2, 3, 4, 5, 6, 7, 8, 9, 10, 0] rfl (ih _ _ _ h)
                  · refine ww_iinc C 9 (-1 : Int32) (by decide) (fun v160 => [(8, .int v160), (10, .int v150), (0, .ref (ad b)), (1, .int a1), (2, .int a2), (3, .int a3), (4, .int a4), (5, .int a5), (6, .int a6), (7, .int a7), (9, .int x9)]) dX4_says_255 rfl (by decide) (fun _ => rfl) h 258 rfl (fun v160 h => ?_)
                    refine ww_aload_n C 2 dX4_says_258 rfl rfl 259 rfl ?_
                    refine ww_getS C cl_X4 (obText hb hn) 5 (by decide) rfl (b + 4) (so_text hb 5 4 (by decide)) w_128 dX4_says_259 262 rfl ?_
                    refine ww_iload C 0 dX4_says_262 rfl 264 rfl ?_
                    refine ww_iconst C (1 : Int32) dX4_says_264 (by decide) 265 rfl ?_
                    refine ww_isub C dX4_says_265 266 rfl ?_
                    refine ww_iload C 1 dX4_says_266 rfl 268 rfl ?_
                    refine ww_aload_n C 2 dX4_says_268 rfl rfl 269 rfl ?_
                    refine ww_getS C cl_X4 (obText hb hn) 5 (by decide) rfl (b + 4) (so_text hb 5 4 (by decide)) w_128 dX4_says_269 272 rfl ?_
                    refine ww_iload C 0 dX4_says_272 rfl 274 rfl ?_
                    refine ww_iconst C (1 : Int32) dX4_says_274 (by decide) 275 rfl ?_
                    refine ww_isub C dX4_says_275 276 rfl ?_
                    refine ww_iald C (iaText (q := b) hb hn 4 40 (by decide)) dX4_says_276 h 277 rfl (fun h => ?_)
                    refine ww_aload_n C 2 dX4_says_277 rfl rfl 278 rfl ?_
                    refine ww_getS C cl_X4 (obText hb hn) 5 (by decide) rfl (b + 4) (so_text hb 5 4 (by decide)) w_128 dX4_says_278 281 rfl ?_
                    refine ww_iload C 0 dX4_says_281 rfl 283 rfl ?_
                    refine ww_iald C (iaText (q := b) hb hn 4 40 (by decide)) dX4_says_283 h 284 rfl (fun h => ?_)
                    refine ww_callSi C (As := [.int v150, .int (u151.1 (b + 4) (v160 - (1 : Int32)).toNatClampNeg), .int (u151.1 (b + 4) (v160).toNatClampNeg)]) (st := [.int (v160 - (1 : Int32)), .ref (ad (b + 4))]) h (fun _ _ hF => k_X4_joined hn hF) w_467 cm_X4_joined (by decide) (by decide) rfl rfl (Nat.le_of_ble_eq_true rfl) dX4_says_284 287 rfl (fun v162 u161 h => ?_)
                    refine ww_iast C (iaText (q := b) hb hn 4 40 (by decide)) dX4_says_287 h 288 rfl (fun u163 h => ?_)
                    refine ww_iinc C 10 (1 : Int32) (by decide) (fun v164 => [(9, .int v164), (8, .int v160), (10, .int v150), (0, .ref (ad b)), (1, .int a1), (2, .int a2), (3, .int a3), (4, .int a4), (5, .int a5), (6, .int a6), (7, .int a7)]) dX4_says_288 rfl (by decide) (fun _ => rfl) h 291 rfl (fun v164 h => ?_)
                    refine ww_goto C 78 dX4_says_291 (by decide) ?_
                    exact ww_sub [3, 4, 5, 6, 7, 8, 9, 10, 1, 0] rfl (ih _ _ _ h)
                · refine ww_aload_n C 1 dX4_says_227 rfl rfl 228 rfl ?_
                  refine ww_getS C cl_X4 (obText hb hn) 5 (by decide) rfl (b + 4) (so_text hb 5 4 (by decide)) w_128 dX4_says_228 231 rfl ?_
                  refine ww_iload C 9 dX4_says_231 rfl 233 rfl ?_
                  refine ww_iconst C (1 : Int32) dX4_says_233 (by decide) 234 rfl ?_
                  refine ww_isub C dX4_says_234 235 rfl ?_
                  refine ww_aload_n C 1 dX4_says_235 rfl rfl 236 rfl ?_
                  refine ww_getS C cl_X4 (obText hb hn) 5 (by decide) rfl (b + 4) (so_text hb 5 4 (by decide)) w_128 dX4_says_236 239 rfl ?_
                  refine ww_iload C 9 dX4_says_239 rfl 241 rfl ?_
                  refine ww_iconst C (1 : Int32) dX4_says_241 (by decide) 242 rfl ?_
                  refine ww_isub C dX4_says_242 243 rfl ?_
                  refine ww_iald C (iaText (q := b) hb hn 4 40 (by decide)) dX4_says_243 h 244 rfl (fun h => ?_)
                  refine ww_ineg C dX4_says_244 245 rfl ?_
                  refine ww_iast C (iaText (q := b) hb hn 4 40 (by decide)) dX4_says_245 h 246 rfl (fun u165 h => ?_)
                  refine ww_goto C 288 dX4_says_246 (by decide) ?_
                  refine ww_iinc C 10 (1 : Int32) (by decide) (fun v166 => [(9, .int v166), (10, .int v150), (0, .ref (ad b)), (1, .int a1), (2, .int a2), (3, .int a3), (4, .int a4), (5, .int a5), (6, .int a6), (7, .int a7), (8, .int x8)]) dX4_says_288 rfl (by decide) (fun _ => rfl) h 291 rfl (fun v166 h => ?_)
                  refine ww_goto C 78 dX4_says_291 (by decide) ?_
                  exact ww_sub [2, 3, 4, 5, 6, 7, 8, 9, 10, 0] rfl (ih _ _ _ h)
            · refine ww_iload C 9 dX4_says_180 rfl 182 rfl ?_
              refine ww_if_le C 214 dX4_says_182 (by decide) h 185 rfl (fun h => ?_) (fun h => ?_)
              · refine ww_iload C 0 dX4_says_214 rfl 216 rfl ?_
                refine ww_sipush C (259 : Int32) dX4_says_216 (by decide) 219 rfl ?_
                refine ww_icmp_ne C 249 dX4_says_219 (by decide) h 222 rfl (fun h => ?_) (fun h => ?_)
                · refine ww_iload C 9 dX4_says_249 rfl 251 rfl ?_
                  refine ww_iconst C (1 : Int32) dX4_says_251 (by decide) 252 rfl ?_
                  refine ww_icmp_le C 288 dX4_says_252 (by decide) h 255 rfl (fun h => ?_) (fun h => ?_)
                  · refine ww_iinc C 10 (1 : Int32) (by decide) (fun v167 => [(9, .int v167), (10, .int v150), (0, .ref (ad b)), (1, .int a1), (2, .int a2), (3, .int a3), (4, .int a4), (5, .int a5), (6, .int a6), (7, .int a7), (8, .int x8)]) dX4_says_288 rfl (by decide) (fun _ => rfl) h 291 rfl (fun v167 h => ?_)
                    refine ww_goto C 78 dX4_says_291 (by decide) ?_
                    exact ww_sub [2, 3, 4, 5, 6, 7, 8, 9, 10, 0] rfl (ih _ _ _ h)
                  · refine ww_iinc C 9 (-1 : Int32) (by decide) (fun v168 => [(8, .int v168), (10, .int v150), (0, .ref (ad b)), (1, .int a1), (2, .int a2), (3, .int a3), (4, .int a4), (5, .int a5), (6, .int a6), (7, .int a7), (9, .int x9)]) dX4_says_255 rfl (by decide) (fun _ => rfl) h 258 rfl (fun v168 h => ?_)
                    refine ww_aload_n C 2 dX4_says_258 rfl rfl 259 rfl ?_
                    refine ww_getS C cl_X4 (obText hb hn) 5 (by decide) rfl (b + 4) (so_text hb 5 4 (by decide)) w_128 dX4_says_259 262 rfl ?_
                    refine ww_iload C 0 dX4_says_262 rfl 264 rfl ?_
                    refine ww_iconst C (1 : Int32) dX4_says_264 (by decide) 265 rfl ?_
                    refine ww_isub C dX4_says_265 266 rfl ?_
                    refine ww_iload C 1 dX4_says_266 rfl 268 rfl ?_
                    refine ww_aload_n C 2 dX4_says_268 rfl rfl 269 rfl ?_
                    refine ww_getS C cl_X4 (obText hb hn) 5 (by decide) rfl (b + 4) (so_text hb 5 4 (by decide)) w_128 dX4_says_269 272 rfl ?_
                    refine ww_iload C 0 dX4_says_272 rfl 274 rfl ?_
                    refine ww_iconst C (1 : Int32) dX4_says_274 (by decide) 275 rfl ?_
                    refine ww_isub C dX4_says_275 276 rfl ?_
                    refine ww_iald C (iaText (q := b) hb hn 4 40 (by decide)) dX4_says_276 h 277 rfl (fun h => ?_)
                    refine ww_aload_n C 2 dX4_says_277 rfl rfl 278 rfl ?_
                    refine ww_getS C cl_X4 (obText hb hn) 5 (by decide) rfl (b + 4) (so_text hb 5 4 (by decide)) w_128 dX4_says_278 281 rfl ?_
                    refine ww_iload C 0 dX4_says_281 rfl 283 rfl ?_
                    refine ww_iald C (iaText (q := b) hb hn 4 40 (by decide)) dX4_says_283 h 284 rfl (fun h => ?_)
                    refine ww_callSi C (As := [.int v150, .int (u151.1 (b + 4) (v168 - (1 : Int32)).toNatClampNeg), .int (u151.1 (b + 4) (v168).toNatClampNeg)]) (st := [.int (v168 - (1 : Int32)), .ref (ad (b + 4))]) h (fun _ _ hF => k_X4_joined hn hF) w_467 cm_X4_joined (by decide) (by decide) rfl rfl (Nat.le_of_ble_eq_true rfl) dX4_says_284 287 rfl (fun v170 u169 h => ?_)
                    refine ww_iast C (iaText (q := b) hb hn 4 40 (by decide)) dX4_says_287 h 288 rfl (fun u171 h => ?_)
                    refine ww_iinc C 10 (1 : Int32) (by decide) (fun v172 => [(9, .int v172), (8, .int v168), (10, .int v150), (0, .ref (ad b)), (1, .int a1), (2, .int a2), (3, .int a3), (4, .int a4), (5, .int a5), (6, .int a6), (7, .int a7)]) dX4_says_288 rfl (by decide) (fun _ => rfl) h 291 rfl (fun v172 h => ?_)
                    refine ww_goto C 78 dX4_says_291 (by decide) ?_
                    exact ww_sub [3, 4, 5, 6, 7, 8, 9, 10, 1, 0] rfl (ih _ _ _ h)
                · refine ww_iload C 9 dX4_says_222 rfl 224 rfl ?_
                  refine ww_if_le C 249 dX4_says_224 (by decide) h 227 rfl (fun h => ?_) (fun h => ?_)
                  · refine ww_iload C 9 dX4_says_249 rfl 251 rfl ?_
                    refine ww_iconst C (1 : Int32) dX4_says_251 (by decide) 252 rfl ?_
                    refine ww_icmp_le C 288 dX4_says_252 (by decide) h 255 rfl (fun h => ?_) (fun h => ?_)
                    · refine ww_iinc C 10 (1 : Int32) (by decide) (fun v173 => [(9, .int v173), (10, .int v150), (0, .ref (ad b)), (1, .int a1), (2, .int a2), (3, .int a3), (4, .int a4), (5, .int a5), (6, .int a6), (7, .int a7), (8, .int x8)]) dX4_says_288 rfl (by decide) (fun _ => rfl) h 291 rfl (fun v173 h => ?_)
                      refine ww_goto C 78 dX4_says_291 (by decide) ?_
                      exact ww_sub [2, 3, 4, 5, 6, 7, 8, 9, 10, 0] rfl (ih _ _ _ h)
                    · refine ww_iinc C 9 (-1 : Int32) (by decide) (fun v174 => [(8, .int v174), (10, .int v150), (0, .ref (ad b)), (1, .int a1), (2, .int a2), (3, .int a3), (4, .int a4), (5, .int a5), (6, .int a6), (7, .int a7), (9, .int x9)]) dX4_says_255 rfl (by decide) (fun _ => rfl) h 258 rfl (fun v174 h => ?_)
                      refine ww_aload_n C 2 dX4_says_258 rfl rfl 259 rfl ?_
                      refine ww_getS C cl_X4 (obText hb hn) 5 (by decide) rfl (b + 4) (so_text hb 5 4 (by decide)) w_128 dX4_says_259 262 rfl ?_
                      refine ww_iload C 0 dX4_says_262 rfl 264 rfl ?_
                      refine ww_iconst C (1 : Int32) dX4_says_264 (by decide) 265 rfl ?_
                      refine ww_isub C dX4_says_265 266 rfl ?_
                      refine ww_iload C 1 dX4_says_266 rfl 268 rfl ?_
                      refine ww_aload_n C 2 dX4_says_268 rfl rfl 269 rfl ?_
                      refine ww_getS C cl_X4 (obText hb hn) 5 (by decide) rfl (b + 4) (so_text hb 5 4 (by decide)) w_128 dX4_says_269 272 rfl ?_
                      refine ww_iload C 0 dX4_says_272 rfl 274 rfl ?_
                      refine ww_iconst C (1 : Int32) dX4_says_274 (by decide) 275 rfl ?_
                      refine ww_isub C dX4_says_275 276 rfl ?_
                      refine ww_iald C (iaText (q := b) hb hn 4 40 (by decide)) dX4_says_276 h 277 rfl (fun h => ?_)
                      refine ww_aload_n C 2 dX4_says_277 rfl rfl 278 rfl ?_
                      refine ww_getS C cl_X4 (obText hb hn) 5 (by decide) rfl (b + 4) (so_text hb 5 4 (by decide)) w_128 dX4_says_278 281 rfl ?_
                      refine ww_iload C 0 dX4_says_281 rfl 283 rfl ?_
                      refine ww_iald C (iaText (q := b) hb hn 4 40 (by decide)) dX4_says_283 h 284 rfl (fun h => ?_)
                      refine ww_callSi C (As := [.int v150, .int (u151.1 (b + 4) (v174 - (1 : Int32)).toNatClampNeg), .int (u151.1 (b + 4) (v174).toNatClampNeg)]) (st := [.int (v174 - (1 : Int32)), .ref (ad (b + 4))]) h (fun _ _ hF => k_X4_joined hn hF) w_467 cm_X4_joined (by decide) (by decide) rfl rfl (Nat.le_of_ble_eq_true rfl) dX4_says_284 287 rfl (fun v176 u175 h => ?_)
                      refine ww_iast C (iaText (q := b) hb hn 4 40 (by decide)) dX4_says_287 h 288 rfl (fun u177 h => ?_)
                      refine ww_iinc C 10 (1 : Int32) (by decide) (fun v178 => [(9, .int v178), (8, .int v174), (10, .int v150), (0, .ref (ad b)), (1, .int a1), (2, .int a2), (3, .int a3), (4, .int a4), (5, .int a5), (6, .int a6), (7, .int a7)]) dX4_says_288 rfl (by decide) (fun _ => rfl) h 291 rfl (fun v178 h => ?_)
                      refine ww_goto C 78 dX4_says_291 (by decide) ?_
                      exact ww_sub [3, 4, 5, 6, 7, 8, 9, 10, 1, 0] rfl (ih _ _ _ h)
                  · refine ww_aload_n C 1 dX4_says_227 rfl rfl 228 rfl ?_
                    refine ww_getS C cl_X4 (obText hb hn) 5 (by decide) rfl (b + 4) (so_text hb 5 4 (by decide)) w_128 dX4_says_228 231 rfl ?_
                    refine ww_iload C 9 dX4_says_231 rfl 233 rfl ?_
                    refine ww_iconst C (1 : Int32) dX4_says_233 (by decide) 234 rfl ?_
                    refine ww_isub C dX4_says_234 235 rfl ?_
                    refine ww_aload_n C 1 dX4_says_235 rfl rfl 236 rfl ?_
                    refine ww_getS C cl_X4 (obText hb hn) 5 (by decide) rfl (b + 4) (so_text hb 5 4 (by decide)) w_128 dX4_says_236 239 rfl ?_
                    refine ww_iload C 9 dX4_says_239 rfl 241 rfl ?_
                    refine ww_iconst C (1 : Int32) dX4_says_241 (by decide) 242 rfl ?_
                    refine ww_isub C dX4_says_242 243 rfl ?_
                    refine ww_iald C (iaText (q := b) hb hn 4 40 (by decide)) dX4_says_243 h 244 rfl (fun h => ?_)
                    refine ww_ineg C dX4_says_244 245 rfl ?_
                    refine ww_iast C (iaText (q := b) hb hn 4 40 (by decide)) dX4_says_245 h 246 rfl (fun u179 h => ?_)
                    refine ww_goto C 288 dX4_says_246 (by decide) ?_
                    refine ww_iinc C 10 (1 : Int32) (by decide) (fun v180 => [(9, .int v180), (10, .int v150), (0, .ref (ad b)), (1, .int a1), (2, .int a2), (3, .int a3), (4, .int a4), (5, .int a5), (6, .int a6), (7, .int a7), (8, .int x8)]) dX4_says_288 rfl (by decide) (fun _ => rfl) h 291 rfl (fun v180 h => ?_)
                    refine ww_goto C 78 dX4_says_291 (by decide) ?_
                    exact ww_sub [2, 3, 4, 5, 6, 7, 8, 9, 10, 0] rfl (ih _ _ _ h)
              · refine ww_aload_n C 1 dX4_says_185 rfl rfl 186 rfl ?_
                refine ww_getS C cl_X4 (obText hb hn) 5 (by decide) rfl (b + 4) (so_text hb 5 4 (by decide)) w_128 dX4_says_186 189 rfl ?_
                refine ww_iload C 9 dX4_says_189 rfl 191 rfl ?_
                refine ww_iconst C (1 : Int32) dX4_says_191 (by decide) 192 rfl ?_
                refine ww_isub C dX4_says_192 193 rfl ?_
                refine ww_aload_n C 1 dX4_says_193 rfl rfl 194 rfl ?_
                refine ww_getS C cl_X4 (obText hb hn) 5 (by decide) rfl (b + 4) (so_text hb 5 4 (by decide)) w_128 dX4_says_194 197 rfl ?_
                refine ww_iload C 9 dX4_says_197 rfl 199 rfl ?_
                refine ww_iconst C (1 : Int32) dX4_says_199 (by decide) 200 rfl ?_
                refine ww_isub C dX4_says_200 201 rfl ?_
                refine ww_iald C (iaText (q := b) hb hn 4 40 (by decide)) dX4_says_201 h 202 rfl (fun h => ?_)
                refine ww_if_ne C 209 dX4_says_202 (by decide) h 205 rfl (fun h => ?_) (fun h => ?_)
                · refine ww_iconst C (0 : Int32) dX4_says_209 (by decide) 210 rfl ?_
                  refine ww_iast C (iaText (q := b) hb hn 4 40 (by decide)) dX4_says_210 h 211 rfl (fun u181 h => ?_)
                  refine ww_goto C 288 dX4_says_211 (by decide) ?_
                  refine ww_iinc C 10 (1 : Int32) (by decide) (fun v182 => [(9, .int v182), (10, .int v150), (0, .ref (ad b)), (1, .int a1), (2, .int a2), (3, .int a3), (4, .int a4), (5, .int a5), (6, .int a6), (7, .int a7), (8, .int x8)]) dX4_says_288 rfl (by decide) (fun _ => rfl) h 291 rfl (fun v182 h => ?_)
                  refine ww_goto C 78 dX4_says_291 (by decide) ?_
                  exact ww_sub [2, 3, 4, 5, 6, 7, 8, 9, 10, 0] rfl (ih _ _ _ h)
                · refine ww_iconst C (1 : Int32) dX4_says_205 (by decide) 206 rfl ?_
                  refine ww_goto C 210 dX4_says_206 (by decide) ?_
                  refine ww_iast C (iaText (q := b) hb hn 4 40 (by decide)) dX4_says_210 h 211 rfl (fun u183 h => ?_)
                  refine ww_goto C 288 dX4_says_211 (by decide) ?_
                  refine ww_iinc C 10 (1 : Int32) (by decide) (fun v184 => [(9, .int v184), (10, .int v150), (0, .ref (ad b)), (1, .int a1), (2, .int a2), (3, .int a3), (4, .int a4), (5, .int a5), (6, .int a6), (7, .int a7), (8, .int x8)]) dX4_says_288 rfl (by decide) (fun _ => rfl) h 291 rfl (fun v184 h => ?_)
                  refine ww_goto C 78 dX4_says_291 (by decide) ?_
                  exact ww_sub [2, 3, 4, 5, 6, 7, 8, 9, 10, 0] rfl (ih _ _ _ h)
          · refine ww_iload C 9 dX4_says_138 rfl 140 rfl ?_
            refine ww_aload_n C 1 dX4_says_140 rfl rfl 141 rfl ?_
            refine ww_getS C cl_X4 (obText hb hn) 5 (by decide) rfl (b + 4) (so_text hb 5 4 (by decide)) w_128 dX4_says_141 144 rfl ?_
            refine ww_alen C (iaText (q := b) hb hn 4 40 (by decide)) (40 : Int32) (by decide) dX4_says_144 145 rfl ?_
            refine ww_icmp_ge C 172 dX4_says_145 (by decide) h 148 rfl (fun h => ?_) (fun h => ?_)
            · refine ww_iload C 0 dX4_says_172 rfl 174 rfl ?_
              refine ww_sipush C (265 : Int32) dX4_says_174 (by decide) 177 rfl ?_
              refine ww_icmp_ne C 214 dX4_says_177 (by decide) h 180 rfl (fun h => ?_) (fun h => ?_)
              · refine ww_iload C 0 dX4_says_214 rfl 216 rfl ?_
                refine ww_sipush C (259 : Int32) dX4_says_216 (by decide) 219 rfl ?_
                refine ww_icmp_ne C 249 dX4_says_219 (by decide) h 222 rfl (fun h => ?_) (fun h => ?_)
                · refine ww_iload C 9 dX4_says_249 rfl 251 rfl ?_
                  refine ww_iconst C (1 : Int32) dX4_says_251 (by decide) 252 rfl ?_
                  refine ww_icmp_le C 288 dX4_says_252 (by decide) h 255 rfl (fun h => ?_) (fun h => ?_)
                  · refine ww_iinc C 10 (1 : Int32) (by decide) (fun v185 => [(9, .int v185), (10, .int v150), (0, .ref (ad b)), (1, .int a1), (2, .int a2), (3, .int a3), (4, .int a4), (5, .int a5), (6, .int a6), (7, .int a7), (8, .int x8)]) dX4_says_288 rfl (by decide) (fun _ => rfl) h 291 rfl (fun v185 h => ?_)
                    refine ww_goto C 78 dX4_says_291 (by decide) ?_
                    exact ww_sub [2, 3, 4, 5, 6, 7, 8, 9, 10, 0] rfl (ih _ _ _ h)
                  · refine ww_iinc C 9 (-1 : Int32) (by decide) (fun v186 => [(8, .int v186), (10, .int v150), (0, .ref (ad b)), (1, .int a1), (2, .int a2), (3, .int a3), (4, .int a4), (5, .int a5), (6, .int a6), (7, .int a7), (9, .int x9)]) dX4_says_255 rfl (by decide) (fun _ => rfl) h 258 rfl (fun v186 h => ?_)
                    refine ww_aload_n C 2 dX4_says_258 rfl rfl 259 rfl ?_
                    refine ww_getS C cl_X4 (obText hb hn) 5 (by decide) rfl (b + 4) (so_text hb 5 4 (by decide)) w_128 dX4_says_259 262 rfl ?_
                    refine ww_iload C 0 dX4_says_262 rfl 264 rfl ?_
                    refine ww_iconst C (1 : Int32) dX4_says_264 (by decide) 265 rfl ?_
                    refine ww_isub C dX4_says_265 266 rfl ?_
                    refine ww_iload C 1 dX4_says_266 rfl 268 rfl ?_
                    refine ww_aload_n C 2 dX4_says_268 rfl rfl 269 rfl ?_
                    refine ww_getS C cl_X4 (obText hb hn) 5 (by decide) rfl (b + 4) (so_text hb 5 4 (by decide)) w_128 dX4_says_269 272 rfl ?_
                    refine ww_iload C 0 dX4_says_272 rfl 274 rfl ?_
                    refine ww_iconst C (1 : Int32) dX4_says_274 (by decide) 275 rfl ?_
                    refine ww_isub C dX4_says_275 276 rfl ?_
                    refine ww_iald C (iaText (q := b) hb hn 4 40 (by decide)) dX4_says_276 h 277 rfl (fun h => ?_)
                    refine ww_aload_n C 2 dX4_says_277 rfl rfl 278 rfl ?_
                    refine ww_getS C cl_X4 (obText hb hn) 5 (by decide) rfl (b + 4) (so_text hb 5 4 (by decide)) w_128 dX4_says_278 281 rfl ?_
                    refine ww_iload C 0 dX4_says_281 rfl 283 rfl ?_
                    refine ww_iald C (iaText (q := b) hb hn 4 40 (by decide)) dX4_says_283 h 284 rfl (fun h => ?_)
                    refine ww_callSi C (As := [.int v150, .int (u151.1 (b + 4) (v186 - (1 : Int32)).toNatClampNeg), .int (u151.1 (b + 4) (v186).toNatClampNeg)]) (st := [.int (v186 - (1 : Int32)), .ref (ad (b + 4))]) h (fun _ _ hF => k_X4_joined hn hF) w_467 cm_X4_joined (by decide) (by decide) rfl rfl (Nat.le_of_ble_eq_true rfl) dX4_says_284 287 rfl (fun v188 u187 h => ?_)
                    refine ww_iast C (iaText (q := b) hb hn 4 40 (by decide)) dX4_says_287 h 288 rfl (fun u189 h => ?_)
                    refine ww_iinc C 10 (1 : Int32) (by decide) (fun v190 => [(9, .int v190), (8, .int v186), (10, .int v150), (0, .ref (ad b)), (1, .int a1), (2, .int a2), (3, .int a3), (4, .int a4), (5, .int a5), (6, .int a6), (7, .int a7)]) dX4_says_288 rfl (by decide) (fun _ => rfl) h 291 rfl (fun v190 h => ?_)
                    refine ww_goto C 78 dX4_says_291 (by decide) ?_
                    exact ww_sub [3, 4, 5, 6, 7, 8, 9, 10, 1, 0] rfl (ih _ _ _ h)
                · refine ww_iload C 9 dX4_says_222 rfl 224 rfl ?_
                  refine ww_if_le C 249 dX4_says_224 (by decide) h 227 rfl (fun h => ?_) (fun h => ?_)
                  · refine ww_iload C 9 dX4_says_249 rfl 251 rfl ?_
                    refine ww_iconst C (1 : Int32) dX4_says_251 (by decide) 252 rfl ?_
                    refine ww_icmp_le C 288 dX4_says_252 (by decide) h 255 rfl (fun h => ?_) (fun h => ?_)
                    · refine ww_iinc C 10 (1 : Int32) (by decide) (fun v191 => [(9, .int v191), (10, .int v150), (0, .ref (ad b)), (1, .int a1), (2, .int a2), (3, .int a3), (4, .int a4), (5, .int a5), (6, .int a6), (7, .int a7), (8, .int x8)]) dX4_says_288 rfl (by decide) (fun _ => rfl) h 291 rfl (fun v191 h => ?_)
                      refine ww_goto C 78 dX4_says_291 (by decide) ?_
                      exact ww_sub [2, 3, 4, 5, 6, 7, 8, 9, 10, 0] rfl (ih _ _ _ h)
                    · refine ww_iinc C 9 (-1 : Int32) (by decide) (fun v192 => [(8, .int v192), (10, .int v150), (0, .ref (ad b)), (1, .int a1), (2, .int a2), (3, .int a3), (4, .int a4), (5, .int a5), (6, .int a6), (7, .int a7), (9, .int x9)]) dX4_says_255 rfl (by decide) (fun _ => rfl) h 258 rfl (fun v192 h => ?_)
                      refine ww_aload_n C 2 dX4_says_258 rfl rfl 259 rfl ?_
                      refine ww_getS C cl_X4 (obText hb hn) 5 (by decide) rfl (b + 4) (so_text hb 5 4 (by decide)) w_128 dX4_says_259 262 rfl ?_
                      refine ww_iload C 0 dX4_says_262 rfl 264 rfl ?_
                      refine ww_iconst C (1 : Int32) dX4_says_264 (by decide) 265 rfl ?_
                      refine ww_isub C dX4_says_265 266 rfl ?_
                      refine ww_iload C 1 dX4_says_266 rfl 268 rfl ?_
                      refine ww_aload_n C 2 dX4_says_268 rfl rfl 269 rfl ?_
                      refine ww_getS C cl_X4 (obText hb hn) 5 (by decide) rfl (b + 4) (so_text hb 5 4 (by decide)) w_128 dX4_says_269 272 rfl ?_
                      refine ww_iload C 0 dX4_says_272 rfl 274 rfl ?_
                      refine ww_iconst C (1 : Int32) dX4_says_274 (by decide) 275 rfl ?_
                      refine ww_isub C dX4_says_275 276 rfl ?_
                      refine ww_iald C (iaText (q := b) hb hn 4 40 (by decide)) dX4_says_276 h 277 rfl (fun h => ?_)
                      refine ww_aload_n C 2 dX4_says_277 rfl rfl 278 rfl ?_
                      refine ww_getS C cl_X4 (obText hb hn) 5 (by decide) rfl (b + 4) (so_text hb 5 4 (by decide)) w_128 dX4_says_278 281 rfl ?_
                      refine ww_iload C 0 dX4_says_281 rfl 283 rfl ?_
                      refine ww_iald C (iaText (q := b) hb hn 4 40 (by decide)) dX4_says_283 h 284 rfl (fun h => ?_)
                      refine ww_callSi C (As := [.int v150, .int (u151.1 (b + 4) (v192 - (1 : Int32)).toNatClampNeg), .int (u151.1 (b + 4) (v192).toNatClampNeg)]) (st := [.int (v192 - (1 : Int32)), .ref (ad (b + 4))]) h (fun _ _ hF => k_X4_joined hn hF) w_467 cm_X4_joined (by decide) (by decide) rfl rfl (Nat.le_of_ble_eq_true rfl) dX4_says_284 287 rfl (fun v194 u193 h => ?_)
                      refine ww_iast C (iaText (q := b) hb hn 4 40 (by decide)) dX4_says_287 h 288 rfl (fun u195 h => ?_)
                      refine ww_iinc C 10 (1 : Int32) (by decide) (fun v196 => [(9, .int v196), (8, .int v192), (10, .int v150), (0, .ref (ad b)), (1, .int a1), (2, .int a2), (3, .int a3), (4, .int a4), (5, .int a5), (6, .int a6), (7, .int a7)]) dX4_says_288 rfl (by decide) (fun _ => rfl) h 291 rfl (fun v196 h => ?_)
                      refine ww_goto C 78 dX4_says_291 (by decide) ?_
                      exact ww_sub [3, 4, 5, 6, 7, 8, 9, 10, 1, 0] rfl (ih _ _ _ h)
                  · refine ww_aload_n C 1 dX4_says_227 rfl rfl 228 rfl ?_
                    refine ww_getS C cl_X4 (obText hb hn) 5 (by decide) rfl (b + 4) (so_text hb 5 4 (by decide)) w_128 dX4_says_228 231 rfl ?_
                    refine ww_iload C 9 dX4_says_231 rfl 233 rfl ?_
                    refine ww_iconst C (1 : Int32) dX4_says_233 (by decide) 234 rfl ?_
                    refine ww_isub C dX4_says_234 235 rfl ?_
                    refine ww_aload_n C 1 dX4_says_235 rfl rfl 236 rfl ?_
                    refine ww_getS C cl_X4 (obText hb hn) 5 (by decide) rfl (b + 4) (so_text hb 5 4 (by decide)) w_128 dX4_says_236 239 rfl ?_
                    refine ww_iload C 9 dX4_says_239 rfl 241 rfl ?_
                    refine ww_iconst C (1 : Int32) dX4_says_241 (by decide) 242 rfl ?_
                    refine ww_isub C dX4_says_242 243 rfl ?_
                    refine ww_iald C (iaText (q := b) hb hn 4 40 (by decide)) dX4_says_243 h 244 rfl (fun h => ?_)
                    refine ww_ineg C dX4_says_244 245 rfl ?_
                    refine ww_iast C (iaText (q := b) hb hn 4 40 (by decide)) dX4_says_245 h 246 rfl (fun u197 h => ?_)
                    refine ww_goto C 288 dX4_says_246 (by decide) ?_
                    refine ww_iinc C 10 (1 : Int32) (by decide) (fun v198 => [(9, .int v198), (10, .int v150), (0, .ref (ad b)), (1, .int a1), (2, .int a2), (3, .int a3), (4, .int a4), (5, .int a5), (6, .int a6), (7, .int a7), (8, .int x8)]) dX4_says_288 rfl (by decide) (fun _ => rfl) h 291 rfl (fun v198 h => ?_)
                    refine ww_goto C 78 dX4_says_291 (by decide) ?_
                    exact ww_sub [2, 3, 4, 5, 6, 7, 8, 9, 10, 0] rfl (ih _ _ _ h)
              · refine ww_iload C 9 dX4_says_180 rfl 182 rfl ?_
                refine ww_if_le C 214 dX4_says_182 (by decide) h 185 rfl (fun h => ?_) (fun h => ?_)
                · refine ww_iload C 0 dX4_says_214 rfl 216 rfl ?_
                  refine ww_sipush C (259 : Int32) dX4_says_216 (by decide) 219 rfl ?_
                  refine ww_icmp_ne C 249 dX4_says_219 (by decide) h 222 rfl (fun h => ?_) (fun h => ?_)
                  · refine ww_iload C 9 dX4_says_249 rfl 251 rfl ?_
                    refine ww_iconst C (1 : Int32) dX4_says_251 (by decide) 252 rfl ?_
                    refine ww_icmp_le C 288 dX4_says_252 (by decide) h 255 rfl (fun h => ?_) (fun h => ?_)
                    · refine ww_iinc C 10 (1 : Int32) (by decide) (fun v199 => [(9, .int v199), (10, .int v150), (0, .ref (ad b)), (1, .int a1), (2, .int a2), (3, .int a3), (4, .int a4), (5, .int a5), (6, .int a6), (7, .int a7), (8, .int x8)]) dX4_says_288 rfl (by decide) (fun _ => rfl) h 291 rfl (fun v199 h => ?_)
                      refine ww_goto C 78 dX4_says_291 (by decide) ?_
                      exact ww_sub [2, 3, 4, 5, 6, 7, 8, 9, 10, 0] rfl (ih _ _ _ h)
                    · refine ww_iinc C 9 (-1 : Int32) (by decide) (fun v200 => [(8, .int v200), (10, .int v150), (0, .ref (ad b)), (1, .int a1), (2, .int a2), (3, .int a3), (4, .int a4), (5, .int a5), (6, .int a6), (7, .int a7), (9, .int x9)]) dX4_says_255 rfl (by decide) (fun _ => rfl) h 258 rfl (fun v200 h => ?_)
                      refine ww_aload_n C 2 dX4_says_258 rfl rfl 259 rfl ?_
                      refine ww_getS C cl_X4 (obText hb hn) 5 (by decide) rfl (b + 4) (so_text hb 5 4 (by decide)) w_128 dX4_says_259 262 rfl ?_
                      refine ww_iload C 0 dX4_says_262 rfl 264 rfl ?_
                      refine ww_iconst C (1 : Int32) dX4_says_264 (by decide) 265 rfl ?_
                      refine ww_isub C dX4_says_265 266 rfl ?_
                      refine ww_iload C 1 dX4_says_266 rfl 268 rfl ?_
                      refine ww_aload_n C 2 dX4_says_268 rfl rfl 269 rfl ?_
                      refine ww_getS C cl_X4 (obText hb hn) 5 (by decide) rfl (b + 4) (so_text hb 5 4 (by decide)) w_128 dX4_says_269 272 rfl ?_
                      refine ww_iload C 0 dX4_says_272 rfl 274 rfl ?_
                      refine ww_iconst C (1 : Int32) dX4_says_274 (by decide) 275 rfl ?_
                      refine ww_isub C dX4_says_275 276 rfl ?_
                      refine ww_iald C (iaText (q := b) hb hn 4 40 (by decide)) dX4_says_276 h 277 rfl (fun h => ?_)
                      refine ww_aload_n C 2 dX4_says_277 rfl rfl 278 rfl ?_
                      refine ww_getS C cl_X4 (obText hb hn) 5 (by decide) rfl (b + 4) (so_text hb 5 4 (by decide)) w_128 dX4_says_278 281 rfl ?_
                      refine ww_iload C 0 dX4_says_281 rfl 283 rfl ?_
                      refine ww_iald C (iaText (q := b) hb hn 4 40 (by decide)) dX4_says_283 h 284 rfl (fun h => ?_)
                      refine ww_callSi C (As := [.int v150, .int (u151.1 (b + 4) (v200 - (1 : Int32)).toNatClampNeg), .int (u151.1 (b + 4) (v200).toNatClampNeg)]) (st := [.int (v200 - (1 : Int32)), .ref (ad (b + 4))]) h (fun _ _ hF => k_X4_joined hn hF) w_467 cm_X4_joined (by decide) (by decide) rfl rfl (Nat.le_of_ble_eq_true rfl) dX4_says_284 287 rfl (fun v202 u201 h => ?_)
                      refine ww_iast C (iaText (q := b) hb hn 4 40 (by decide)) dX4_says_287 h 288 rfl (fun u203 h => ?_)
                      refine ww_iinc C 10 (1 : Int32) (by decide) (fun v204 => [(9, .int v204), (8, .int v200), (10, .int v150), (0, .ref (ad b)), (1, .int a1), (2, .int a2), (3, .int a3), (4, .int a4), (5, .int a5), (6, .int a6), (7, .int a7)]) dX4_says_288 rfl (by decide) (fun _ => rfl) h 291 rfl (fun v204 h => ?_)
                      refine ww_goto C 78 dX4_says_291 (by decide) ?_
                      exact ww_sub [3, 4, 5, 6, 7, 8, 9, 10, 1, 0] rfl (ih _ _ _ h)
                  · refine ww_iload C 9 dX4_says_222 rfl 224 rfl ?_
                    refine ww_if_le C 249 dX4_says_224 (by decide) h 227 rfl (fun h => ?_) (fun h => ?_)
                    · refine ww_iload C 9 dX4_says_249 rfl 251 rfl ?_
                      refine ww_iconst C (1 : Int32) dX4_says_251 (by decide) 252 rfl ?_
                      refine ww_icmp_le C 288 dX4_says_252 (by decide) h 255 rfl (fun h => ?_) (fun h => ?_)
                      · refine ww_iinc C 10 (1 : Int32) (by decide) (fun v205 => [(9, .int v205), (10, .int v150), (0, .ref (ad b)), (1, .int a1), (2, .int a2), (3, .int a3), (4, .int a4), (5, .int a5), (6, .int a6), (7, .int a7), (8, .int x8)]) dX4_says_288 rfl (by decide) (fun _ => rfl) h 291 rfl (fun v205 h => ?_)
                        refine ww_goto C 78 dX4_says_291 (by decide) ?_
                        exact ww_sub [2, 3, 4, 5, 6, 7, 8, 9, 10, 0] rfl (ih _ _ _ h)
                      · refine ww_iinc C 9 (-1 : Int32) (by decide) (fun v206 => [(8, .int v206), (10, .int v150), (0, .ref (ad b)), (1, .int a1), (2, .int a2), (3, .int a3), (4, .int a4), (5, .int a5), (6, .int a6), (7, .int a7), (9, .int x9)]) dX4_says_255 rfl (by decide) (fun _ => rfl) h 258 rfl (fun v206 h => ?_)
                        refine ww_aload_n C 2 dX4_says_258 rfl rfl 259 rfl ?_
                        refine ww_getS C cl_X4 (obText hb hn) 5 (by decide) rfl (b + 4) (so_text hb 5 4 (by decide)) w_128 dX4_says_259 262 rfl ?_
                        refine ww_iload C 0 dX4_says_262 rfl 264 rfl ?_
                        refine ww_iconst C (1 : Int32) dX4_says_264 (by decide) 265 rfl ?_
                        refine ww_isub C dX4_says_265 266 rfl ?_
                        refine ww_iload C 1 dX4_says_266 rfl 268 rfl ?_
                        refine ww_aload_n C 2 dX4_says_268 rfl rfl 269 rfl ?_
                        refine ww_getS C cl_X4 (obText hb hn) 5 (by decide) rfl (b + 4) (so_text hb 5 4 (by decide)) w_128 dX4_says_269 272 rfl ?_
                        refine ww_iload C 0 dX4_says_272 rfl 274 rfl ?_
                        refine ww_iconst C (1 : Int32) dX4_says_274 (by decide) 275 rfl ?_
                        refine ww_isub C dX4_says_275 276 rfl ?_
                        refine ww_iald C (iaText (q := b) hb hn 4 40 (by decide)) dX4_says_276 h 277 rfl (fun h => ?_)
                        refine ww_aload_n C 2 dX4_says_277 rfl rfl 278 rfl ?_
                        refine ww_getS C cl_X4 (obText hb hn) 5 (by decide) rfl (b + 4) (so_text hb 5 4 (by decide)) w_128 dX4_says_278 281 rfl ?_
                        refine ww_iload C 0 dX4_says_281 rfl 283 rfl ?_
                        refine ww_iald C (iaText (q := b) hb hn 4 40 (by decide)) dX4_says_283 h 284 rfl (fun h => ?_)
                        refine ww_callSi C (As := [.int v150, .int (u151.1 (b + 4) (v206 - (1 : Int32)).toNatClampNeg), .int (u151.1 (b + 4) (v206).toNatClampNeg)]) (st := [.int (v206 - (1 : Int32)), .ref (ad (b + 4))]) h (fun _ _ hF => k_X4_joined hn hF) w_467 cm_X4_joined (by decide) (by decide) rfl rfl (Nat.le_of_ble_eq_true rfl) dX4_says_284 287 rfl (fun v208 u207 h => ?_)
                        refine ww_iast C (iaText (q := b) hb hn 4 40 (by decide)) dX4_says_287 h 288 rfl (fun u209 h => ?_)
                        refine ww_iinc C 10 (1 : Int32) (by decide) (fun v210 => [(9, .int v210), (8, .int v206), (10, .int v150), (0, .ref (ad b)), (1, .int a1), (2, .int a2), (3, .int a3), (4, .int a4), (5, .int a5), (6, .int a6), (7, .int a7)]) dX4_says_288 rfl (by decide) (fun _ => rfl) h 291 rfl (fun v210 h => ?_)
                        refine ww_goto C 78 dX4_says_291 (by decide) ?_
                        exact ww_sub [3, 4, 5, 6, 7, 8, 9, 10, 1, 0] rfl (ih _ _ _ h)
                    · refine ww_aload_n C 1 dX4_says_227 rfl rfl 228 rfl ?_
                      refine ww_getS C cl_X4 (obText hb hn) 5 (by decide) rfl (b + 4) (so_text hb 5 4 (by decide)) w_128 dX4_says_228 231 rfl ?_
                      refine ww_iload C 9 dX4_says_231 rfl 233 rfl ?_
                      refine ww_iconst C (1 : Int32) dX4_says_233 (by decide) 234 rfl ?_
                      refine ww_isub C dX4_says_234 235 rfl ?_
                      refine ww_aload_n C 1 dX4_says_235 rfl rfl 236 rfl ?_
                      refine ww_getS C cl_X4 (obText hb hn) 5 (by decide) rfl (b + 4) (so_text hb 5 4 (by decide)) w_128 dX4_says_236 239 rfl ?_
                      refine ww_iload C 9 dX4_says_239 rfl 241 rfl ?_
                      refine ww_iconst C (1 : Int32) dX4_says_241 (by decide) 242 rfl ?_
                      refine ww_isub C dX4_says_242 243 rfl ?_
                      refine ww_iald C (iaText (q := b) hb hn 4 40 (by decide)) dX4_says_243 h 244 rfl (fun h => ?_)
                      refine ww_ineg C dX4_says_244 245 rfl ?_
                      refine ww_iast C (iaText (q := b) hb hn 4 40 (by decide)) dX4_says_245 h 246 rfl (fun u211 h => ?_)
                      refine ww_goto C 288 dX4_says_246 (by decide) ?_
                      refine ww_iinc C 10 (1 : Int32) (by decide) (fun v212 => [(9, .int v212), (10, .int v150), (0, .ref (ad b)), (1, .int a1), (2, .int a2), (3, .int a3), (4, .int a4), (5, .int a5), (6, .int a6), (7, .int a7), (8, .int x8)]) dX4_says_288 rfl (by decide) (fun _ => rfl) h 291 rfl (fun v212 h => ?_)
                      refine ww_goto C 78 dX4_says_291 (by decide) ?_
                      exact ww_sub [2, 3, 4, 5, 6, 7, 8, 9, 10, 0] rfl (ih _ _ _ h)
                · refine ww_aload_n C 1 dX4_says_185 rfl rfl 186 rfl ?_
                  refine ww_getS C cl_X4 (obText hb hn) 5 (by decide) rfl (b + 4) (so_text hb 5 4 (by decide)) w_128 dX4_says_186 189 rfl ?_
                  refine ww_iload C 9 dX4_says_189 rfl 191 rfl ?_
                  refine ww_iconst C (1 : Int32) dX4_says_191 (by decide) 192 rfl ?_
                  refine ww_isub C dX4_says_192 193 rfl ?_
                  refine ww_aload_n C 1 dX4_says_193 rfl rfl 194 rfl ?_
                  refine ww_getS C cl_X4 (obText hb hn) 5 (by decide) rfl (b + 4) (so_text hb 5 4 (by decide)) w_128 dX4_says_194 197 rfl ?_
                  refine ww_iload C 9 dX4_says_197 rfl 199 rfl ?_
                  refine ww_iconst C (1 : Int32) dX4_says_199 (by decide) 200 rfl ?_
                  refine ww_isub C dX4_says_200 201 rfl ?_
                  refine ww_iald C (iaText (q := b) hb hn 4 40 (by decide)) dX4_says_201 h 202 rfl (fun h => ?_)
                  refine ww_if_ne C 209 dX4_says_202 (by decide) h 205 rfl (fun h => ?_) (fun h => ?_)
                  · refine ww_iconst C (0 : Int32) dX4_says_209 (by decide) 210 rfl ?_
                    refine ww_iast C (iaText (q := b) hb hn 4 40 (by decide)) dX4_says_210 h 211 rfl (fun u213 h => ?_)
                    refine ww_goto C 288 dX4_says_211 (by decide) ?_
                    refine ww_iinc C 10 (1 : Int32) (by decide) (fun v214 => [(9, .int v214), (10, .int v150), (0, .ref (ad b)), (1, .int a1), (2, .int a2), (3, .int a3), (4, .int a4), (5, .int a5), (6, .int a6), (7, .int a7), (8, .int x8)]) dX4_says_288 rfl (by decide) (fun _ => rfl) h 291 rfl (fun v214 h => ?_)
                    refine ww_goto C 78 dX4_says_291 (by decide) ?_
                    exact ww_sub [2, 3, 4, 5, 6, 7, 8, 9, 10, 0] rfl (ih _ _ _ h)
                  · refine ww_iconst C (1 : Int32) dX4_says_205 (by decide) 206 rfl ?_
                    refine ww_goto C 210 dX4_says_206 (by decide) ?_
                    refine ww_iast C (iaText (q := b) hb hn 4 40 (by decide)) dX4_says_210 h 211 rfl (fun u215 h => ?_)
                    refine ww_goto C 288 dX4_says_211 (by decide) ?_
                    refine ww_iinc C 10 (1 : Int32) (by decide) (fun v216 => [(9, .int v216), (10, .int v150), (0, .ref (ad b)), (1, .int a1), (2, .int a2), (3, .int a3), (4, .int a4), (5, .int a5), (6, .int a6), (7, .int a7), (8, .int x8)]) dX4_says_288 rfl (by decide) (fun _ => rfl) h 291 rfl (fun v216 h => ?_)
                    refine ww_goto C 78 dX4_says_291 (by decide) ?_
                    exact ww_sub [2, 3, 4, 5, 6, 7, 8, 9, 10, 0] rfl (ih _ _ _ h)
            · refine ww_aload_n C 1 dX4_says_148 rfl rfl 149 rfl ?_
              refine ww_getS C cl_X4 (obText hb hn) 5 (by decide) rfl (b + 4) (so_text hb 5 4 (by decide)) w_128 dX4_says_149 152 rfl ?_
              refine ww_iload C 9 dX4_says_152 rfl 154 rfl ?_
              refine ww_aload_n C 1 dX4_says_154 rfl rfl 155 rfl ?_
              refine ww_getS C cl_X4 (obText hb hn) 4 (by decide) rfl (b + 3) (so_text hb 4 3 (by decide)) w_127 dX4_says_155 158 rfl ?_
              refine ww_iload C 0 dX4_says_158 rfl 160 rfl ?_
              refine ww_sipush C (266 : Int32) dX4_says_160 (by decide) 163 rfl ?_
              refine ww_isub C dX4_says_163 164 rfl ?_
              refine ww_iald C (iaText (q := b) hb hn 3 6 (by decide)) dX4_says_164 h 165 rfl (fun h => ?_)
              refine ww_iast C (iaText (q := b) hb hn 4 40 (by decide)) dX4_says_165 h 166 rfl (fun u217 h => ?_)
              refine ww_iinc C 9 (1 : Int32) (by decide) (fun v218 => [(8, .int v218), (10, .int v150), (0, .ref (ad b)), (1, .int a1), (2, .int a2), (3, .int a3), (4, .int a4), (5, .int a5), (6, .int a6), (7, .int a7), (9, .int x9)]) dX4_says_166 rfl (by decide) (fun _ => rfl) h 169 rfl (fun v218 h => ?_)
              refine ww_goto C 288 dX4_says_169 (by decide) ?_
              refine ww_iinc C 10 (1 : Int32) (by decide) (fun v219 => [(9, .int v219), (8, .int v218), (10, .int v150), (0, .ref (ad b)), (1, .int a1), (2, .int a2), (3, .int a3), (4, .int a4), (5, .int a5), (6, .int a6), (7, .int a7)]) dX4_says_288 rfl (by decide) (fun _ => rfl) h 291 rfl (fun v219 h => ?_)
              refine ww_goto C 78 dX4_says_291 (by decide) ?_
              exact ww_sub [3, 4, 5, 6, 7, 8, 9, 10, 1, 0] rfl (ih _ _ _ h)
        · refine ww_iload C 9 dX4_says_104 rfl 106 rfl ?_
          refine ww_aload_n C 1 dX4_says_106 rfl rfl 107 rfl ?_
          refine ww_getS C cl_X4 (obText hb hn) 5 (by decide) rfl (b + 4) (so_text hb 5 4 (by decide)) w_128 dX4_says_107 110 rfl ?_
          refine ww_alen C (iaText (q := b) hb hn 4 40 (by decide)) (40 : Int32) (by decide) dX4_says_110 111 rfl ?_
          refine ww_icmp_ge C 130 dX4_says_111 (by decide) h 114 rfl (fun h => ?_) (fun h => ?_)
          · refine ww_iload C 0 dX4_says_130 rfl 132 rfl ?_
            refine ww_callSi C (As := [.int v150]) (st := []) h (fun _ _ hF => k_X3_isName hn hF) w_466 cm_X3_isName (by decide) (by decide) rfl rfl (Nat.le_of_ble_eq_true rfl) dX4_says_132 135 rfl (fun v221 u220 h => ?_)
            refine ww_if_eq C 172 dX4_says_135 (by decide) h 138 rfl (fun h => ?_) (fun h => ?_)
            · refine ww_iload C 0 dX4_says_172 rfl 174 rfl ?_
              refine ww_sipush C (265 : Int32) dX4_says_174 (by decide) 177 rfl ?_
              refine ww_icmp_ne C 214 dX4_says_177 (by decide) h 180 rfl (fun h => ?_) (fun h => ?_)
              · refine ww_iload C 0 dX4_says_214 rfl 216 rfl ?_
                refine ww_sipush C (259 : Int32) dX4_says_216 (by decide) 219 rfl ?_
                refine ww_icmp_ne C 249 dX4_says_219 (by decide) h 222 rfl (fun h => ?_) (fun h => ?_)
                · refine ww_iload C 9 dX4_says_249 rfl 251 rfl ?_
                  refine ww_iconst C (1 : Int32) dX4_says_251 (by decide) 252 rfl ?_
                  refine ww_icmp_le C 288 dX4_says_252 (by decide) h 255 rfl (fun h => ?_) (fun h => ?_)
                  · refine ww_iinc C 10 (1 : Int32) (by decide) (fun v222 => [(9, .int v222), (10, .int v150), (0, .ref (ad b)), (1, .int a1), (2, .int a2), (3, .int a3), (4, .int a4), (5, .int a5), (6, .int a6), (7, .int a7), (8, .int x8)]) dX4_says_288 rfl (by decide) (fun _ => rfl) h 291 rfl (fun v222 h => ?_)
                    refine ww_goto C 78 dX4_says_291 (by decide) ?_
                    exact ww_sub [2, 3, 4, 5, 6, 7, 8, 9, 10, 0] rfl (ih _ _ _ h)
                  · refine ww_iinc C 9 (-1 : Int32) (by decide) (fun v223 => [(8, .int v223), (10, .int v150), (0, .ref (ad b)), (1, .int a1), (2, .int a2), (3, .int a3), (4, .int a4), (5, .int a5), (6, .int a6), (7, .int a7), (9, .int x9)]) dX4_says_255 rfl (by decide) (fun _ => rfl) h 258 rfl (fun v223 h => ?_)
                    refine ww_aload_n C 2 dX4_says_258 rfl rfl 259 rfl ?_
                    refine ww_getS C cl_X4 (obText hb hn) 5 (by decide) rfl (b + 4) (so_text hb 5 4 (by decide)) w_128 dX4_says_259 262 rfl ?_
                    refine ww_iload C 0 dX4_says_262 rfl 264 rfl ?_
                    refine ww_iconst C (1 : Int32) dX4_says_264 (by decide) 265 rfl ?_
                    refine ww_isub C dX4_says_265 266 rfl ?_
                    refine ww_iload C 1 dX4_says_266 rfl 268 rfl ?_
                    refine ww_aload_n C 2 dX4_says_268 rfl rfl 269 rfl ?_
                    refine ww_getS C cl_X4 (obText hb hn) 5 (by decide) rfl (b + 4) (so_text hb 5 4 (by decide)) w_128 dX4_says_269 272 rfl ?_
                    refine ww_iload C 0 dX4_says_272 rfl 274 rfl ?_
                    refine ww_iconst C (1 : Int32) dX4_says_274 (by decide) 275 rfl ?_
                    refine ww_isub C dX4_says_275 276 rfl ?_
                    refine ww_iald C (iaText (q := b) hb hn 4 40 (by decide)) dX4_says_276 h 277 rfl (fun h => ?_)
                    refine ww_aload_n C 2 dX4_says_277 rfl rfl 278 rfl ?_
                    refine ww_getS C cl_X4 (obText hb hn) 5 (by decide) rfl (b + 4) (so_text hb 5 4 (by decide)) w_128 dX4_says_278 281 rfl ?_
                    refine ww_iload C 0 dX4_says_281 rfl 283 rfl ?_
                    refine ww_iald C (iaText (q := b) hb hn 4 40 (by decide)) dX4_says_283 h 284 rfl (fun h => ?_)
                    refine ww_callSi C (As := [.int v150, .int (u220.1 (b + 4) (v223 - (1 : Int32)).toNatClampNeg), .int (u220.1 (b + 4) (v223).toNatClampNeg)]) (st := [.int (v223 - (1 : Int32)), .ref (ad (b + 4))]) h (fun _ _ hF => k_X4_joined hn hF) w_467 cm_X4_joined (by decide) (by decide) rfl rfl (Nat.le_of_ble_eq_true rfl) dX4_says_284 287 rfl (fun v225 u224 h => ?_)
                    refine ww_iast C (iaText (q := b) hb hn 4 40 (by decide)) dX4_says_287 h 288 rfl (fun u226 h => ?_)
                    refine ww_iinc C 10 (1 : Int32) (by decide) (fun v227 => [(9, .int v227), (8, .int v223), (10, .int v150), (0, .ref (ad b)), (1, .int a1), (2, .int a2), (3, .int a3), (4, .int a4), (5, .int a5), (6, .int a6), (7, .int a7)]) dX4_says_288 rfl (by decide) (fun _ => rfl) h 291 rfl (fun v227 h => ?_)
                    refine ww_goto C 78 dX4_says_291 (by decide) ?_
                    exact ww_sub [3, 4, 5, 6, 7, 8, 9, 10, 1, 0] rfl (ih _ _ _ h)
                · refine ww_iload C 9 dX4_says_222 rfl 224 rfl ?_
                  refine ww_if_le C 249 dX4_says_224 (by decide) h 227 rfl (fun h => ?_) (fun h => ?_)
                  · refine ww_iload C 9 dX4_says_249 rfl 251 rfl ?_
                    refine ww_iconst C (1 : Int32) dX4_says_251 (by decide) 252 rfl ?_
                    refine ww_icmp_le C 288 dX4_says_252 (by decide) h 255 rfl (fun h => ?_) (fun h => ?_)
                    · refine ww_iinc C 10 (1 : Int32) (by decide) (fun v228 => [(9, .int v228), (10, .int v150), (0, .ref (ad b)), (1, .int a1), (2, .int a2), (3, .int a3), (4, .int a4), (5, .int a5), (6, .int a6), (7, .int a7), (8, .int x8)]) dX4_says_288 rfl (by decide) (fun _ => rfl) h 291 rfl (fun v228 h => ?_)
                      refine ww_goto C 78 dX4_says_291 (by decide) ?_
                      exact ww_sub [2, 3, 4, 5, 6, 7, 8, 9, 10, 0] rfl (ih _ _ _ h)
                    · refine ww_iinc C 9 (-1 : Int32) (by decide) (fun v229 => [(8, .int v229), (10, .int v150), (0, .ref (ad b)), (1, .int a1), (2, .int a2), (3, .int a3), (4, .int a4), (5, .int a5), (6, .int a6), (7, .int a7), (9, .int x9)]) dX4_says_255 rfl (by decide) (fun _ => rfl) h 258 rfl (fun v229 h => ?_)
                      refine ww_aload_n C 2 dX4_says_258 rfl rfl 259 rfl ?_
                      refine ww_getS C cl_X4 (obText hb hn) 5 (by decide) rfl (b + 4) (so_text hb 5 4 (by decide)) w_128 dX4_says_259 262 rfl ?_
                      refine ww_iload C 0 dX4_says_262 rfl 264 rfl ?_
                      refine ww_iconst C (1 : Int32) dX4_says_264 (by decide) 265 rfl ?_
                      refine ww_isub C dX4_says_265 266 rfl ?_
                      refine ww_iload C 1 dX4_says_266 rfl 268 rfl ?_
                      refine ww_aload_n C 2 dX4_says_268 rfl rfl 269 rfl ?_
                      refine ww_getS C cl_X4 (obText hb hn) 5 (by decide) rfl (b + 4) (so_text hb 5 4 (by decide)) w_128 dX4_says_269 272 rfl ?_
                      refine ww_iload C 0 dX4_says_272 rfl 274 rfl ?_
                      refine ww_iconst C (1 : Int32) dX4_says_274 (by decide) 275 rfl ?_
                      refine ww_isub C dX4_says_275 276 rfl ?_
                      refine ww_iald C (iaText (q := b) hb hn 4 40 (by decide)) dX4_says_276 h 277 rfl (fun h => ?_)
                      refine ww_aload_n C 2 dX4_says_277 rfl rfl 278 rfl ?_
                      refine ww_getS C cl_X4 (obText hb hn) 5 (by decide) rfl (b + 4) (so_text hb 5 4 (by decide)) w_128 dX4_says_278 281 rfl ?_
                      refine ww_iload C 0 dX4_says_281 rfl 283 rfl ?_
                      refine ww_iald C (iaText (q := b) hb hn 4 40 (by decide)) dX4_says_283 h 284 rfl (fun h => ?_)
                      refine ww_callSi C (As := [.int v150, .int (u220.1 (b + 4) (v229 - (1 : Int32)).toNatClampNeg), .int (u220.1 (b + 4) (v229).toNatClampNeg)]) (st := [.int (v229 - (1 : Int32)), .ref (ad (b + 4))]) h (fun _ _ hF => k_X4_joined hn hF) w_467 cm_X4_joined (by decide) (by decide) rfl rfl (Nat.le_of_ble_eq_true rfl) dX4_says_284 287 rfl (fun v231 u230 h => ?_)
                      refine ww_iast C (iaText (q := b) hb hn 4 40 (by decide)) dX4_says_287 h 288 rfl (fun u232 h => ?_)
                      refine ww_iinc C 10 (1 : Int32) (by decide) (fun v233 => [(9, .int v233), (8, .int v229), (10, .int v150), (0, .ref (ad b)), (1, .int a1), (2, .int a2), (3, .int a3), (4, .int a4), (5, .int a5), (6, .int a6), (7, .int a7)]) dX4_says_288 rfl (by decide) (fun _ => rfl) h 291 rfl (fun v233 h => ?_)
                      refine ww_goto C 78 dX4_says_291 (by decide) ?_
                      exact ww_sub [3, 4, 5, 6, 7, 8, 9, 10, 1, 0] rfl (ih _ _ _ h)
                  · refine ww_aload_n C 1 dX4_says_227 rfl rfl 228 rfl ?_
                    refine ww_getS C cl_X4 (obText hb hn) 5 (by decide) rfl (b + 4) (so_text hb 5 4 (by decide)) w_128 dX4_says_228 231 rfl ?_
                    refine ww_iload C 9 dX4_says_231 rfl 233 rfl ?_
                    refine ww_iconst C (1 : Int32) dX4_says_233 (by decide) 234 rfl ?_
                    refine ww_isub C dX4_says_234 235 rfl ?_
                    refine ww_aload_n C 1 dX4_says_235 rfl rfl 236 rfl ?_
                    refine ww_getS C cl_X4 (obText hb hn) 5 (by decide) rfl (b + 4) (so_text hb 5 4 (by decide)) w_128 dX4_says_236 239 rfl ?_
                    refine ww_iload C 9 dX4_says_239 rfl 241 rfl ?_
                    refine ww_iconst C (1 : Int32) dX4_says_241 (by decide) 242 rfl ?_
                    refine ww_isub C dX4_says_242 243 rfl ?_
                    refine ww_iald C (iaText (q := b) hb hn 4 40 (by decide)) dX4_says_243 h 244 rfl (fun h => ?_)
                    refine ww_ineg C dX4_says_244 245 rfl ?_
                    refine ww_iast C (iaText (q := b) hb hn 4 40 (by decide)) dX4_says_245 h 246 rfl (fun u234 h => ?_)
                    refine ww_goto C 288 dX4_says_246 (by decide) ?_
                    refine ww_iinc C 10 (1 : Int32) (by decide) (fun v235 => [(9, .int v235), (10, .int v150), (0, .ref (ad b)), (1, .int a1), (2, .int a2), (3, .int a3), (4, .int a4), (5, .int a5), (6, .int a6), (7, .int a7), (8, .int x8)]) dX4_says_288 rfl (by decide) (fun _ => rfl) h 291 rfl (fun v235 h => ?_)
                    refine ww_goto C 78 dX4_says_291 (by decide) ?_
                    exact ww_sub [2, 3, 4, 5, 6, 7, 8, 9, 10, 0] rfl (ih _ _ _ h)
              · refine ww_iload C 9 dX4_says_180 rfl 182 rfl ?_
                refine ww_if_le C 214 dX4_says_182 (by decide) h 185 rfl (fun h => ?_) (fun h => ?_)
                · refine ww_iload C 0 dX4_says_214 rfl 216 rfl ?_
                  refine ww_sipush C (259 : Int32) dX4_says_216 (by decide) 219 rfl ?_
                  refine ww_icmp_ne C 249 dX4_says_219 (by decide) h 222 rfl (fun h => ?_) (fun h => ?_)
                  · refine ww_iload C 9 dX4_says_249 rfl 251 rfl ?_
                    refine ww_iconst C (1 : Int32) dX4_says_251 (by decide) 252 rfl ?_
                    refine ww_icmp_le C 288 dX4_says_252 (by decide) h 255 rfl (fun h => ?_) (fun h => ?_)
                    · refine ww_iinc C 10 (1 : Int32) (by decide) (fun v236 => [(9, .int v236), (10, .int v150), (0, .ref (ad b)), (1, .int a1), (2, .int a2), (3, .int a3), (4, .int a4), (5, .int a5), (6, .int a6), (7, .int a7), (8, .int x8)]) dX4_says_288 rfl (by decide) (fun _ => rfl) h 291 rfl (fun v236 h => ?_)
                      refine ww_goto C 78 dX4_says_291 (by decide) ?_
                      exact ww_sub [2, 3, 4, 5, 6, 7, 8, 9, 10, 0] rfl (ih _ _ _ h)
                    · refine ww_iinc C 9 (-1 : Int32) (by decide) (fun v237 => [(8, .int v237), (10, .int v150), (0, .ref (ad b)), (1, .int a1), (2, .int a2), (3, .int a3), (4, .int a4), (5, .int a5), (6, .int a6), (7, .int a7), (9, .int x9)]) dX4_says_255 rfl (by decide) (fun _ => rfl) h 258 rfl (fun v237 h => ?_)
                      refine ww_aload_n C 2 dX4_says_258 rfl rfl 259 rfl ?_
                      refine ww_getS C cl_X4 (obText hb hn) 5 (by decide) rfl (b + 4) (so_text hb 5 4 (by decide)) w_128 dX4_says_259 262 rfl ?_
                      refine ww_iload C 0 dX4_says_262 rfl 264 rfl ?_
                      refine ww_iconst C (1 : Int32) dX4_says_264 (by decide) 265 rfl ?_
                      refine ww_isub C dX4_says_265 266 rfl ?_
                      refine ww_iload C 1 dX4_says_266 rfl 268 rfl ?_
                      refine ww_aload_n C 2 dX4_says_268 rfl rfl 269 rfl ?_
                      refine ww_getS C cl_X4 (obText hb hn) 5 (by decide) rfl (b + 4) (so_text hb 5 4 (by decide)) w_128 dX4_says_269 272 rfl ?_
                      refine ww_iload C 0 dX4_says_272 rfl 274 rfl ?_
                      refine ww_iconst C (1 : Int32) dX4_says_274 (by decide) 275 rfl ?_
                      refine ww_isub C dX4_says_275 276 rfl ?_
                      refine ww_iald C (iaText (q := b) hb hn 4 40 (by decide)) dX4_says_276 h 277 rfl (fun h => ?_)
                      refine ww_aload_n C 2 dX4_says_277 rfl rfl 278 rfl ?_
                      refine ww_getS C cl_X4 (obText hb hn) 5 (by decide) rfl (b + 4) (so_text hb 5 4 (by decide)) w_128 dX4_says_278 281 rfl ?_
                      refine ww_iload C 0 dX4_says_281 rfl 283 rfl ?_
                      refine ww_iald C (iaText (q := b) hb hn 4 40 (by decide)) dX4_says_283 h 284 rfl (fun h => ?_)
                      refine ww_callSi C (As := [.int v150, .int (u220.1 (b + 4) (v237 - (1 : Int32)).toNatClampNeg), .int (u220.1 (b + 4) (v237).toNatClampNeg)]) (st := [.int (v237 - (1 : Int32)), .ref (ad (b + 4))]) h (fun _ _ hF => k_X4_joined hn hF) w_467 cm_X4_joined (by decide) (by decide) rfl rfl (Nat.le_of_ble_eq_true rfl) dX4_says_284 287 rfl (fun v239 u238 h => ?_)
                      refine ww_iast C (iaText (q := b) hb hn 4 40 (by decide)) dX4_says_287 h 288 rfl (fun u240 h => ?_)
                      refine ww_iinc C 10 (1 : Int32) (by decide) (fun v241 => [(9, .int v241), (8, .int v237), (10, .int v150), (0, .ref (ad b)), (1, .int a1), (2, .int a2), (3, .int a3), (4, .int a4), (5, .int a5), (6, .int a6), (7, .int a7)]) dX4_says_288 rfl (by decide) (fun _ => rfl) h 291 rfl (fun v241 h => ?_)
                      refine ww_goto C 78 dX4_says_291 (by decide) ?_
                      exact ww_sub [3, 4, 5, 6, 7, 8, 9, 10, 1, 0] rfl (ih _ _ _ h)
                  · refine ww_iload C 9 dX4_says_222 rfl 224 rfl ?_
                    refine ww_if_le C 249 dX4_says_224 (by decide) h 227 rfl (fun h => ?_) (fun h => ?_)
                    · refine ww_iload C 9 dX4_says_249 rfl 251 rfl ?_
                      refine ww_iconst C (1 : Int32) dX4_says_251 (by decide) 252 rfl ?_
                      refine ww_icmp_le C 288 dX4_says_252 (by decide) h 255 rfl (fun h => ?_) (fun h => ?_)
                      · refine ww_iinc C 10 (1 : Int32) (by decide) (fun v242 => [(9, .int v242), (10, .int v150), (0, .ref (ad b)), (1, .int a1), (2, .int a2), (3, .int a3), (4, .int a4), (5, .int a5), (6, .int a6), (7, .int a7), (8, .int x8)]) dX4_says_288 rfl (by decide) (fun _ => rfl) h 291 rfl (fun v242 h => ?_)
                        refine ww_goto C 78 dX4_says_291 (by decide) ?_
                        exact ww_sub [2, 3, 4, 5, 6, 7, 8, 9, 10, 0] rfl (ih _ _ _ h)
                      · refine ww_iinc C 9 (-1 : Int32) (by decide) (fun v243 => [(8, .int v243), (10, .int v150), (0, .ref (ad b)), (1, .int a1), (2, .int a2), (3, .int a3), (4, .int a4), (5, .int a5), (6, .int a6), (7, .int a7), (9, .int x9)]) dX4_says_255 rfl (by decide) (fun _ => rfl) h 258 rfl (fun v243 h => ?_)
                        refine ww_aload_n C 2 dX4_says_258 rfl rfl 259 rfl ?_
                        refine ww_getS C cl_X4 (obText hb hn) 5 (by decide) rfl (b + 4) (so_text hb 5 4 (by decide)) w_128 dX4_says_259 262 rfl ?_
                        refine ww_iload C 0 dX4_says_262 rfl 264 rfl ?_
                        refine ww_iconst C (1 : Int32) dX4_says_264 (by decide) 265 rfl ?_
                        refine ww_isub C dX4_says_265 266 rfl ?_
                        refine ww_iload C 1 dX4_says_266 rfl 268 rfl ?_
                        refine ww_aload_n C 2 dX4_says_268 rfl rfl 269 rfl ?_
                        refine ww_getS C cl_X4 (obText hb hn) 5 (by decide) rfl (b + 4) (so_text hb 5 4 (by decide)) w_128 dX4_says_269 272 rfl ?_
                        refine ww_iload C 0 dX4_says_272 rfl 274 rfl ?_
                        refine ww_iconst C (1 : Int32) dX4_says_274 (by decide) 275 rfl ?_
                        refine ww_isub C dX4_says_275 276 rfl ?_
                        refine ww_iald C (iaText (q := b) hb hn 4 40 (by decide)) dX4_says_276 h 277 rfl (fun h => ?_)
                        refine ww_aload_n C 2 dX4_says_277 rfl rfl 278 rfl ?_
                        refine ww_getS C cl_X4 (obText hb hn) 5 (by decide) rfl (b + 4) (so_text hb 5 4 (by decide)) w_128 dX4_says_278 281 rfl ?_
                        refine ww_iload C 0 dX4_says_281 rfl 283 rfl ?_
                        refine ww_iald C (iaText (q := b) hb hn 4 40 (by decide)) dX4_says_283 h 284 rfl (fun h => ?_)
                        refine ww_callSi C (As := [.int v150, .int (u220.1 (b + 4) (v243 - (1 : Int32)).toNatClampNeg), .int (u220.1 (b + 4) (v243).toNatClampNeg)]) (st := [.int (v243 - (1 : Int32)), .ref (ad (b + 4))]) h (fun _ _ hF => k_X4_joined hn hF) w_467 cm_X4_joined (by decide) (by decide) rfl rfl (Nat.le_of_ble_eq_true rfl) dX4_says_284 287 rfl (fun v245 u244 h => ?_)
                        refine ww_iast C (iaText (q := b) hb hn 4 40 (by decide)) dX4_says_287 h 288 rfl (fun u246 h => ?_)
                        refine ww_iinc C 10 (1 : Int32) (by decide) (fun v247 => [(9, .int v247), (8, .int v243), (10, .int v150), (0, .ref (ad b)), (1, .int a1), (2, .int a2), (3, .int a3), (4, .int a4), (5, .int a5), (6, .int a6), (7, .int a7)]) dX4_says_288 rfl (by decide) (fun _ => rfl) h 291 rfl (fun v247 h => ?_)
                        refine ww_goto C 78 dX4_says_291 (by decide) ?_
                        exact ww_sub [3, 4, 5, 6, 7, 8, 9, 10, 1, 0] rfl (ih _ _ _ h)
                    · refine ww_aload_n C 1 dX4_says_227 rfl rfl 228 rfl ?_
                      refine ww_getS C cl_X4 (obText hb hn) 5 (by decide) rfl (b + 4) (so_text hb 5 4 (by decide)) w_128 dX4_says_228 231 rfl ?_
                      refine ww_iload C 9 dX4_says_231 rfl 233 rfl ?_
                      refine ww_iconst C (1 : Int32) dX4_says_233 (by decide) 234 rfl ?_
                      refine ww_isub C dX4_says_234 235 rfl ?_
                      refine ww_aload_n C 1 dX4_says_235 rfl rfl 236 rfl ?_
                      refine ww_getS C cl_X4 (obText hb hn) 5 (by decide) rfl (b + 4) (so_text hb 5 4 (by decide)) w_128 dX4_says_236 239 rfl ?_
                      refine ww_iload C 9 dX4_says_239 rfl 241 rfl ?_
                      refine ww_iconst C (1 : Int32) dX4_says_241 (by decide) 242 rfl ?_
                      refine ww_isub C dX4_says_242 243 rfl ?_
                      refine ww_iald C (iaText (q := b) hb hn 4 40 (by decide)) dX4_says_243 h 244 rfl (fun h => ?_)
                      refine ww_ineg C dX4_says_244 245 rfl ?_
                      refine ww_iast C (iaText (q := b) hb hn 4 40 (by decide)) dX4_says_245 h 246 rfl (fun u248 h => ?_)
                      refine ww_goto C 288 dX4_says_246 (by decide) ?_
                      refine ww_iinc C 10 (1 : Int32) (by decide) (fun v249 => [(9, .int v249), (10, .int v150), (0, .ref (ad b)), (1, .int a1), (2, .int a2), (3, .int a3), (4, .int a4), (5, .int a5), (6, .int a6), (7, .int a7), (8, .int x8)]) dX4_says_288 rfl (by decide) (fun _ => rfl) h 291 rfl (fun v249 h => ?_)
                      refine ww_goto C 78 dX4_says_291 (by decide) ?_
                      exact ww_sub [2, 3, 4, 5, 6, 7, 8, 9, 10, 0] rfl (ih _ _ _ h)
                · refine ww_aload_n C 1 dX4_says_185 rfl rfl 186 rfl ?_
                  refine ww_getS C cl_X4 (obText hb hn) 5 (by decide) rfl (b + 4) (so_text hb 5 4 (by decide)) w_128 dX4_says_186 189 rfl ?_
                  refine ww_iload C 9 dX4_says_189 rfl 191 rfl ?_
                  refine ww_iconst C (1 : Int32) dX4_says_191 (by decide) 192 rfl ?_
                  refine ww_isub C dX4_says_192 193 rfl ?_
                  refine ww_aload_n C 1 dX4_says_193 rfl rfl 194 rfl ?_
                  refine ww_getS C cl_X4 (obText hb hn) 5 (by decide) rfl (b + 4) (so_text hb 5 4 (by decide)) w_128 dX4_says_194 197 rfl ?_
                  refine ww_iload C 9 dX4_says_197 rfl 199 rfl ?_
                  refine ww_iconst C (1 : Int32) dX4_says_199 (by decide) 200 rfl ?_
                  refine ww_isub C dX4_says_200 201 rfl ?_
                  refine ww_iald C (iaText (q := b) hb hn 4 40 (by decide)) dX4_says_201 h 202 rfl (fun h => ?_)
                  refine ww_if_ne C 209 dX4_says_202 (by decide) h 205 rfl (fun h => ?_) (fun h => ?_)
                  · refine ww_iconst C (0 : Int32) dX4_says_209 (by decide) 210 rfl ?_
                    refine ww_iast C (iaText (q := b) hb hn 4 40 (by decide)) dX4_says_210 h 211 rfl (fun u250 h => ?_)
                    refine ww_goto C 288 dX4_says_211 (by decide) ?_
                    refine ww_iinc C 10 (1 : Int32) (by decide) (fun v251 => [(9, .int v251), (10, .int v150), (0, .ref (ad b)), (1, .int a1), (2, .int a2), (3, .int a3), (4, .int a4), (5, .int a5), (6, .int a6), (7, .int a7), (8, .int x8)]) dX4_says_288 rfl (by decide) (fun _ => rfl) h 291 rfl (fun v251 h => ?_)
                    refine ww_goto C 78 dX4_says_291 (by decide) ?_
                    exact ww_sub [2, 3, 4, 5, 6, 7, 8, 9, 10, 0] rfl (ih _ _ _ h)
                  · refine ww_iconst C (1 : Int32) dX4_says_205 (by decide) 206 rfl ?_
                    refine ww_goto C 210 dX4_says_206 (by decide) ?_
                    refine ww_iast C (iaText (q := b) hb hn 4 40 (by decide)) dX4_says_210 h 211 rfl (fun u252 h => ?_)
                    refine ww_goto C 288 dX4_says_211 (by decide) ?_
                    refine ww_iinc C 10 (1 : Int32) (by decide) (fun v253 => [(9, .int v253), (10, .int v150), (0, .ref (ad b)), (1, .int a1), (2, .int a2), (3, .int a3), (4, .int a4), (5, .int a5), (6, .int a6), (7, .int a7), (8, .int x8)]) dX4_says_288 rfl (by decide) (fun _ => rfl) h 291 rfl (fun v253 h => ?_)
                    refine ww_goto C 78 dX4_says_291 (by decide) ?_
                    exact ww_sub [2, 3, 4, 5, 6, 7, 8, 9, 10, 0] rfl (ih _ _ _ h)
            · refine ww_iload C 9 dX4_says_138 rfl 140 rfl ?_
              refine ww_aload_n C 1 dX4_says_140 rfl rfl 141 rfl ?_
              refine ww_getS C cl_X4 (obText hb hn) 5 (by decide) rfl (b + 4) (so_text hb 5 4 (by decide)) w_128 dX4_says_141 144 rfl ?_
              refine ww_alen C (iaText (q := b) hb hn 4 40 (by decide)) (40 : Int32) (by decide) dX4_says_144 145 rfl ?_
              refine ww_icmp_ge C 172 dX4_says_145 (by decide) h 148 rfl (fun h => ?_) (fun h => ?_)
              · refine ww_iload C 0 dX4_says_172 rfl 174 rfl ?_
                refine ww_sipush C (265 : Int32) dX4_says_174 (by decide) 177 rfl ?_
                refine ww_icmp_ne C 214 dX4_says_177 (by decide) h 180 rfl (fun h => ?_) (fun h => ?_)
                · refine ww_iload C 0 dX4_says_214 rfl 216 rfl ?_
                  refine ww_sipush C (259 : Int32) dX4_says_216 (by decide) 219 rfl ?_
                  refine ww_icmp_ne C 249 dX4_says_219 (by decide) h 222 rfl (fun h => ?_) (fun h => ?_)
                  · refine ww_iload C 9 dX4_says_249 rfl 251 rfl ?_
                    refine ww_iconst C (1 : Int32) dX4_says_251 (by decide) 252 rfl ?_
                    refine ww_icmp_le C 288 dX4_says_252 (by decide) h 255 rfl (fun h => ?_) (fun h => ?_)
                    · refine ww_iinc C 10 (1 : Int32) (by decide) (fun v254 => [(9, .int v254), (10, .int v150), (0, .ref (ad b)), (1, .int a1), (2, .int a2), (3, .int a3), (4, .int a4), (5, .int a5), (6, .int a6), (7, .int a7), (8, .int x8)]) dX4_says_288 rfl (by decide) (fun _ => rfl) h 291 rfl (fun v254 h => ?_)
                      refine ww_goto C 78 dX4_says_291 (by decide) ?_
                      exact ww_sub [2, 3, 4, 5, 6, 7, 8, 9, 10, 0] rfl (ih _ _ _ h)
                    · refine ww_iinc C 9 (-1 : Int32) (by decide) (fun v255 => [(8, .int v255), (10, .int v150), (0, .ref (ad b)), (1, .int a1), (2, .int a2), (3, .int a3), (4, .int a4), (5, .int a5), (6, .int a6), (7, .int a7), (9, .int x9)]) dX4_says_255 rfl (by decide) (fun _ => rfl) h 258 rfl (fun v255 h => ?_)
                      refine ww_aload_n C 2 dX4_says_258 rfl rfl 259 rfl ?_
                      refine ww_getS C cl_X4 (obText hb hn) 5 (by decide) rfl (b + 4) (so_text hb 5 4 (by decide)) w_128 dX4_says_259 262 rfl ?_
                      refine ww_iload C 0 dX4_says_262 rfl 264 rfl ?_
                      refine ww_iconst C (1 : Int32) dX4_says_264 (by decide) 265 rfl ?_
                      refine ww_isub C dX4_says_265 266 rfl ?_
                      refine ww_iload C 1 dX4_says_266 rfl 268 rfl ?_
                      refine ww_aload_n C 2 dX4_says_268 rfl rfl 269 rfl ?_
                      refine ww_getS C cl_X4 (obText hb hn) 5 (by decide) rfl (b + 4) (so_text hb 5 4 (by decide)) w_128 dX4_says_269 272 rfl ?_
                      refine ww_iload C 0 dX4_says_272 rfl 274 rfl ?_
                      refine ww_iconst C (1 : Int32) dX4_says_274 (by decide) 275 rfl ?_
                      refine ww_isub C dX4_says_275 276 rfl ?_
                      refine ww_iald C (iaText (q := b) hb hn 4 40 (by decide)) dX4_says_276 h 277 rfl (fun h => ?_)
                      refine ww_aload_n C 2 dX4_says_277 rfl rfl 278 rfl ?_
                      refine ww_getS C cl_X4 (obText hb hn) 5 (by decide) rfl (b + 4) (so_text hb 5 4 (by decide)) w_128 dX4_says_278 281 rfl ?_
                      refine ww_iload C 0 dX4_says_281 rfl 283 rfl ?_
                      refine ww_iald C (iaText (q := b) hb hn 4 40 (by decide)) dX4_says_283 h 284 rfl (fun h => ?_)
                      refine ww_callSi C (As := [.int v150, .int (u220.1 (b + 4) (v255 - (1 : Int32)).toNatClampNeg), .int (u220.1 (b + 4) (v255).toNatClampNeg)]) (st := [.int (v255 - (1 : Int32)), .ref (ad (b + 4))]) h (fun _ _ hF => k_X4_joined hn hF) w_467 cm_X4_joined (by decide) (by decide) rfl rfl (Nat.le_of_ble_eq_true rfl) dX4_says_284 287 rfl (fun v257 u256 h => ?_)
                      refine ww_iast C (iaText (q := b) hb hn 4 40 (by decide)) dX4_says_287 h 288 rfl (fun u258 h => ?_)
                      refine ww_iinc C 10 (1 : Int32) (by decide) (fun v259 => [(9, .int v259), (8, .int v255), (10, .int v150), (0, .ref (ad b)), (1, .int a1), (2, .int a2), (3, .int a3), (4, .int a4), (5, .int a5), (6, .int a6), (7, .int a7)]) dX4_says_288 rfl (by decide) (fun _ => rfl) h 291 rfl (fun v259 h => ?_)
                      refine ww_goto C 78 dX4_says_291 (by decide) ?_
                      exact ww_sub [3, 4, 5, 6, 7, 8, 9, 10, 1, 0] rfl (ih _ _ _ h)
                  · refine ww_iload C 9 dX4_says_222 rfl 224 rfl ?_
                    refine ww_if_le C 249 dX4_says_224 (by decide) h 227 rfl (fun h => ?_) (fun h => ?_)
                    · refine ww_iload C 9 dX4_says_249 rfl 251 rfl ?_
                      refine ww_iconst C (1 : Int32) dX4_says_251 (by decide) 252 rfl ?_
                      refine ww_icmp_le C 288 dX4_says_252 (by decide) h 255 rfl (fun h => ?_) (fun h => ?_)
                      · refine ww_iinc C 10 (1 : Int32) (by decide) (fun v260 => [(9, .int v260), (10, .int v150), (0, .ref (ad b)), (1, .int a1), (2, .int a2), (3, .int a3), (4, .int a4), (5, .int a5), (6, .int a6), (7, .int a7), (8, .int x8)]) dX4_says_288 rfl (by decide) (fun _ => rfl) h 291 rfl (fun v260 h => ?_)
                        refine ww_goto C 78 dX4_says_291 (by decide) ?_
                        exact ww_sub [2, 3, 4, 5, 6, 7, 8, 9, 10, 0] rfl (ih _ _ _ h)
                      · refine ww_iinc C 9 (-1 : Int32) (by decide) (fun v261 => [(8, .int v261), (10, .int v150), (0, .ref (ad b)), (1, .int a1), (2, .int a2), (3, .int a3), (4, .int a4), (5, .int a5), (6, .int a6), (7, .int a7), (9, .int x9)]) dX4_says_255 rfl (by decide) (fun _ => rfl) h 258 rfl (fun v261 h => ?_)
                        refine ww_aload_n C 2 dX4_says_258 rfl rfl 259 rfl ?_
                        refine ww_getS C cl_X4 (obText hb hn) 5 (by decide) rfl (b + 4) (so_text hb 5 4 (by decide)) w_128 dX4_says_259 262 rfl ?_
                        refine ww_iload C 0 dX4_says_262 rfl 264 rfl ?_
                        refine ww_iconst C (1 : Int32) dX4_says_264 (by decide) 265 rfl ?_
                        refine ww_isub C dX4_says_265 266 rfl ?_
                        refine ww_iload C 1 dX4_says_266 rfl 268 rfl ?_
                        refine ww_aload_n C 2 dX4_says_268 rfl rfl 269 rfl ?_
                        refine ww_getS C cl_X4 (obText hb hn) 5 (by decide) rfl (b + 4) (so_text hb 5 4 (by decide)) w_128 dX4_says_269 272 rfl ?_
                        refine ww_iload C 0 dX4_says_272 rfl 274 rfl ?_
                        refine ww_iconst C (1 : Int32) dX4_says_274 (by decide) 275 rfl ?_
                        refine ww_isub C dX4_says_275 276 rfl ?_
                        refine ww_iald C (iaText (q := b) hb hn 4 40 (by decide)) dX4_says_276 h 277 rfl (fun h => ?_)
                        refine ww_aload_n C 2 dX4_says_277 rfl rfl 278 rfl ?_
                        refine ww_getS C cl_X4 (obText hb hn) 5 (by decide) rfl (b + 4) (so_text hb 5 4 (by decide)) w_128 dX4_says_278 281 rfl ?_
                        refine ww_iload C 0 dX4_says_281 rfl 283 rfl ?_
                        refine ww_iald C (iaText (q := b) hb hn 4 40 (by decide)) dX4_says_283 h 284 rfl (fun h => ?_)
                        refine ww_callSi C (As := [.int v150, .int (u220.1 (b + 4) (v261 - (1 : Int32)).toNatClampNeg), .int (u220.1 (b + 4) (v261).toNatClampNeg)]) (st := [.int (v261 - (1 : Int32)), .ref (ad (b + 4))]) h (fun _ _ hF => k_X4_joined hn hF) w_467 cm_X4_joined (by decide) (by decide) rfl rfl (Nat.le_of_ble_eq_true rfl) dX4_says_284 287 rfl (fun v263 u262 h => ?_)
                        refine ww_iast C (iaText (q := b) hb hn 4 40 (by decide)) dX4_says_287 h 288 rfl (fun u264 h => ?_)
                        refine ww_iinc C 10 (1 : Int32) (by decide) (fun v265 => [(9, .int v265), (8, .int v261), (10, .int v150), (0, .ref (ad b)), (1, .int a1), (2, .int a2), (3, .int a3), (4, .int a4), (5, .int a5), (6, .int a6), (7, .int a7)]) dX4_says_288 rfl (by decide) (fun _ => rfl) h 291 rfl (fun v265 h => ?_)
                        refine ww_goto C 78 dX4_says_291 (by decide) ?_
                        exact ww_sub [3, 4, 5, 6, 7, 8, 9, 10, 1, 0] rfl (ih _ _ _ h)
                    · refine ww_aload_n C 1 dX4_says_227 rfl rfl 228 rfl ?_
                      refine ww_getS C cl_X4 (obText hb hn) 5 (by decide) rfl (b + 4) (so_text hb 5 4 (by decide)) w_128 dX4_says_228 231 rfl ?_
                      refine ww_iload C 9 dX4_says_231 rfl 233 rfl ?_
                      refine ww_iconst C (1 : Int32) dX4_says_233 (by decide) 234 rfl ?_
                      refine ww_isub C dX4_says_234 235 rfl ?_
                      refine ww_aload_n C 1 dX4_says_235 rfl rfl 236 rfl ?_
                      refine ww_getS C cl_X4 (obText hb hn) 5 (by decide) rfl (b + 4) (so_text hb 5 4 (by decide)) w_128 dX4_says_236 239 rfl ?_
                      refine ww_iload C 9 dX4_says_239 rfl 241 rfl ?_
                      refine ww_iconst C (1 : Int32) dX4_says_241 (by decide) 242 rfl ?_
                      refine ww_isub C dX4_says_242 243 rfl ?_
                      refine ww_iald C (iaText (q := b) hb hn 4 40 (by decide)) dX4_says_243 h 244 rfl (fun h => ?_)
                      refine ww_ineg C dX4_says_244 245 rfl ?_
                      refine ww_iast C (iaText (q := b) hb hn 4 40 (by decide)) dX4_says_245 h 246 rfl (fun u266 h => ?_)
                      refine ww_goto C 288 dX4_says_246 (by decide) ?_
                      refine ww_iinc C 10 (1 : Int32) (by decide) (fun v267 => [(9, .int v267), (10, .int v150), (0, .ref (ad b)), (1, .int a1), (2, .int a2), (3, .int a3), (4, .int a4), (5, .int a5), (6, .int a6), (7, .int a7), (8, .int x8)]) dX4_says_288 rfl (by decide) (fun _ => rfl) h 291 rfl (fun v267 h => ?_)
                      refine ww_goto C 78 dX4_says_291 (by decide) ?_
                      exact ww_sub [2, 3, 4, 5, 6, 7, 8, 9, 10, 0] rfl (ih _ _ _ h)
                · refine ww_iload C 9 dX4_says_180 rfl 182 rfl ?_
                  refine ww_if_le C 214 dX4_says_182 (by decide) h 185 rfl (fun h => ?_) (fun h => ?_)
                  · refine ww_iload C 0 dX4_says_214 rfl 216 rfl ?_
                    refine ww_sipush C (259 : Int32) dX4_says_216 (by decide) 219 rfl ?_
                    refine ww_icmp_ne C 249 dX4_says_219 (by decide) h 222 rfl (fun h => ?_) (fun h => ?_)
                    · refine ww_iload C 9 dX4_says_249 rfl 251 rfl ?_
                      refine ww_iconst C (1 : Int32) dX4_says_251 (by decide) 252 rfl ?_
                      refine ww_icmp_le C 288 dX4_says_252 (by decide) h 255 rfl (fun h => ?_) (fun h => ?_)
                      · refine ww_iinc C 10 (1 : Int32) (by decide) (fun v268 => [(9, .int v268), (10, .int v150), (0, .ref (ad b)), (1, .int a1), (2, .int a2), (3, .int a3), (4, .int a4), (5, .int a5), (6, .int a6), (7, .int a7), (8, .int x8)]) dX4_says_288 rfl (by decide) (fun _ => rfl) h 291 rfl (fun v268 h => ?_)
                        refine ww_goto C 78 dX4_says_291 (by decide) ?_
                        exact ww_sub [2, 3, 4, 5, 6, 7, 8, 9, 10, 0] rfl (ih _ _ _ h)
                      · refine ww_iinc C 9 (-1 : Int32) (by decide) (fun v269 => [(8, .int v269), (10, .int v150), (0, .ref (ad b)), (1, .int a1), (2, .int a2), (3, .int a3), (4, .int a4), (5, .int a5), (6, .int a6), (7, .int a7), (9, .int x9)]) dX4_says_255 rfl (by decide) (fun _ => rfl) h 258 rfl (fun v269 h => ?_)
                        refine ww_aload_n C 2 dX4_says_258 rfl rfl 259 rfl ?_
                        refine ww_getS C cl_X4 (obText hb hn) 5 (by decide) rfl (b + 4) (so_text hb 5 4 (by decide)) w_128 dX4_says_259 262 rfl ?_
                        refine ww_iload C 0 dX4_says_262 rfl 264 rfl ?_
                        refine ww_iconst C (1 : Int32) dX4_says_264 (by decide) 265 rfl ?_
                        refine ww_isub C dX4_says_265 266 rfl ?_
                        refine ww_iload C 1 dX4_says_266 rfl 268 rfl ?_
                        refine ww_aload_n C 2 dX4_says_268 rfl rfl 269 rfl ?_
                        refine ww_getS C cl_X4 (obText hb hn) 5 (by decide) rfl (b + 4) (so_text hb 5 4 (by decide)) w_128 dX4_says_269 272 rfl ?_
                        refine ww_iload C 0 dX4_says_272 rfl 274 rfl ?_
                        refine ww_iconst C (1 : Int32) dX4_says_274 (by decide) 275 rfl ?_
                        refine ww_isub C dX4_says_275 276 rfl ?_
                        refine ww_iald C (iaText (q := b) hb hn 4 40 (by decide)) dX4_says_276 h 277 rfl (fun h => ?_)
                        refine ww_aload_n C 2 dX4_says_277 rfl rfl 278 rfl ?_
                        refine ww_getS C cl_X4 (obText hb hn) 5 (by decide) rfl (b + 4) (so_text hb 5 4 (by decide)) w_128 dX4_says_278 281 rfl ?_
                        refine ww_iload C 0 dX4_says_281 rfl 283 rfl ?_
                        refine ww_iald C (iaText (q := b) hb hn 4 40 (by decide)) dX4_says_283 h 284 rfl (fun h => ?_)
                        refine ww_callSi C (As := [.int v150, .int (u220.1 (b + 4) (v269 - (1 : Int32)).toNatClampNeg), .int (u220.1 (b + 4) (v269).toNatClampNeg)]) (st := [.int (v269 - (1 : Int32)), .ref (ad (b + 4))]) h (fun _ _ hF => k_X4_joined hn hF) w_467 cm_X4_joined (by decide) (by decide) rfl rfl (Nat.le_of_ble_eq_true rfl) dX4_says_284 287 rfl (fun v271 u270 h => ?_)
                        refine ww_iast C (iaText (q := b) hb hn 4 40 (by decide)) dX4_says_287 h 288 rfl (fun u272 h => ?_)
                        refine ww_iinc C 10 (1 : Int32) (by decide) (fun v273 => [(9, .int v273), (8, .int v269), (10, .int v150), (0, .ref (ad b)), (1, .int a1), (2, .int a2), (3, .int a3), (4, .int a4), (5, .int a5), (6, .int a6), (7, .int a7)]) dX4_says_288 rfl (by decide) (fun _ => rfl) h 291 rfl (fun v273 h => ?_)
                        refine ww_goto C 78 dX4_says_291 (by decide) ?_
                        exact ww_sub [3, 4, 5, 6, 7, 8, 9, 10, 1, 0] rfl (ih _ _ _ h)
                    · refine ww_iload C 9 dX4_says_222 rfl 224 rfl ?_
                      refine ww_if_le C 249 dX4_says_224 (by decide) h 227 rfl (fun h => ?_) (fun h => ?_)
                      · refine ww_iload C 9 dX4_says_249 rfl 251 rfl ?_
                        refine ww_iconst C (1 : Int32) dX4_says_251 (by decide) 252 rfl ?_
                        refine ww_icmp_le C 288 dX4_says_252 (by decide) h 255 rfl (fun h => ?_) (fun h => ?_)
                        · refine ww_iinc C 10 (1 : Int32) (by decide) (fun v274 => [(9, .int v274), (10, .int v150), (0, .ref (ad b)), (1, .int a1), (2, .int a2), (3, .int a3), (4, .int a4), (5, .int a5), (6, .int a6), (7, .int a7), (8, .int x8)]) dX4_says_288 rfl (by decide) (fun _ => rfl) h 291 rfl (fun v274 h => ?_)
                          refine ww_goto C 78 dX4_says_291 (by decide) ?_
                          exact ww_sub [2, 3, 4, 5, 6, 7, 8, 9, 10, 0] rfl (ih _ _ _ h)
                        · refine ww_iinc C 9 (-1 : Int32) (by decide) (fun v275 => [(8, .int v275), (10, .int v150), (0, .ref (ad b)), (1, .int a1), (2, .int a2), (3, .int a3), (4, .int a4), (5, .int a5), (6, .int a6), (7, .int a7), (9, .int x9)]) dX4_says_255 rfl (by decide) (fun _ => rfl) h 258 rfl (fun v275 h => ?_)
                          refine ww_aload_n C 2 dX4_says_258 rfl rfl 259 rfl ?_
                          refine ww_getS C cl_X4 (obText hb hn) 5 (by decide) rfl (b + 4) (so_text hb 5 4 (by decide)) w_128 dX4_says_259 262 rfl ?_
                          refine ww_iload C 0 dX4_says_262 rfl 264 rfl ?_
                          refine ww_iconst C (1 : Int32) dX4_says_264 (by decide) 265 rfl ?_
                          refine ww_isub C dX4_says_265 266 rfl ?_
                          refine ww_iload C 1 dX4_says_266 rfl 268 rfl ?_
                          refine ww_aload_n C 2 dX4_says_268 rfl rfl 269 rfl ?_
                          refine ww_getS C cl_X4 (obText hb hn) 5 (by decide) rfl (b + 4) (so_text hb 5 4 (by decide)) w_128 dX4_says_269 272 rfl ?_
                          refine ww_iload C 0 dX4_says_272 rfl 274 rfl ?_
                          refine ww_iconst C (1 : Int32) dX4_says_274 (by decide) 275 rfl ?_
                          refine ww_isub C dX4_says_275 276 rfl ?_
                          refine ww_iald C (iaText (q := b) hb hn 4 40 (by decide)) dX4_says_276 h 277 rfl (fun h => ?_)
                          refine ww_aload_n C 2 dX4_says_277 rfl rfl 278 rfl ?_
                          refine ww_getS C cl_X4 (obText hb hn) 5 (by decide) rfl (b + 4) (so_text hb 5 4 (by decide)) w_128 dX4_says_278 281 rfl ?_
                          refine ww_iload C 0 dX4_says_281 rfl 283 rfl ?_
                          refine ww_iald C (iaText (q := b) hb hn 4 40 (by decide)) dX4_says_283 h 284 rfl (fun h => ?_)
                          refine ww_callSi C (As := [.int v150, .int (u220.1 (b + 4) (v275 - (1 : Int32)).toNatClampNeg), .int (u220.1 (b + 4) (v275).toNatClampNeg)]) (st := [.int (v275 - (1 : Int32)), .ref (ad (b + 4))]) h (fun _ _ hF => k_X4_joined hn hF) w_467 cm_X4_joined (by decide) (by decide) rfl rfl (Nat.le_of_ble_eq_true rfl) dX4_says_284 287 rfl (fun v277 u276 h => ?_)
                          refine ww_iast C (iaText (q := b) hb hn 4 40 (by decide)) dX4_says_287 h 288 rfl (fun u278 h => ?_)
                          refine ww_iinc C 10 (1 : Int32) (by decide) (fun v279 => [(9, .int v279), (8, .int v275), (10, .int v150), (0, .ref (ad b)), (1, .int a1), (2, .int a2), (3, .int a3), (4, .int a4), (5, .int a5), (6, .int a6), (7, .int a7)]) dX4_says_288 rfl (by decide) (fun _ => rfl) h 291 rfl (fun v279 h => ?_)
                          refine ww_goto C 78 dX4_says_291 (by decide) ?_
                          exact ww_sub [3, 4, 5, 6, 7, 8, 9, 10, 1, 0] rfl (ih _ _ _ h)
                      · refine ww_aload_n C 1 dX4_says_227 rfl rfl 228 rfl ?_
                        refine ww_getS C cl_X4 (obText hb hn) 5 (by decide) rfl (b + 4) (so_text hb 5 4 (by decide)) w_128 dX4_says_228 231 rfl ?_
                        refine ww_iload C 9 dX4_says_231 rfl 233 rfl ?_
                        refine ww_iconst C (1 : Int32) dX4_says_233 (by decide) 234 rfl ?_
                        refine ww_isub C dX4_says_234 235 rfl ?_
                        refine ww_aload_n C 1 dX4_says_235 rfl rfl 236 rfl ?_
                        refine ww_getS C cl_X4 (obText hb hn) 5 (by decide) rfl (b + 4) (so_text hb 5 4 (by decide)) w_128 dX4_says_236 239 rfl ?_
                        refine ww_iload C 9 dX4_says_239 rfl 241 rfl ?_
                        refine ww_iconst C (1 : Int32) dX4_says_241 (by decide) 242 rfl ?_
                        refine ww_isub C dX4_says_242 243 rfl ?_
                        refine ww_iald C (iaText (q := b) hb hn 4 40 (by decide)) dX4_says_243 h 244 rfl (fun h => ?_)
                        refine ww_ineg C dX4_says_244 245 rfl ?_
                        refine ww_iast C (iaText (q := b) hb hn 4 40 (by decide)) dX4_says_245 h 246 rfl (fun u280 h => ?_)
                        refine ww_goto C 288 dX4_says_246 (by decide) ?_
                        refine ww_iinc C 10 (1 : Int32) (by decide) (fun v281 => [(9, .int v281), (10, .int v150), (0, .ref (ad b)), (1, .int a1), (2, .int a2), (3, .int a3), (4, .int a4), (5, .int a5), (6, .int a6), (7, .int a7), (8, .int x8)]) dX4_says_288 rfl (by decide) (fun _ => rfl) h 291 rfl (fun v281 h => ?_)
                        refine ww_goto C 78 dX4_says_291 (by decide) ?_
                        exact ww_sub [2, 3, 4, 5, 6, 7, 8, 9, 10, 0] rfl (ih _ _ _ h)
                  · refine ww_aload_n C 1 dX4_says_185 rfl rfl 186 rfl ?_
                    refine ww_getS C cl_X4 (obText hb hn) 5 (by decide) rfl (b + 4) (so_text hb 5 4 (by decide)) w_128 dX4_says_186 189 rfl ?_
                    refine ww_iload C 9 dX4_says_189 rfl 191 rfl ?_
                    refine ww_iconst C (1 : Int32) dX4_says_191 (by decide) 192 rfl ?_
                    refine ww_isub C dX4_says_192 193 rfl ?_
                    refine ww_aload_n C 1 dX4_says_193 rfl rfl 194 rfl ?_
                    refine ww_getS C cl_X4 (obText hb hn) 5 (by decide) rfl (b + 4) (so_text hb 5 4 (by decide)) w_128 dX4_says_194 197 rfl ?_
                    refine ww_iload C 9 dX4_says_197 rfl 199 rfl ?_
                    refine ww_iconst C (1 : Int32) dX4_says_199 (by decide) 200 rfl ?_
                    refine ww_isub C dX4_says_200 201 rfl ?_
                    refine ww_iald C (iaText (q := b) hb hn 4 40 (by decide)) dX4_says_201 h 202 rfl (fun h => ?_)
                    refine ww_if_ne C 209 dX4_says_202 (by decide) h 205 rfl (fun h => ?_) (fun h => ?_)
                    · refine ww_iconst C (0 : Int32) dX4_says_209 (by decide) 210 rfl ?_
                      refine ww_iast C (iaText (q := b) hb hn 4 40 (by decide)) dX4_says_210 h 211 rfl (fun u282 h => ?_)
                      refine ww_goto C 288 dX4_says_211 (by decide) ?_
                      refine ww_iinc C 10 (1 : Int32) (by decide) (fun v283 => [(9, .int v283), (10, .int v150), (0, .ref (ad b)), (1, .int a1), (2, .int a2), (3, .int a3), (4, .int a4), (5, .int a5), (6, .int a6), (7, .int a7), (8, .int x8)]) dX4_says_288 rfl (by decide) (fun _ => rfl) h 291 rfl (fun v283 h => ?_)
                      refine ww_goto C 78 dX4_says_291 (by decide) ?_
                      exact ww_sub [2, 3, 4, 5, 6, 7, 8, 9, 10, 0] rfl (ih _ _ _ h)
                    · refine ww_iconst C (1 : Int32) dX4_says_205 (by decide) 206 rfl ?_
                      refine ww_goto C 210 dX4_says_206 (by decide) ?_
                      refine ww_iast C (iaText (q := b) hb hn 4 40 (by decide)) dX4_says_210 h 211 rfl (fun u284 h => ?_)
                      refine ww_goto C 288 dX4_says_211 (by decide) ?_
                      refine ww_iinc C 10 (1 : Int32) (by decide) (fun v285 => [(9, .int v285), (10, .int v150), (0, .ref (ad b)), (1, .int a1), (2, .int a2), (3, .int a3), (4, .int a4), (5, .int a5), (6, .int a6), (7, .int a7), (8, .int x8)]) dX4_says_288 rfl (by decide) (fun _ => rfl) h 291 rfl (fun v285 h => ?_)
                      refine ww_goto C 78 dX4_says_291 (by decide) ?_
                      exact ww_sub [2, 3, 4, 5, 6, 7, 8, 9, 10, 0] rfl (ih _ _ _ h)
              · refine ww_aload_n C 1 dX4_says_148 rfl rfl 149 rfl ?_
                refine ww_getS C cl_X4 (obText hb hn) 5 (by decide) rfl (b + 4) (so_text hb 5 4 (by decide)) w_128 dX4_says_149 152 rfl ?_
                refine ww_iload C 9 dX4_says_152 rfl 154 rfl ?_
                refine ww_aload_n C 1 dX4_says_154 rfl rfl 155 rfl ?_
                refine ww_getS C cl_X4 (obText hb hn) 4 (by decide) rfl (b + 3) (so_text hb 4 3 (by decide)) w_127 dX4_says_155 158 rfl ?_
                refine ww_iload C 0 dX4_says_158 rfl 160 rfl ?_
                refine ww_sipush C (266 : Int32) dX4_says_160 (by decide) 163 rfl ?_
                refine ww_isub C dX4_says_163 164 rfl ?_
                refine ww_iald C (iaText (q := b) hb hn 3 6 (by decide)) dX4_says_164 h 165 rfl (fun h => ?_)
                refine ww_iast C (iaText (q := b) hb hn 4 40 (by decide)) dX4_says_165 h 166 rfl (fun u286 h => ?_)
                refine ww_iinc C 9 (1 : Int32) (by decide) (fun v287 => [(8, .int v287), (10, .int v150), (0, .ref (ad b)), (1, .int a1), (2, .int a2), (3, .int a3), (4, .int a4), (5, .int a5), (6, .int a6), (7, .int a7), (9, .int x9)]) dX4_says_166 rfl (by decide) (fun _ => rfl) h 169 rfl (fun v287 h => ?_)
                refine ww_goto C 288 dX4_says_169 (by decide) ?_
                refine ww_iinc C 10 (1 : Int32) (by decide) (fun v288 => [(9, .int v288), (8, .int v287), (10, .int v150), (0, .ref (ad b)), (1, .int a1), (2, .int a2), (3, .int a3), (4, .int a4), (5, .int a5), (6, .int a6), (7, .int a7)]) dX4_says_288 rfl (by decide) (fun _ => rfl) h 291 rfl (fun v288 h => ?_)
                refine ww_goto C 78 dX4_says_291 (by decide) ?_
                exact ww_sub [3, 4, 5, 6, 7, 8, 9, 10, 1, 0] rfl (ih _ _ _ h)
          · refine ww_aload_n C 1 dX4_says_114 rfl rfl 115 rfl ?_
            refine ww_getS C cl_X4 (obText hb hn) 5 (by decide) rfl (b + 4) (so_text hb 5 4 (by decide)) w_128 dX4_says_115 118 rfl ?_
            refine ww_iload C 9 dX4_says_118 rfl 120 rfl ?_
            refine ww_iload C 0 dX4_says_120 rfl 122 rfl ?_
            refine ww_ineg C dX4_says_122 123 rfl ?_
            refine ww_iast C (iaText (q := b) hb hn 4 40 (by decide)) dX4_says_123 h 124 rfl (fun u289 h => ?_)
            refine ww_iinc C 9 (1 : Int32) (by decide) (fun v290 => [(8, .int v290), (10, .int v150), (0, .ref (ad b)), (1, .int a1), (2, .int a2), (3, .int a3), (4, .int a4), (5, .int a5), (6, .int a6), (7, .int a7), (9, .int x9)]) dX4_says_124 rfl (by decide) (fun _ => rfl) h 127 rfl (fun v290 h => ?_)
            refine ww_goto C 288 dX4_says_127 (by decide) ?_
            refine ww_iinc C 10 (1 : Int32) (by decide) (fun v291 => [(9, .int v291), (8, .int v290), (10, .int v150), (0, .ref (ad b)), (1, .int a1), (2, .int a2), (3, .int a3), (4, .int a4), (5, .int a5), (6, .int a6), (7, .int a7)]) dX4_says_288 rfl (by decide) (fun _ => rfl) h 291 rfl (fun v291 h => ?_)
            refine ww_goto C 78 dX4_says_291 (by decide) ?_
            exact ww_sub [3, 4, 5, 6, 7, 8, 9, 10, 1, 0] rfl (ih _ _ _ h)
  rw [X4_says] at h
  refine ww_aload_n C 0 dX4_says_0 rfl rfl 1 rfl ?_
  refine ww_getS C cl_X4 (obText hb hn) 4 (by decide) rfl (b + 3) (so_text hb 4 3 (by decide)) w_127 dX4_says_1 4 rfl ?_
  refine ww_iconst C (0 : Int32) dX4_says_4 (by decide) 5 rfl ?_
  refine ww_iload_n C 2 dX4_says_5 rfl rfl 6 rfl ?_
  refine ww_iast C (iaText (q := b) hb hn 3 6 (by decide)) dX4_says_6 h 7 rfl (fun u292 h => ?_)
  refine ww_aload_n C 0 dX4_says_7 rfl rfl 8 rfl ?_
  refine ww_getS C cl_X4 (obText hb hn) 4 (by decide) rfl (b + 3) (so_text hb 4 3 (by decide)) w_127 dX4_says_8 11 rfl ?_
  refine ww_iconst C (1 : Int32) dX4_says_11 (by decide) 12 rfl ?_
  refine ww_iload_n C 3 dX4_says_12 rfl rfl 13 rfl ?_
  refine ww_iast C (iaText (q := b) hb hn 3 6 (by decide)) dX4_says_13 h 14 rfl (fun u293 h => ?_)
  refine ww_aload_n C 0 dX4_says_14 rfl rfl 15 rfl ?_
  refine ww_getS C cl_X4 (obText hb hn) 4 (by decide) rfl (b + 3) (so_text hb 4 3 (by decide)) w_127 dX4_says_15 18 rfl ?_
  refine ww_iconst C (2 : Int32) dX4_says_18 (by decide) 19 rfl ?_
  refine ww_iload C 4 dX4_says_19 rfl 21 rfl ?_
  refine ww_iast C (iaText (q := b) hb hn 3 6 (by decide)) dX4_says_21 h 22 rfl (fun u294 h => ?_)
  refine ww_aload_n C 0 dX4_says_22 rfl rfl 23 rfl ?_
  refine ww_getS C cl_X4 (obText hb hn) 4 (by decide) rfl (b + 3) (so_text hb 4 3 (by decide)) w_127 dX4_says_23 26 rfl ?_
  refine ww_iconst C (3 : Int32) dX4_says_26 (by decide) 27 rfl ?_
  refine ww_iload C 5 dX4_says_27 rfl 29 rfl ?_
  refine ww_iast C (iaText (q := b) hb hn 3 6 (by decide)) dX4_says_29 h 30 rfl (fun u295 h => ?_)
  refine ww_aload_n C 0 dX4_says_30 rfl rfl 31 rfl ?_
  refine ww_getS C cl_X4 (obText hb hn) 4 (by decide) rfl (b + 3) (so_text hb 4 3 (by decide)) w_127 dX4_says_31 34 rfl ?_
  refine ww_iconst C (4 : Int32) dX4_says_34 (by decide) 35 rfl ?_
  refine ww_iload C 6 dX4_says_35 rfl 37 rfl ?_
  refine ww_iast C (iaText (q := b) hb hn 3 6 (by decide)) dX4_says_37 h 38 rfl (fun u296 h => ?_)
  refine ww_aload_n C 0 dX4_says_38 rfl rfl 39 rfl ?_
  refine ww_getS C cl_X4 (obText hb hn) 4 (by decide) rfl (b + 3) (so_text hb 4 3 (by decide)) w_127 dX4_says_39 42 rfl ?_
  refine ww_iconst C (5 : Int32) dX4_says_42 (by decide) 43 rfl ?_
  refine ww_iload C 7 dX4_says_43 rfl 45 rfl ?_
  refine ww_iast C (iaText (q := b) hb hn 3 6 (by decide)) dX4_says_45 h 46 rfl (fun u297 h => ?_)
  refine ww_iload_n C 1 dX4_says_46 rfl rfl 47 rfl ?_
  refine ww_if_lt C 55 dX4_says_47 (by decide) h 50 rfl (fun h => ?_) (fun h => ?_)
  · refine ww_iconst C (0 : Int32) dX4_says_55 (by decide) 56 rfl ?_
    exact ww_iret C dX4_says_56 hr h
  · refine ww_iload_n C 1 dX4_says_50 rfl rfl 51 rfl ?_
    refine ww_iconst C (2 : Int32) dX4_says_51 (by decide) 52 rfl ?_
    refine ww_icmp_le C 57 dX4_says_52 (by decide) h 55 rfl (fun h => ?_) (fun h => ?_)
    · refine ww_iconst C (0 : Int32) dX4_says_57 (by decide) 58 rfl ?_
      refine ww_istore C [(8, .int (0 : Int32)), (0, .ref (ad b)), (1, .int a1), (2, .int a2), (3, .int a3), (4, .int a4), (5, .int a5), (6, .int a6), (7, .int a7)] dX4_says_58 (by decide) rfl 60 rfl ?_
      refine ww_iload_n C 2 dX4_says_60 rfl rfl 61 rfl ?_
      refine ww_if_ne C 68 dX4_says_61 (by decide) h 64 rfl (fun h => ?_) (fun h => ?_)
      · refine ww_aload_n C 1 dX4_says_68 rfl rfl 69 rfl ?_
        refine ww_getS C cl_X4 (obText hb hn) 3 (by decide) rfl (b + 2) (so_text hb 3 2 (by decide)) w_126 dX4_says_69 72 rfl ?_
        refine ww_iload_n C 2 dX4_says_72 rfl rfl 73 rfl ?_
        refine ww_iconst C (1 : Int32) dX4_says_73 (by decide) 74 rfl ?_
        refine ww_isub C dX4_says_74 75 rfl ?_
        refine ww_iald C (iaText (q := b) hb hn 2 3 (by decide)) dX4_says_75 h 76 rfl (fun h => ?_)
        refine ww_bi h (fun v298 h => ?_)
        refine ww_istore C [(9, .int v298), (8, .int (0 : Int32)), (0, .ref (ad b)), (1, .int a1), (2, .int a2), (3, .int a3), (4, .int a4), (5, .int a5), (6, .int a6), (7, .int a7)] dX4_says_76 (by decide) rfl 78 rfl ?_
        exact ww_sub [2, 3, 4, 5, 6, 7, 8, 9, 1, 0] rfl (L78h N _ _ _ h)
      · refine ww_iconst C (0 : Int32) dX4_says_64 (by decide) 65 rfl ?_
        refine ww_goto C 76 dX4_says_65 (by decide) ?_
        refine ww_istore C [(9, .int (0 : Int32)), (8, .int (0 : Int32)), (0, .ref (ad b)), (1, .int a1), (2, .int a2), (3, .int a3), (4, .int a4), (5, .int a5), (6, .int a6), (7, .int a7)] dX4_says_76 (by decide) rfl 78 rfl ?_
        exact ww_sub [2, 3, 4, 5, 6, 7, 8, 9, 1, 0] rfl (L78h N _ _ _ h)
    · refine ww_iconst C (0 : Int32) dX4_says_55 (by decide) 56 rfl ?_
      exact ww_iret C dX4_says_56 hr h

