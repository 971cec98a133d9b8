set_option maxRecDepth 100000 in
set_option maxHeartbeats 4000000 in
theorem k_X3_hasRoom {l : Launch} {D : va_G} {ad : Nat → Nat} {cA : Nat → ClassId} {tys : List (ClassId × FieldType)} {n : Nat} {sa : SA} (hn : 42 ≤ n) {N : Nat} {g : Mem} {a1 : Int32} {r : Int32} {g1 : Mem} (h : X3_hasRoom N a1 g = some (r, g1)) : CTi l yX3_hasRoom (wsm yX3_hasRoom cX3_hasRoom 2 (some .boolean)) 1 D YI ad cA tys n sa g [.ref (ad 0), .int a1] r g1 := by
  refine ct_of RX3 rfl (by decide +kernel) (Nat.le_of_ble_eq_true rfl) rfl (fun sz => PBi D YI ad cA n r g1 sz) ?_
  intro p e R s m args below meth c C hr
  rw [X3_hasRoom] at h
  refine ww_iload_n C 1 dX3_hasRoom_0 rfl rfl 1 rfl ?_
  refine ww_sipush C (160 : Int32) dX3_hasRoom_1 (by decide) 4 rfl ?_
  refine ww_aload_n C 0 dX3_hasRoom_4 rfl rfl 5 rfl ?_
  refine ww_getI C cl_X3 (obTape hn) 1 (by decide) rfl w_262 dX3_hasRoom_5 8 rfl ?_
  refine ww_isub C dX3_hasRoom_8 9 rfl ?_
  refine ww_icmp_gt C 16 dX3_hasRoom_9 (by decide) h 12 rfl (fun h => ?_) (fun h => ?_)
  · refine ww_iconst C (0 : Int32) dX3_hasRoom_16 (by decide) 17 rfl ?_
    exact ww_zret C dX3_hasRoom_17 hr rfl h
  · refine ww_iconst C (1 : Int32) dX3_hasRoom_12 (by decide) 13 rfl ?_
    refine ww_goto C 17 dX3_hasRoom_13 (by decide) ?_
    exact ww_zret C dX3_hasRoom_17 hr rfl h

set_option maxRecDepth 100000 in
set_option maxHeartbeats 4000000 in
theorem k_X3_add {l : Launch} {D : va_G} {ad : Nat → Nat} {cA : Nat → ClassId} {tys : List (ClassId × FieldType)} {n : Nat} {sa : SA} (hn : 42 ≤ n) {N : Nat} {g : Mem} {a1 : Int32} {r : Int32} {g1 : Mem} (h : X3_add N a1 g = some (r, g1)) : CTv l yX3_add (wsm yX3_add cX3_add 2 none) 1 D YI ad cA tys n sa g [.ref (ad 0), .int a1] g1 := by
  refine ct_of RX3 rfl (by decide +kernel) (Nat.le_of_ble_eq_true rfl) rfl (fun sz => PBv D YI ad cA n g1 sz) ?_
  intro p e R s m args below meth c C hr
  rw [X3_add] at h
  refine ww_aload_n C 0 dX3_add_0 rfl rfl 1 rfl ?_
  refine ww_getI C cl_X3 (obTape hn) 1 (by decide) rfl w_262 dX3_add_1 4 rfl ?_
  refine ww_sipush C (160 : Int32) dX3_add_4 (by decide) 7 rfl ?_
  refine ww_icmp_ge C 30 dX3_add_7 (by decide) h 10 rfl (fun h => ?_) (fun h => ?_)
  · exact ww_vret C dX3_add_30 hr h
  · refine ww_aload_n C 0 dX3_add_10 rfl rfl 11 rfl ?_
    refine ww_getS C cl_X3 (obTape hn) 0 (by decide) rfl 1 rfl w_261 dX3_add_11 14 rfl ?_
    refine ww_aload_n C 0 dX3_add_14 rfl rfl 15 rfl ?_
    refine ww_getI C cl_X3 (obTape hn) 1 (by decide) rfl w_262 dX3_add_15 18 rfl ?_
    refine ww_iload_n C 1 dX3_add_18 rfl rfl 19 rfl ?_
    refine ww_iast C (iaTape hn) dX3_add_19 h 20 rfl (fun u3 h => ?_)
    refine ww_aload_n C 0 dX3_add_20 rfl rfl 21 rfl ?_
    refine ww_dup C dX3_add_21 rfl 22 rfl ?_
    refine ww_getI C cl_X3 (obTape hn) 1 (by decide) rfl w_262 dX3_add_22 25 rfl ?_
    refine ww_iconst C (1 : Int32) dX3_add_25 (by decide) 26 rfl ?_
    refine ww_iadd C dX3_add_26 27 rfl ?_
    refine ww_putI C cl_X3 (obTape hn) 1 (by decide) rfl tyX3 tyX3_ok nmX3 rfl rfl rfl w_262 dX3_add_27 h 30 rfl (fun u4 h => ?_)
    exact ww_vret C dX3_add_30 hr h

set_option maxRecDepth 100000 in
set_option maxHeartbeats 4000000 in
theorem k_X4_clear {l : Launch} {D : va_G} {ad : Nat → Nat} {cA : Nat → ClassId} {tys : List (ClassId × FieldType)} {n : Nat} {sa : SA} (hn : 42 ≤ n) {N : Nat} {g : Mem} {b : Nat} (hb : isText b) {r : Int32} {g1 : Mem} (h : X4_clear N b g = some (r, g1)) : CTv l yX4_clear (wsm yX4_clear cX4_clear 1 none) 1 D YI ad cA tys n sa g [.ref (ad b)] g1 := by
  refine ct_of RX4 rfl (by decide +kernel) (Nat.le_of_ble_eq_true rfl) rfl (fun sz => PBv D YI ad cA n g1 sz) ?_
  intro p e R s m args below meth c C hr
  rw [X4_clear] at h
  refine ww_aload_n C 0 dX4_clear_0 rfl rfl 1 rfl ?_
  refine ww_iconst C (0 : Int32) dX4_clear_1 (by decide) 2 rfl ?_
  refine ww_putI C cl_X4 (obText hb hn) 2 (by decide) rfl tyX4 tyX4_ok nmX4 rfl rfl rfl w_297 dX4_clear_2 h 5 rfl (fun u2 h => ?_)
  exact ww_vret C dX4_clear_5 hr h

set_option maxRecDepth 100000 in
set_option maxHeartbeats 4000000 in
theorem k_X3_isBlank {l : Launch} {D : va_G} {ad : Nat → Nat} {cA : Nat → ClassId} {tys : List (ClassId × FieldType)} {n : Nat} {sa : SA} (hn : 42 ≤ n) {N : Nat} {g : Mem} {a1 : Int32} {r : Int32} {g1 : Mem} (h : X3_isBlank N a1 g = some (r, g1)) : CTi l yX3_isBlank (wsm yX3_isBlank cX3_isBlank 1 (some .boolean)) 1 D YI ad cA tys n sa g [.int a1] r g1 := by
  refine ct_of RX3 rfl (by decide +kernel) (Nat.le_of_ble_eq_true rfl) rfl (fun sz => PBi D YI ad cA n r g1 sz) ?_
  intro p e R s m args below meth c C hr
  rw [X3_isBlank] at h
  refine ww_iload_n C 0 dX3_isBlank_0 rfl rfl 1 rfl ?_
  refine ww_bipush C (32 : Int32) dX3_isBlank_1 (by decide) 3 rfl ?_
  refine ww_icmp_eq C 12 dX3_isBlank_3 (by decide) h 6 rfl (fun h => ?_) (fun h => ?_)
  · refine ww_iconst C (1 : Int32) dX3_isBlank_12 (by decide) 13 rfl ?_
    refine ww_goto C 17 dX3_isBlank_13 (by decide) ?_
    exact ww_zret C dX3_isBlank_17 hr rfl h
  · refine ww_iload_n C 0 dX3_isBlank_6 rfl rfl 7 rfl ?_
    refine ww_bipush C (10 : Int32) dX3_isBlank_7 (by decide) 9 rfl ?_
    refine ww_icmp_ne C 16 dX3_isBlank_9 (by decide) h 12 rfl (fun h => ?_) (fun h => ?_)
    · refine ww_iconst C (0 : Int32) dX3_isBlank_16 (by decide) 17 rfl ?_
      exact ww_zret C dX3_isBlank_17 hr rfl h
    · refine ww_iconst C (1 : Int32) dX3_isBlank_12 (by decide) 13 rfl ?_
      refine ww_goto C 17 dX3_isBlank_13 (by decide) ?_
      exact ww_zret C dX3_isBlank_17 hr rfl h

set_option maxRecDepth 100000 in
set_option maxHeartbeats 4000000 in
theorem k_X3_isLetter {l : Launch} {D : va_G} {ad : Nat → Nat} {cA : Nat → ClassId} {tys : List (ClassId × FieldType)} {n : Nat} {sa : SA} (hn : 42 ≤ n) {N : Nat} {g : Mem} {a1 : Int32} {r : Int32} {g1 : Mem} (h : X3_isLetter N a1 g = some (r, g1)) : CTi l yX3_isLetter (wsm yX3_isLetter cX3_isLetter 1 (some .boolean)) 1 D YI ad cA tys n sa g [.int a1] r g1 := by
  refine ct_of RX3 rfl (by decide +kernel) (Nat.le_of_ble_eq_true rfl) rfl (fun sz => PBi D YI ad cA n r g1 sz) ?_
  intro p e R s m args below meth c C hr
  rw [X3_isLetter] at h
  refine ww_iload_n C 0 dX3_isLetter_0 rfl rfl 1 rfl ?_
  refine ww_bipush C (97 : Int32) dX3_isLetter_1 (by decide) 3 rfl ?_
  refine ww_icmp_lt C 16 dX3_isLetter_3 (by decide) h 6 rfl (fun h => ?_) (fun h => ?_)
  · refine ww_iconst C (0 : Int32) dX3_isLetter_16 (by decide) 17 rfl ?_
    exact ww_zret C dX3_isLetter_17 hr rfl h
  · refine ww_iload_n C 0 dX3_isLetter_6 rfl rfl 7 rfl ?_
    refine ww_bipush C (122 : Int32) dX3_isLetter_7 (by decide) 9 rfl ?_
    refine ww_icmp_gt C 16 dX3_isLetter_9 (by decide) h 12 rfl (fun h => ?_) (fun h => ?_)
    · refine ww_iconst C (0 : Int32) dX3_isLetter_16 (by decide) 17 rfl ?_
      exact ww_zret C dX3_isLetter_17 hr rfl h
    · refine ww_iconst C (1 : Int32) dX3_isLetter_12 (by decide) 13 rfl ?_
      refine ww_goto C 17 dX3_isLetter_13 (by decide) ?_
      exact ww_zret C dX3_isLetter_17 hr rfl h

set_option maxRecDepth 100000 in
set_option maxHeartbeats 4000000 in
theorem k_X3_spells {l : Launch} {D : va_G} {ad : Nat → Nat} {cA : Nat → ClassId} {tys : List (ClassId × FieldType)} {n : Nat} {sa : SA} (hn : 42 ≤ n) {N : Nat} {g : Mem} {a1 : Int32} {a2 : Int32} {r : Int32} {g1 : Mem} (h : X3_spells N a1 a2 g = some (r, g1)) : CTi l yX3_spells (wsm yX3_spells cX3_spells 4 (some .boolean)) 9 D YI ad cA tys n sa g [.ref (ad 0), .int a1, .int a2] r g1 := by
  refine ct_of RX3 rfl (by decide +kernel) (Nat.le_of_ble_eq_true rfl) rfl (fun sz => PBi D YI ad cA n r g1 sz) ?_
  intro p e R s m args below meth c C hr
  have L19h : ∀ (fu : Nat), (∀ (x3 : Int32) (g : Mem), X3_spells_L19 N a1 a2 fu x3 g = some (r, g1) → WW p l e R s m args below meth c 4 D YI ad cA n (MQ below (PBi D YI ad cA n r g1 s.heap.size) args s 0 0 (AA n ad s.heap.size)) g 19 [(0, .ref (ad 0)), (1, .int a1), (2, .int a2), (3, .int x3)] []) := by
    intro fu
    induction fu with
    | zero => intro x3 g h; cases h
    | succ fu ih =>
      intro x3 g h
      rw [X3_spells_L19] at h
      refine ww_iload_n C 3 dX3_spells_19 rfl rfl 20 rfl ?_
      refine ww_iload_n C 2 dX3_spells_20 rfl rfl 21 rfl ?_
      refine ww_iload_n C 1 dX3_spells_21 rfl rfl 22 rfl ?_
      refine ww_isub C dX3_spells_22 23 rfl ?_
      refine ww_icmp_ge C 56 dX3_spells_23 (by decide) h 26 rfl (fun h => ?_) (fun h => ?_)
      · refine ww_iconst C (1 : Int32) dX3_spells_56 (by decide) 57 rfl ?_
        exact ww_zret C dX3_spells_57 hr rfl h
      · refine ww_aload_n C 0 dX3_spells_26 rfl rfl 27 rfl ?_
        refine ww_getS C cl_X3 (obTape hn) 0 (by decide) rfl 1 rfl w_261 dX3_spells_27 30 rfl ?_
        refine ww_aload_n C 0 dX3_spells_30 rfl rfl 31 rfl ?_
        refine ww_getI C cl_X3 (obTape hn) 3 (by decide) rfl w_265 dX3_spells_31 34 rfl ?_
        refine ww_iload_n C 3 dX3_spells_34 rfl rfl 35 rfl ?_
        refine ww_iadd C dX3_spells_35 36 rfl ?_
        refine ww_iald C (iaTape hn) dX3_spells_36 h 37 rfl (fun h => ?_)
        refine ww_ldcS1 C rfl dX3_spells_37 39 rfl ?_
        refine ww_iload_n C 1 dX3_spells_39 rfl rfl 40 rfl ?_
        refine ww_iload_n C 3 dX3_spells_40 rfl rfl 41 rfl ?_
        refine ww_iadd C dX3_spells_41 42 rfl ?_
        refine ww_strchr1 C w_405 (by decide) (Nat.le_of_ble_eq_true rfl) dX3_spells_42 h 45 rfl (fun h => ?_)
        refine ww_icmp_eq C 50 dX3_spells_45 (by decide) h 48 rfl (fun h => ?_) (fun h => ?_)
        · refine ww_iinc C 3 (1 : Int32) (by decide) (fun v2 => [(3, .int v2), (0, .ref (ad 0)), (1, .int a1), (2, .int a2)]) dX3_spells_50 rfl (by decide) (fun _ => rfl) h 53 rfl (fun v2 h => ?_)
          refine ww_goto C 19 dX3_spells_53 (by decide) ?_
          exact ww_sub [1, 2, 3, 0] rfl (ih _ _ h)
        · refine ww_iconst C (0 : Int32) dX3_spells_48 (by decide) 49 rfl ?_
          exact ww_zret C dX3_spells_49 hr rfl h
  rw [X3_spells] at h
  refine ww_aload_n C 0 dX3_spells_0 rfl rfl 1 rfl ?_
  refine ww_getI C cl_X3 (obTape hn) 2 (by decide) rfl w_264 dX3_spells_1 4 rfl ?_
  refine ww_aload_n C 0 dX3_spells_4 rfl rfl 5 rfl ?_
  refine ww_getI C cl_X3 (obTape hn) 3 (by decide) rfl w_265 dX3_spells_5 8 rfl ?_
  refine ww_isub C dX3_spells_8 9 rfl ?_
  refine ww_iload_n C 2 dX3_spells_9 rfl rfl 10 rfl ?_
  refine ww_iload_n C 1 dX3_spells_10 rfl rfl 11 rfl ?_
  refine ww_isub C dX3_spells_11 12 rfl ?_
  refine ww_icmp_eq C 17 dX3_spells_12 (by decide) h 15 rfl (fun h => ?_) (fun h => ?_)
  · refine ww_iconst C (0 : Int32) dX3_spells_17 (by decide) 18 rfl ?_
    refine ww_istore_n C [(3, .int (0 : Int32)), (0, .ref (ad 0)), (1, .int a1), (2, .int a2)] dX3_spells_18 rfl (by decide) rfl 19 rfl ?_
    exact ww_sub [1, 2, 3, 0] rfl (L19h N _ _ h)
  · refine ww_iconst C (0 : Int32) dX3_spells_15 (by decide) 16 rfl ?_
    exact ww_zret C dX3_spells_16 hr rfl h

set_option maxRecDepth 100000 in
set_option maxHeartbeats 4000000 in
theorem k_X3_nextWord {l : Launch} {D : va_G} {ad : Nat → Nat} {cA : Nat → ClassId} {tys : List (ClassId × FieldType)} {n : Nat} {sa : SA} (hn : 42 ≤ n) {N : Nat} {g : Mem} {r : Int32} {g1 : Mem} (h : X3_nextWord N g = some (r, g1)) : CTv l yX3_nextWord (wsm yX3_nextWord cX3_nextWord 4 none) 10 D YI ad cA tys n sa g [.ref (ad 0)] g1 := by
  refine ct_of RX3 rfl (by decide +kernel) (Nat.le_of_ble_eq_true rfl) rfl (fun sz => PBv D YI ad cA n g1 sz) ?_
  intro p e R s m args below meth c C hr
  have L52h : ∀ (fu : Nat), (∀ (x1 : Int32) (x2 : Int32) (x3 : Int32) (g : Mem), X3_nextWord_L52 N fu x1 x2 x3 g = some (r, g1) → WW p l e R s m args below meth c 4 D YI ad cA n (MQ below (PBv D YI ad cA n g1 s.heap.size) args s 0 0 (AA n ad s.heap.size)) g 52 [(0, .ref (ad 0)), (1, .int x1), (2, .int x2), (3, .int x3)] []) := by
    intro fu
    induction fu with
    | zero => intro x1 x2 x3 g h; cases h
    | succ fu ih =>
      intro x1 x2 x3 g h
      rw [X3_nextWord_L52] at h
      refine ww_iload_n C 3 dX3_nextWord_52 rfl rfl 53 rfl ?_
      refine ww_ldcS1 C rfl dX3_nextWord_53 55 rfl ?_
      refine ww_strlen1 C w_404 (by decide) (Nat.le_of_ble_eq_true rfl) dX3_nextWord_55 58 rfl ?_
      refine ww_icmp_ge C 103 dX3_nextWord_58 (by decide) h 61 rfl (fun h => ?_) (fun h => ?_)
      · exact ww_vret C dX3_nextWord_103 hr h
      · refine ww_ldcS1 C rfl dX3_nextWord_61 63 rfl ?_
        refine ww_iload_n C 3 dX3_nextWord_63 rfl rfl 64 rfl ?_
        refine ww_strchr1 C w_405 (by decide) (Nat.le_of_ble_eq_true rfl) dX3_nextWord_64 h 67 rfl (fun h => ?_)
        refine ww_bipush C (32 : Int32) dX3_nextWord_67 (by decide) 69 rfl ?_
        refine ww_icmp_ne C 97 dX3_nextWord_69 (by decide) h 72 rfl (fun h => ?_) (fun h => ?_)
        · refine ww_iinc C 3 (1 : Int32) (by decide) (fun v21 => [(3, .int v21), (0, .ref (ad 0)), (1, .int x1), (2, .int x2)]) dX3_nextWord_97 rfl (by decide) (fun _ => rfl) h 100 rfl (fun v21 h => ?_)
          refine ww_goto C 52 dX3_nextWord_100 (by decide) ?_
          exact ww_sub [1, 2, 3, 0] rfl (ih _ _ _ _ h)
        · refine ww_aload_n C 0 dX3_nextWord_72 rfl rfl 73 rfl ?_
          refine ww_iload_n C 1 dX3_nextWord_73 rfl rfl 74 rfl ?_
          refine ww_iload_n C 3 dX3_nextWord_74 rfl rfl 75 rfl ?_
          refine ww_callVi C (As := [.int x1, .int x3]) (st := []) h cl_X3.1 (obTape hn) (fun _ _ hF => k_X3_spells hn hF) w_406 cm_X3_spells (by decide) (by decide) rfl rfl (Nat.le_of_ble_eq_true rfl) dX3_nextWord_75 78 rfl (fun v23 u22 h => ?_)
          refine ww_if_eq C 90 dX3_nextWord_78 (by decide) h 81 rfl (fun h => ?_) (fun h => ?_)
          · refine ww_iload_n C 3 dX3_nextWord_90 rfl rfl 91 rfl ?_
            refine ww_iconst C (1 : Int32) dX3_nextWord_91 (by decide) 92 rfl ?_
            refine ww_iadd C dX3_nextWord_92 93 rfl ?_
            refine ww_bi h (fun v24 h => ?_)
            refine ww_istore_n C [(1, .int v24), (0, .ref (ad 0)), (2, .int x2), (3, .int x3)] dX3_nextWord_93 rfl (by decide) rfl 94 rfl ?_
            refine ww_iinc C 2 (1 : Int32) (by decide) (fun v25 => [(2, .int v25), (1, .int v24), (0, .ref (ad 0)), (3, .int x3)]) dX3_nextWord_94 rfl (by decide) (fun _ => rfl) h 97 rfl (fun v25 h => ?_)
            refine ww_iinc C 3 (1 : Int32) (by decide) (fun v26 => [(3, .int v26), (2, .int v25), (1, .int v24), (0, .ref (ad 0))]) dX3_nextWord_97 rfl (by decide) (fun _ => rfl) h 100 rfl (fun v26 h => ?_)
            refine ww_goto C 52 dX3_nextWord_100 (by decide) ?_
            exact ww_sub [3, 2, 1, 0] rfl (ih _ _ _ _ h)
          · refine ww_aload_n C 0 dX3_nextWord_81 rfl rfl 82 rfl ?_
            refine ww_sipush C (260 : Int32) dX3_nextWord_82 (by decide) 85 rfl ?_
            refine ww_iload_n C 2 dX3_nextWord_85 rfl rfl 86 rfl ?_
            refine ww_iadd C dX3_nextWord_86 87 rfl ?_
            refine ww_putI C cl_X3 (obTape hn) 4 (by decide) rfl tyX3 tyX3_ok nmX3 rfl rfl rfl w_266 dX3_nextWord_87 h 90 rfl (fun u27 h => ?_)
            refine ww_iload_n C 3 dX3_nextWord_90 rfl rfl 91 rfl ?_
            refine ww_iconst C (1 : Int32) dX3_nextWord_91 (by decide) 92 rfl ?_
            refine ww_iadd C dX3_nextWord_92 93 rfl ?_
            refine ww_bi h (fun v28 h => ?_)
            refine ww_istore_n C [(1, .int v28), (0, .ref (ad 0)), (2, .int x2), (3, .int x3)] dX3_nextWord_93 rfl (by decide) rfl 94 rfl ?_
            refine ww_iinc C 2 (1 : Int32) (by decide) (fun v29 => [(2, .int v29), (1, .int v28), (0, .ref (ad 0)), (3, .int x3)]) dX3_nextWord_94 rfl (by decide) (fun _ => rfl) h 97 rfl (fun v29 h => ?_)
            refine ww_iinc C 3 (1 : Int32) (by decide) (fun v30 => [(3, .int v30), (2, .int v29), (1, .int v28), (0, .ref (ad 0))]) dX3_nextWord_97 rfl (by decide) (fun _ => rfl) h 100 rfl (fun v30 h => ?_)
            refine ww_goto C 52 dX3_nextWord_100 (by decide) ?_
            exact ww_sub [3, 2, 1, 0] rfl (ih _ _ _ _ h)
  have L0h : ∀ (fu : Nat), (∀ (g : Mem), X3_nextWord_L0 N fu g = some (r, g1) → WW p l e R s m args below meth c 4 D YI ad cA n (MQ below (PBv D YI ad cA n g1 s.heap.size) args s 0 0 (AA n ad s.heap.size)) g 0 [(0, .ref (ad 0))] []) := by
    intro fu
    induction fu with
    | zero => intro g h; cases h
    | succ fu ih =>
      intro g h
      rw [X3_nextWord_L0] at h
      refine ww_aload_n C 0 dX3_nextWord_0 rfl rfl 1 rfl ?_
      refine ww_getI C cl_X3 (obTape hn) 2 (by decide) rfl w_264 dX3_nextWord_1 4 rfl ?_
      refine ww_aload_n C 0 dX3_nextWord_4 rfl rfl 5 rfl ?_
      refine ww_getI C cl_X3 (obTape hn) 1 (by decide) rfl w_262 dX3_nextWord_5 8 rfl ?_
      refine ww_icmp_ge C 39 dX3_nextWord_8 (by decide) h 11 rfl (fun h => ?_) (fun h => ?_)
      · refine ww_aload_n C 0 dX3_nextWord_39 rfl rfl 40 rfl ?_
        refine ww_sipush C (257 : Int32) dX3_nextWord_40 (by decide) 43 rfl ?_
        refine ww_putI C cl_X3 (obTape hn) 4 (by decide) rfl tyX3 tyX3_ok nmX3 rfl rfl rfl w_266 dX3_nextWord_43 h 46 rfl (fun u31 h => ?_)
        refine ww_iconst C (0 : Int32) dX3_nextWord_46 (by decide) 47 rfl ?_
        refine ww_istore_n C [(1, .int (0 : Int32)), (0, .ref (ad 0))] dX3_nextWord_47 rfl (by decide) rfl 48 rfl ?_
        refine ww_iconst C (0 : Int32) dX3_nextWord_48 (by decide) 49 rfl ?_
        refine ww_istore_n C [(2, .int (0 : Int32)), (1, .int (0 : Int32)), (0, .ref (ad 0))] dX3_nextWord_49 rfl (by decide) rfl 50 rfl ?_
        refine ww_iconst C (0 : Int32) dX3_nextWord_50 (by decide) 51 rfl ?_
        refine ww_istore_n C [(3, .int (0 : Int32)), (2, .int (0 : Int32)), (1, .int (0 : Int32)), (0, .ref (ad 0))] dX3_nextWord_51 rfl (by decide) rfl 52 rfl ?_
        exact ww_sub [3, 2, 1, 0] rfl (L52h N _ _ _ _ h)
      · refine ww_aload_n C 0 dX3_nextWord_11 rfl rfl 12 rfl ?_
        refine ww_getS C cl_X3 (obTape hn) 0 (by decide) rfl 1 rfl w_261 dX3_nextWord_12 15 rfl ?_
        refine ww_aload_n C 0 dX3_nextWord_15 rfl rfl 16 rfl ?_
        refine ww_getI C cl_X3 (obTape hn) 2 (by decide) rfl w_264 dX3_nextWord_16 19 rfl ?_
        refine ww_iald C (iaTape hn) dX3_nextWord_19 h 20 rfl (fun h => ?_)
        refine ww_callSi C (As := [.int (g.1 1 (g.1 0 2).toNatClampNeg)]) (st := []) h (fun _ _ hF => k_X3_isLetter hn hF) w_396 cm_X3_isLetter (by decide) (by decide) rfl rfl (Nat.le_of_ble_eq_true rfl) dX3_nextWord_20 23 rfl (fun v33 u32 h => ?_)
        refine ww_if_eq C 39 dX3_nextWord_23 (by decide) h 26 rfl (fun h => ?_) (fun h => ?_)
        · refine ww_aload_n C 0 dX3_nextWord_39 rfl rfl 40 rfl ?_
          refine ww_sipush C (257 : Int32) dX3_nextWord_40 (by decide) 43 rfl ?_
          refine ww_putI C cl_X3 (obTape hn) 4 (by decide) rfl tyX3 tyX3_ok nmX3 rfl rfl rfl w_266 dX3_nextWord_43 h 46 rfl (fun u34 h => ?_)
          refine ww_iconst C (0 : Int32) dX3_nextWord_46 (by decide) 47 rfl ?_
          refine ww_istore_n C [(1, .int (0 : Int32)), (0, .ref (ad 0))] dX3_nextWord_47 rfl (by decide) rfl 48 rfl ?_
          refine ww_iconst C (0 : Int32) dX3_nextWord_48 (by decide) 49 rfl ?_
          refine ww_istore_n C [(2, .int (0 : Int32)), (1, .int (0 : Int32)), (0, .ref (ad 0))] dX3_nextWord_49 rfl (by decide) rfl 50 rfl ?_
          refine ww_iconst C (0 : Int32) dX3_nextWord_50 (by decide) 51 rfl ?_
          refine ww_istore_n C [(3, .int (0 : Int32)), (2, .int (0 : Int32)), (1, .int (0 : Int32)), (0, .ref (ad 0))] dX3_nextWord_51 rfl (by decide) rfl 52 rfl ?_
          exact ww_sub [3, 2, 1, 0] rfl (L52h N _ _ _ _ h)
        · refine ww_aload_n C 0 dX3_nextWord_26 rfl rfl 27 rfl ?_
          refine ww_dup C dX3_nextWord_27 rfl 28 rfl ?_
          refine ww_getI C cl_X3 (obTape hn) 2 (by decide) rfl w_264 dX3_nextWord_28 31 rfl ?_
          refine ww_iconst C (1 : Int32) dX3_nextWord_31 (by decide) 32 rfl ?_
          refine ww_iadd C dX3_nextWord_32 33 rfl ?_
          refine ww_putI C cl_X3 (obTape hn) 2 (by decide) rfl tyX3 tyX3_ok nmX3 rfl rfl rfl w_264 dX3_nextWord_33 h 36 rfl (fun u35 h => ?_)
          refine ww_goto C 0 dX3_nextWord_36 (by decide) ?_
          exact ww_sub [0] rfl (ih _ h)
  rw [X3_nextWord] at h
  exact ww_sub [0] rfl (L0h N _ h)

set_option maxRecDepth 100000 in
set_option maxHeartbeats 4000000 in
theorem k_X3_isDigit {l : Launch} {D : va_G} {ad : Nat → Nat} {cA : Nat → ClassId} {tys : List (ClassId × FieldType)} {n : Nat} {sa : SA} (hn : 42 ≤ n) {N : Nat} {g : Mem} {a1 : Int32} {r : Int32} {g1 : Mem} (h : X3_isDigit N a1 g = some (r, g1)) : CTi l yX3_isDigit (wsm yX3_isDigit cX3_isDigit 1 (some .boolean)) 1 D YI ad cA tys n sa g [.int a1] r g1 := by
  refine ct_of RX3 rfl (by decide +kernel) (Nat.le_of_ble_eq_true rfl) rfl (fun sz => PBi D YI ad cA n r g1 sz) ?_
  intro p e R s m args below meth c C hr
  rw [X3_isDigit] at h
  refine ww_iload_n C 0 dX3_isDigit_0 rfl rfl 1 rfl ?_
  refine ww_bipush C (48 : Int32) dX3_isDigit_1 (by decide) 3 rfl ?_
  refine ww_icmp_lt C 16 dX3_isDigit_3 (by decide) h 6 rfl (fun h => ?_) (fun h => ?_)
  · refine ww_iconst C (0 : Int32) dX3_isDigit_16 (by decide) 17 rfl ?_
    exact ww_zret C dX3_isDigit_17 hr rfl h
  · refine ww_iload_n C 0 dX3_isDigit_6 rfl rfl 7 rfl ?_
    refine ww_bipush C (57 : Int32) dX3_isDigit_7 (by decide) 9 rfl ?_
    refine ww_icmp_gt C 16 dX3_isDigit_9 (by decide) h 12 rfl (fun h => ?_) (fun h => ?_)
    · refine ww_iconst C (0 : Int32) dX3_isDigit_16 (by decide) 17 rfl ?_
      exact ww_zret C dX3_isDigit_17 hr rfl h
    · refine ww_iconst C (1 : Int32) dX3_isDigit_12 (by decide) 13 rfl ?_
      refine ww_goto C 17 dX3_isDigit_13 (by decide) ?_
      exact ww_zret C dX3_isDigit_17 hr rfl h

set_option maxRecDepth 100000 in
set_option maxHeartbeats 4000000 in
theorem k_X3_nextNumber {l : Launch} {D : va_G} {ad : Nat → Nat} {cA : Nat → ClassId} {tys : List (ClassId × FieldType)} {n : Nat} {sa : SA} (hn : 42 ≤ n) {N : Nat} {g : Mem} {r : Int32} {g1 : Mem} (h : X3_nextNumber N g = some (r, g1)) : CTv l yX3_nextNumber (wsm yX3_nextNumber cX3_nextNumber 1 none) 2 D YI ad cA tys n sa g [.ref (ad 0)] g1 := by
  refine ct_of RX3 rfl (by decide +kernel) (Nat.le_of_ble_eq_true rfl) rfl (fun sz => PBv D YI ad cA n g1 sz) ?_
  intro p e R s m args below meth c C hr
  have L5h : ∀ (fu : Nat), (∀ (g : Mem), X3_nextNumber_L5 N fu g = some (r, g1) → WW p l e R s m args below meth c 1 D YI ad cA n (MQ below (PBv D YI ad cA n g1 s.heap.size) args s 0 0 (AA n ad s.heap.size)) g 5 [(0, .ref (ad 0))] []) := by
    intro fu
    induction fu with
    | zero => intro g h; cases h
    | succ fu ih =>
      intro g h
      rw [X3_nextNumber_L5] at h
      refine ww_aload_n C 0 dX3_nextNumber_5 rfl rfl 6 rfl ?_
      refine ww_getI C cl_X3 (obTape hn) 2 (by decide) rfl w_264 dX3_nextNumber_6 9 rfl ?_
      refine ww_aload_n C 0 dX3_nextNumber_9 rfl rfl 10 rfl ?_
      refine ww_getI C cl_X3 (obTape hn) 1 (by decide) rfl w_262 dX3_nextNumber_10 13 rfl ?_
      refine ww_icmp_ge C 68 dX3_nextNumber_13 (by decide) h 16 rfl (fun h => ?_) (fun h => ?_)
      · refine ww_aload_n C 0 dX3_nextNumber_68 rfl rfl 69 rfl ?_
        refine ww_aload_n C 0 dX3_nextNumber_69 rfl rfl 70 rfl ?_
        refine ww_getI C cl_X3 (obTape hn) 2 (by decide) rfl w_264 dX3_nextNumber_70 73 rfl ?_
        refine ww_aload_n C 0 dX3_nextNumber_73 rfl rfl 74 rfl ?_
        refine ww_getI C cl_X3 (obTape hn) 3 (by decide) rfl w_265 dX3_nextNumber_74 77 rfl ?_
        refine ww_isub C dX3_nextNumber_77 78 rfl ?_
        refine ww_iconst C (4 : Int32) dX3_nextNumber_78 (by decide) 79 rfl ?_
        refine ww_icmp_le C 88 dX3_nextNumber_79 (by decide) h 82 rfl (fun h => ?_) (fun h => ?_)
        · refine ww_sipush C (258 : Int32) dX3_nextNumber_88 (by decide) 91 rfl ?_
          refine ww_putI C cl_X3 (obTape hn) 4 (by decide) rfl tyX3 tyX3_ok nmX3 rfl rfl rfl w_266 dX3_nextNumber_91 h 94 rfl (fun u10 h => ?_)
          exact ww_vret C dX3_nextNumber_94 hr h
        · refine ww_sipush C (257 : Int32) dX3_nextNumber_82 (by decide) 85 rfl ?_
          refine ww_goto C 91 dX3_nextNumber_85 (by decide) ?_
          refine ww_putI C cl_X3 (obTape hn) 4 (by decide) rfl tyX3 tyX3_ok nmX3 rfl rfl rfl w_266 dX3_nextNumber_91 h 94 rfl (fun u11 h => ?_)
          exact ww_vret C dX3_nextNumber_94 hr h
      · refine ww_aload_n C 0 dX3_nextNumber_16 rfl rfl 17 rfl ?_
        refine ww_getS C cl_X3 (obTape hn) 0 (by decide) rfl 1 rfl w_261 dX3_nextNumber_17 20 rfl ?_
        refine ww_aload_n C 0 dX3_nextNumber_20 rfl rfl 21 rfl ?_
        refine ww_getI C cl_X3 (obTape hn) 2 (by decide) rfl w_264 dX3_nextNumber_21 24 rfl ?_
        refine ww_iald C (iaTape hn) dX3_nextNumber_24 h 25 rfl (fun h => ?_)
        refine ww_callSi C (As := [.int (g.1 1 (g.1 0 2).toNatClampNeg)]) (st := []) h (fun _ _ hF => k_X3_isDigit hn hF) w_410 cm_X3_isDigit (by decide) (by decide) rfl rfl (Nat.le_of_ble_eq_true rfl) dX3_nextNumber_25 28 rfl (fun v13 u12 h => ?_)
        refine ww_if_eq C 68 dX3_nextNumber_28 (by decide) h 31 rfl (fun h => ?_) (fun h => ?_)
        · refine ww_aload_n C 0 dX3_nextNumber_68 rfl rfl 69 rfl ?_
          refine ww_aload_n C 0 dX3_nextNumber_69 rfl rfl 70 rfl ?_
          refine ww_getI C cl_X3 (obTape hn) 2 (by decide) rfl w_264 dX3_nextNumber_70 73 rfl ?_
          refine ww_aload_n C 0 dX3_nextNumber_73 rfl rfl 74 rfl ?_
          refine ww_getI C cl_X3 (obTape hn) 3 (by decide) rfl w_265 dX3_nextNumber_74 77 rfl ?_
          refine ww_isub C dX3_nextNumber_77 78 rfl ?_
          refine ww_iconst C (4 : Int32) dX3_nextNumber_78 (by decide) 79 rfl ?_
          refine ww_icmp_le C 88 dX3_nextNumber_79 (by decide) h 82 rfl (fun h => ?_) (fun h => ?_)
          · refine ww_sipush C (258 : Int32) dX3_nextNumber_88 (by decide) 91 rfl ?_
            refine ww_putI C cl_X3 (obTape hn) 4 (by decide) rfl tyX3 tyX3_ok nmX3 rfl rfl rfl w_266 dX3_nextNumber_91 h 94 rfl (fun u14 h => ?_)
            exact ww_vret C dX3_nextNumber_94 hr h
          · refine ww_sipush C (257 : Int32) dX3_nextNumber_82 (by decide) 85 rfl ?_
            refine ww_goto C 91 dX3_nextNumber_85 (by decide) ?_
            refine ww_putI C cl_X3 (obTape hn) 4 (by decide) rfl tyX3 tyX3_ok nmX3 rfl rfl rfl w_266 dX3_nextNumber_91 h 94 rfl (fun u15 h => ?_)
            exact ww_vret C dX3_nextNumber_94 hr h
        · refine ww_aload_n C 0 dX3_nextNumber_31 rfl rfl 32 rfl ?_
          refine ww_aload_n C 0 dX3_nextNumber_32 rfl rfl 33 rfl ?_
          refine ww_getI C cl_X3 (obTape hn) 5 (by decide) rfl w_267 dX3_nextNumber_33 36 rfl ?_
          refine ww_bipush C (10 : Int32) dX3_nextNumber_36 (by decide) 38 rfl ?_
          refine ww_imul C dX3_nextNumber_38 39 rfl ?_
          refine ww_aload_n C 0 dX3_nextNumber_39 rfl rfl 40 rfl ?_
          refine ww_getS C cl_X3 (obTape hn) 0 (by decide) rfl 1 rfl w_261 dX3_nextNumber_40 43 rfl ?_
          refine ww_aload_n C 0 dX3_nextNumber_43 rfl rfl 44 rfl ?_
          refine ww_getI C cl_X3 (obTape hn) 2 (by decide) rfl w_264 dX3_nextNumber_44 47 rfl ?_
          refine ww_iald C (iaTape hn) dX3_nextNumber_47 h 48 rfl (fun h => ?_)
          refine ww_iadd C dX3_nextNumber_48 49 rfl ?_
          refine ww_bipush C (48 : Int32) dX3_nextNumber_49 (by decide) 51 rfl ?_
          refine ww_isub C dX3_nextNumber_51 52 rfl ?_
          refine ww_putI C cl_X3 (obTape hn) 5 (by decide) rfl tyX3 tyX3_ok nmX3 rfl rfl rfl w_267 dX3_nextNumber_52 h 55 rfl (fun u16 h => ?_)
          refine ww_aload_n C 0 dX3_nextNumber_55 rfl rfl 56 rfl ?_
          refine ww_dup C dX3_nextNumber_56 rfl 57 rfl ?_
          refine ww_getI C cl_X3 (obTape hn) 2 (by decide) rfl w_264 dX3_nextNumber_57 60 rfl ?_
          refine ww_iconst C (1 : Int32) dX3_nextNumber_60 (by decide) 61 rfl ?_
          refine ww_iadd C dX3_nextNumber_61 62 rfl ?_
          refine ww_putI C cl_X3 (obTape hn) 2 (by decide) rfl tyX3 tyX3_ok nmX3 rfl rfl rfl w_264 dX3_nextNumber_62 h 65 rfl (fun u17 h => ?_)
          refine ww_goto C 5 dX3_nextNumber_65 (by decide) ?_
          exact ww_sub [0] rfl (ih _ h)
  rw [X3_nextNumber] at h
  refine ww_aload_n C 0 dX3_nextNumber_0 rfl rfl 1 rfl ?_
  refine ww_iconst C (0 : Int32) dX3_nextNumber_1 (by decide) 2 rfl ?_
  refine ww_putI C cl_X3 (obTape hn) 5 (by decide) rfl tyX3 tyX3_ok nmX3 rfl rfl rfl w_267 dX3_nextNumber_2 h 5 rfl (fun u18 h => ?_)
  exact ww_sub [0] rfl (L5h N _ h)

set_option maxRecDepth 100000 in
set_option maxHeartbeats 4000000 in
theorem k_X3_isSign {l : Launch} {D : va_G} {ad : Nat → Nat} {cA : Nat → ClassId} {tys : List (ClassId × FieldType)} {n : Nat} {sa : SA} (hn : 42 ≤ n) {N : Nat} {g : Mem} {a1 : Int32} {r : Int32} {g1 : Mem} (h : X3_isSign N a1 g = some (r, g1)) : CTi l yX3_isSign (wsm yX3_isSign cX3_isSign 1 (some .boolean)) 1 D YI ad cA tys n sa g [.int a1] r g1 := by
  refine ct_of RX3 rfl (by decide +kernel) (Nat.le_of_ble_eq_true rfl) rfl (fun sz => PBi D YI ad cA n r g1 sz) ?_
  intro p e R s m args below meth c C hr
  rw [X3_isSign] at h
  refine ww_iload_n C 0 dX3_isSign_0 rfl rfl 1 rfl ?_
  refine ww_bipush C (40 : Int32) dX3_isSign_1 (by decide) 3 rfl ?_
  refine ww_icmp_lt C 18 dX3_isSign_3 (by decide) h 6 rfl (fun h => ?_) (fun h => ?_)
  · refine ww_iload_n C 0 dX3_isSign_18 rfl rfl 19 rfl ?_
    refine ww_bipush C (59 : Int32) dX3_isSign_19 (by decide) 21 rfl ?_
    refine ww_icmp_eq C 36 dX3_isSign_21 (by decide) h 24 rfl (fun h => ?_) (fun h => ?_)
    · refine ww_iconst C (1 : Int32) dX3_isSign_36 (by decide) 37 rfl ?_
      refine ww_goto C 41 dX3_isSign_37 (by decide) ?_
      exact ww_zret C dX3_isSign_41 hr rfl h
    · refine ww_iload_n C 0 dX3_isSign_24 rfl rfl 25 rfl ?_
      refine ww_bipush C (60 : Int32) dX3_isSign_25 (by decide) 27 rfl ?_
      refine ww_icmp_eq C 36 dX3_isSign_27 (by decide) h 30 rfl (fun h => ?_) (fun h => ?_)
      · refine ww_iconst C (1 : Int32) dX3_isSign_36 (by decide) 37 rfl ?_
        refine ww_goto C 41 dX3_isSign_37 (by decide) ?_
        exact ww_zret C dX3_isSign_41 hr rfl h
      · refine ww_iload_n C 0 dX3_isSign_30 rfl rfl 31 rfl ?_
        refine ww_bipush C (61 : Int32) dX3_isSign_31 (by decide) 33 rfl ?_
        refine ww_icmp_ne C 40 dX3_isSign_33 (by decide) h 36 rfl (fun h => ?_) (fun h => ?_)
        · refine ww_iconst C (0 : Int32) dX3_isSign_40 (by decide) 41 rfl ?_
          exact ww_zret C dX3_isSign_41 hr rfl h
        · refine ww_iconst C (1 : Int32) dX3_isSign_36 (by decide) 37 rfl ?_
          refine ww_goto C 41 dX3_isSign_37 (by decide) ?_
          exact ww_zret C dX3_isSign_41 hr rfl h
  · refine ww_iload_n C 0 dX3_isSign_6 rfl rfl 7 rfl ?_
    refine ww_bipush C (45 : Int32) dX3_isSign_7 (by decide) 9 rfl ?_
    refine ww_icmp_gt C 18 dX3_isSign_9 (by decide) h 12 rfl (fun h => ?_) (fun h => ?_)
    · refine ww_iload_n C 0 dX3_isSign_18 rfl rfl 19 rfl ?_
      refine ww_bipush C (59 : Int32) dX3_isSign_19 (by decide) 21 rfl ?_
      refine ww_icmp_eq C 36 dX3_isSign_21 (by decide) h 24 rfl (fun h => ?_) (fun h => ?_)
      · refine ww_iconst C (1 : Int32) dX3_isSign_36 (by decide) 37 rfl ?_
        refine ww_goto C 41 dX3_isSign_37 (by decide) ?_
        exact ww_zret C dX3_isSign_41 hr rfl h
      · refine ww_iload_n C 0 dX3_isSign_24 rfl rfl 25 rfl ?_
        refine ww_bipush C (60 : Int32) dX3_isSign_25 (by decide) 27 rfl ?_
        refine ww_icmp_eq C 36 dX3_isSign_27 (by decide) h 30 rfl (fun h => ?_) (fun h => ?_)
        · refine ww_iconst C (1 : Int32) dX3_isSign_36 (by decide) 37 rfl ?_
          refine ww_goto C 41 dX3_isSign_37 (by decide) ?_
          exact ww_zret C dX3_isSign_41 hr rfl h
        · refine ww_iload_n C 0 dX3_isSign_30 rfl rfl 31 rfl ?_
          refine ww_bipush C (61 : Int32) dX3_isSign_31 (by decide) 33 rfl ?_
          refine ww_icmp_ne C 40 dX3_isSign_33 (by decide) h 36 rfl (fun h => ?_) (fun h => ?_)
          · refine ww_iconst C (0 : Int32) dX3_isSign_40 (by decide) 41 rfl ?_
            exact ww_zret C dX3_isSign_41 hr rfl h
          · refine ww_iconst C (1 : Int32) dX3_isSign_36 (by decide) 37 rfl ?_
            refine ww_goto C 41 dX3_isSign_37 (by decide) ?_
            exact ww_zret C dX3_isSign_41 hr rfl h
    · refine ww_iload_n C 0 dX3_isSign_12 rfl rfl 13 rfl ?_
      refine ww_bipush C (44 : Int32) dX3_isSign_13 (by decide) 15 rfl ?_
      refine ww_icmp_ne C 36 dX3_isSign_15 (by decide) h 18 rfl (fun h => ?_) (fun h => ?_)
      · refine ww_iconst C (1 : Int32) dX3_isSign_36 (by decide) 37 rfl ?_
        refine ww_goto C 41 dX3_isSign_37 (by decide) ?_
        exact ww_zret C dX3_isSign_41 hr rfl h
      · refine ww_iload_n C 0 dX3_isSign_18 rfl rfl 19 rfl ?_
        refine ww_bipush C (59 : Int32) dX3_isSign_19 (by decide) 21 rfl ?_
        refine ww_icmp_eq C 36 dX3_isSign_21 (by decide) h 24 rfl (fun h => ?_) (fun h => ?_)
        · refine ww_iconst C (1 : Int32) dX3_isSign_36 (by decide) 37 rfl ?_
          refine ww_goto C 41 dX3_isSign_37 (by decide) ?_
          exact ww_zret C dX3_isSign_41 hr rfl h
        · refine ww_iload_n C 0 dX3_isSign_24 rfl rfl 25 rfl ?_
          refine ww_bipush C (60 : Int32) dX3_isSign_25 (by decide) 27 rfl ?_
          refine ww_icmp_eq C 36 dX3_isSign_27 (by decide) h 30 rfl (fun h => ?_) (fun h => ?_)
          · refine ww_iconst C (1 : Int32) dX3_isSign_36 (by decide) 37 rfl ?_
            refine ww_goto C 41 dX3_isSign_37 (by decide) ?_
            exact ww_zret C dX3_isSign_41 hr rfl h
          · refine ww_iload_n C 0 dX3_isSign_30 rfl rfl 31 rfl ?_
            refine ww_bipush C (61 : Int32) dX3_isSign_31 (by decide) 33 rfl ?_
            refine ww_icmp_ne C 40 dX3_isSign_33 (by decide) h 36 rfl (fun h => ?_) (fun h => ?_)
            · refine ww_iconst C (0 : Int32) dX3_isSign_40 (by decide) 41 rfl ?_
              exact ww_zret C dX3_isSign_41 hr rfl h
            · refine ww_iconst C (1 : Int32) dX3_isSign_36 (by decide) 37 rfl ?_
              refine ww_goto C 41 dX3_isSign_37 (by decide) ?_
              exact ww_zret C dX3_isSign_41 hr rfl h

set_option maxRecDepth 100000 in
set_option maxHeartbeats 4000000 in
theorem k_X3_next {l : Launch} {D : va_G} {ad : Nat → Nat} {cA : Nat → ClassId} {tys : List (ClassId × FieldType)} {n : Nat} {sa : SA} (hn : 42 ≤ n) {N : Nat} {g : Mem} {r : Int32} {g1 : Mem} (h : X3_next N g = some (r, g1)) : CTv l yX3_next (wsm yX3_next cX3_next 1 none) 11 D YI ad cA tys n sa g [.ref (ad 0)] g1 := by
  refine ct_of RX3 rfl (by decide +kernel) (Nat.le_of_ble_eq_true rfl) rfl (fun sz => PBv D YI ad cA n g1 sz) ?_
  intro p e R s m args below meth c C hr
  have L0h : ∀ (fu : Nat), (∀ (g : Mem), X3_next_L0 N fu g = some (r, g1) → WW p l e R s m args below meth c 1 D YI ad cA n (MQ below (PBv D YI ad cA n g1 s.heap.size) args s 0 0 (AA n ad s.heap.size)) g 0 [(0, .ref (ad 0))] []) := by
    intro fu
    induction fu with
    | zero => intro g h; cases h
    | succ fu ih =>
      intro g h
      rw [X3_next_L0] at h
      refine ww_aload_n C 0 dX3_next_0 rfl rfl 1 rfl ?_
      refine ww_getI C cl_X3 (obTape hn) 2 (by decide) rfl w_264 dX3_next_1 4 rfl ?_
      refine ww_aload_n C 0 dX3_next_4 rfl rfl 5 rfl ?_
      refine ww_getI C cl_X3 (obTape hn) 1 (by decide) rfl w_262 dX3_next_5 8 rfl ?_
      refine ww_icmp_ge C 39 dX3_next_8 (by decide) h 11 rfl (fun h => ?_) (fun h => ?_)
      · refine ww_aload_n C 0 dX3_next_39 rfl rfl 40 rfl ?_
        refine ww_aload_n C 0 dX3_next_40 rfl rfl 41 rfl ?_
        refine ww_getI C cl_X3 (obTape hn) 2 (by decide) rfl w_264 dX3_next_41 44 rfl ?_
        refine ww_putI C cl_X3 (obTape hn) 3 (by decide) rfl tyX3 tyX3_ok nmX3 rfl rfl rfl w_265 dX3_next_44 h 47 rfl (fun u71 h => ?_)
        refine ww_aload_n C 0 dX3_next_47 rfl rfl 48 rfl ?_
        refine ww_getI C cl_X3 (obTape hn) 2 (by decide) rfl w_264 dX3_next_48 51 rfl ?_
        refine ww_aload_n C 0 dX3_next_51 rfl rfl 52 rfl ?_
        refine ww_getI C cl_X3 (obTape hn) 1 (by decide) rfl w_262 dX3_next_52 55 rfl ?_
        refine ww_icmp_lt C 68 dX3_next_55 (by decide) h 58 rfl (fun h => ?_) (fun h => ?_)
        · refine ww_aload_n C 0 dX3_next_68 rfl rfl 69 rfl ?_
          refine ww_getS C cl_X3 (obTape hn) 0 (by decide) rfl 1 rfl w_261 dX3_next_69 72 rfl ?_
          refine ww_aload_n C 0 dX3_next_72 rfl rfl 73 rfl ?_
          refine ww_getI C cl_X3 (obTape hn) 2 (by decide) rfl w_264 dX3_next_73 76 rfl ?_
          refine ww_iald C (iaTape hn) dX3_next_76 h 77 rfl (fun h => ?_)
          refine ww_callSi C (As := [.int (u71.1 1 (u71.1 0 2).toNatClampNeg)]) (st := []) h (fun _ _ hF => k_X3_isLetter hn hF) w_396 cm_X3_isLetter (by decide) (by decide) rfl rfl (Nat.le_of_ble_eq_true rfl) dX3_next_77 80 rfl (fun v73 u72 h => ?_)
          refine ww_if_eq C 90 dX3_next_80 (by decide) h 83 rfl (fun h => ?_) (fun h => ?_)
          · refine ww_aload_n C 0 dX3_next_90 rfl rfl 91 rfl ?_
            refine ww_getS C cl_X3 (obTape hn) 0 (by decide) rfl 1 rfl w_261 dX3_next_91 94 rfl ?_
            refine ww_aload_n C 0 dX3_next_94 rfl rfl 95 rfl ?_
            refine ww_getI C cl_X3 (obTape hn) 2 (by decide) rfl w_264 dX3_next_95 98 rfl ?_
            refine ww_iald C (iaTape hn) dX3_next_98 h 99 rfl (fun h => ?_)
            refine ww_callSi C (As := [.int (u72.1 1 (u72.1 0 2).toNatClampNeg)]) (st := []) h (fun _ _ hF => k_X3_isDigit hn hF) w_410 cm_X3_isDigit (by decide) (by decide) rfl rfl (Nat.le_of_ble_eq_true rfl) dX3_next_99 102 rfl (fun v75 u74 h => ?_)
            refine ww_if_eq C 112 dX3_next_102 (by decide) h 105 rfl (fun h => ?_) (fun h => ?_)
            · refine ww_aload_n C 0 dX3_next_112 rfl rfl 113 rfl ?_
              refine ww_aload_n C 0 dX3_next_113 rfl rfl 114 rfl ?_
              refine ww_getS C cl_X3 (obTape hn) 0 (by decide) rfl 1 rfl w_261 dX3_next_114 117 rfl ?_
              refine ww_aload_n C 0 dX3_next_117 rfl rfl 118 rfl ?_
              refine ww_getI C cl_X3 (obTape hn) 2 (by decide) rfl w_264 dX3_next_118 121 rfl ?_
              refine ww_iald C (iaTape hn) dX3_next_121 h 122 rfl (fun h => ?_)
              refine ww_callSi C (As := [.int (u74.1 1 (u74.1 0 2).toNatClampNeg)]) (st := [.ref (ad 0)]) h (fun _ _ hF => k_X3_isSign hn hF) w_417 cm_X3_isSign (by decide) (by decide) rfl rfl (Nat.le_of_ble_eq_true rfl) dX3_next_122 125 rfl (fun v77 u76 h => ?_)
              refine ww_if_eq C 140 dX3_next_125 (by decide) h 128 rfl (fun h => ?_) (fun h => ?_)
              · refine ww_sipush C (257 : Int32) dX3_next_140 (by decide) 143 rfl ?_
                refine ww_putI C cl_X3 (obTape hn) 4 (by decide) rfl tyX3 tyX3_ok nmX3 rfl rfl rfl w_266 dX3_next_143 h 146 rfl (fun u78 h => ?_)
                refine ww_aload_n C 0 dX3_next_146 rfl rfl 147 rfl ?_
                refine ww_dup C dX3_next_147 rfl 148 rfl ?_
                refine ww_getI C cl_X3 (obTape hn) 2 (by decide) rfl w_264 dX3_next_148 151 rfl ?_
                refine ww_iconst C (1 : Int32) dX3_next_151 (by decide) 152 rfl ?_
                refine ww_iadd C dX3_next_152 153 rfl ?_
                refine ww_putI C cl_X3 (obTape hn) 2 (by decide) rfl tyX3 tyX3_ok nmX3 rfl rfl rfl w_264 dX3_next_153 h 156 rfl (fun u79 h => ?_)
                exact ww_vret C dX3_next_156 hr h
              · refine ww_aload_n C 0 dX3_next_128 rfl rfl 129 rfl ?_
                refine ww_getS C cl_X3 (obTape hn) 0 (by decide) rfl 1 rfl w_261 dX3_next_129 132 rfl ?_
                refine ww_aload_n C 0 dX3_next_132 rfl rfl 133 rfl ?_
                refine ww_getI C cl_X3 (obTape hn) 2 (by decide) rfl w_264 dX3_next_133 136 rfl ?_
                refine ww_iald C (iaTape hn) dX3_next_136 h 137 rfl (fun h => ?_)
                refine ww_goto C 143 dX3_next_137 (by decide) ?_
                refine ww_putI C cl_X3 (obTape hn) 4 (by decide) rfl tyX3 tyX3_ok nmX3 rfl rfl rfl w_266 dX3_next_143 h 146 rfl (fun u80 h => ?_)
                refine ww_aload_n C 0 dX3_next_146 rfl rfl 147 rfl ?_
                refine ww_dup C dX3_next_147 rfl 148 rfl ?_
                refine ww_getI C cl_X3 (obTape hn) 2 (by decide) rfl w_264 dX3_next_148 151 rfl ?_
                refine ww_iconst C (1 : Int32) dX3_next_151 (by decide) 152 rfl ?_
                refine ww_iadd C dX3_next_152 153 rfl ?_
                refine ww_putI C cl_X3 (obTape hn) 2 (by decide) rfl tyX3 tyX3_ok nmX3 rfl rfl rfl w_264 dX3_next_153 h 156 rfl (fun u81 h => ?_)
                exact ww_vret C dX3_next_156 hr h
            · refine ww_aload_n C 0 dX3_next_105 rfl rfl 106 rfl ?_
              refine ww_callVv C (As := []) (st := []) h cl_X3.1 (obTape hn) (fun _ _ hF => k_X3_nextNumber hn hF) w_413 cm_X3_nextNumber (by decide) (by decide) rfl rfl (Nat.le_of_ble_eq_true rfl) dX3_next_106 109 rfl (fun _ u82 h => ?_)
              refine ww_goto C 156 dX3_next_109 (by decide) ?_
              exact ww_vret C dX3_next_156 hr h
          · refine ww_aload_n C 0 dX3_next_83 rfl rfl 84 rfl ?_
            refine ww_callVv C (As := []) (st := []) h cl_X3.1 (obTape hn) (fun _ _ hF => k_X3_nextWord hn hF) w_399 cm_X3_nextWord (by decide) (by decide) rfl rfl (Nat.le_of_ble_eq_true rfl) dX3_next_84 87 rfl (fun _ u84 h => ?_)
            refine ww_goto C 156 dX3_next_87 (by decide) ?_
            exact ww_vret C dX3_next_156 hr h
        · refine ww_aload_n C 0 dX3_next_58 rfl rfl 59 rfl ?_
          refine ww_sipush C (256 : Int32) dX3_next_59 (by decide) 62 rfl ?_
          refine ww_putI C cl_X3 (obTape hn) 4 (by decide) rfl tyX3 tyX3_ok nmX3 rfl rfl rfl w_266 dX3_next_62 h 65 rfl (fun u86 h => ?_)
          refine ww_goto C 156 dX3_next_65 (by decide) ?_
          exact ww_vret C dX3_next_156 hr h
      · refine ww_aload_n C 0 dX3_next_11 rfl rfl 12 rfl ?_
        refine ww_getS C cl_X3 (obTape hn) 0 (by decide) rfl 1 rfl w_261 dX3_next_12 15 rfl ?_
        refine ww_aload_n C 0 dX3_next_15 rfl rfl 16 rfl ?_
        refine ww_getI C cl_X3 (obTape hn) 2 (by decide) rfl w_264 dX3_next_16 19 rfl ?_
        refine ww_iald C (iaTape hn) dX3_next_19 h 20 rfl (fun h => ?_)
        refine ww_callSi C (As := [.int (g.1 1 (g.1 0 2).toNatClampNeg)]) (st := []) h (fun _ _ hF => k_X3_isBlank hn hF) w_393 cm_X3_isBlank (by decide) (by decide) rfl rfl (Nat.le_of_ble_eq_true rfl) dX3_next_20 23 rfl (fun v88 u87 h => ?_)
        refine ww_if_eq C 39 dX3_next_23 (by decide) h 26 rfl (fun h => ?_) (fun h => ?_)
        · refine ww_aload_n C 0 dX3_next_39 rfl rfl 40 rfl ?_
          refine ww_aload_n C 0 dX3_next_40 rfl rfl 41 rfl ?_
          refine ww_getI C cl_X3 (obTape hn) 2 (by decide) rfl w_264 dX3_next_41 44 rfl ?_
          refine ww_putI C cl_X3 (obTape hn) 3 (by decide) rfl tyX3 tyX3_ok nmX3 rfl rfl rfl w_265 dX3_next_44 h 47 rfl (fun u89 h => ?_)
          refine ww_aload_n C 0 dX3_next_47 rfl rfl 48 rfl ?_
          refine ww_getI C cl_X3 (obTape hn) 2 (by decide) rfl w_264 dX3_next_48 51 rfl ?_
          refine ww_aload_n C 0 dX3_next_51 rfl rfl 52 rfl ?_
          refine ww_getI C cl_X3 (obTape hn) 1 (by decide) rfl w_262 dX3_next_52 55 rfl ?_
          refine ww_icmp_lt C 68 dX3_next_55 (by decide) h 58 rfl (fun h => ?_) (fun h => ?_)
          · refine ww_aload_n C 0 dX3_next_68 rfl rfl 69 rfl ?_
            refine ww_getS C cl_X3 (obTape hn) 0 (by decide) rfl 1 rfl w_261 dX3_next_69 72 rfl ?_
            refine ww_aload_n C 0 dX3_next_72 rfl rfl 73 rfl ?_
            refine ww_getI C cl_X3 (obTape hn) 2 (by decide) rfl w_264 dX3_next_73 76 rfl ?_
            refine ww_iald C (iaTape hn) dX3_next_76 h 77 rfl (fun h => ?_)
            refine ww_callSi C (As := [.int (u89.1 1 (u89.1 0 2).toNatClampNeg)]) (st := []) h (fun _ _ hF => k_X3_isLetter hn hF) w_396 cm_X3_isLetter (by decide) (by decide) rfl rfl (Nat.le_of_ble_eq_true rfl) dX3_next_77 80 rfl (fun v91 u90 h => ?_)
            refine ww_if_eq C 90 dX3_next_80 (by decide) h 83 rfl (fun h => ?_) (fun h => ?_)
            · refine ww_aload_n C 0 dX3_next_90 rfl rfl 91 rfl ?_
              refine ww_getS C cl_X3 (obTape hn) 0 (by decide) rfl 1 rfl w_261 dX3_next_91 94 rfl ?_
              refine ww_aload_n C 0 dX3_next_94 rfl rfl 95 rfl ?_
              refine ww_getI C cl_X3 (obTape hn) 2 (by decide) rfl w_264 dX3_next_95 98 rfl ?_
              refine ww_iald C (iaTape hn) dX3_next_98 h 99 rfl (fun h => ?_)
              refine ww_callSi C (As := [.int (u90.1 1 (u90.1 0 2).toNatClampNeg)]) (st := []) h (fun _ _ hF => k_X3_isDigit hn hF) w_410 cm_X3_isDigit (by decide) (by decide) rfl rfl (Nat.le_of_ble_eq_true rfl) dX3_next_99 102 rfl (fun v93 u92 h => ?_)
              refine ww_if_eq C 112 dX3_next_102 (by decide) h 105 rfl (fun h => ?_) (fun h => ?_)
              · refine ww_aload_n C 0 dX3_next_112 rfl rfl 113 rfl ?_
                refine ww_aload_n C 0 dX3_next_113 rfl rfl 114 rfl ?_
                refine ww_getS C cl_X3 (obTape hn) 0 (by decide) rfl 1 rfl w_261 dX3_next_114 117 rfl ?_
                refine ww_aload_n C 0 dX3_next_117 rfl rfl 118 rfl ?_
                refine ww_getI C cl_X3 (obTape hn) 2 (by decide) rfl w_264 dX3_next_118 121 rfl ?_
                refine ww_iald C (iaTape hn) dX3_next_121 h 122 rfl (fun h => ?_)
                refine ww_callSi C (As := [.int (u92.1 1 (u92.1 0 2).toNatClampNeg)]) (st := [.ref (ad 0)]) h (fun _ _ hF => k_X3_isSign hn hF) w_417 cm_X3_isSign (by decide) (by decide) rfl rfl (Nat.le_of_ble_eq_true rfl) dX3_next_122 125 rfl (fun v95 u94 h => ?_)
                refine ww_if_eq C 140 dX3_next_125 (by decide) h 128 rfl (fun h => ?_) (fun h => ?_)
                · refine ww_sipush C (257 : Int32) dX3_next_140 (by decide) 143 rfl ?_
                  refine ww_putI C cl_X3 (obTape hn) 4 (by decide) rfl tyX3 tyX3_ok nmX3 rfl rfl rfl w_266 dX3_next_143 h 146 rfl (fun u96 h => ?_)
                  refine ww_aload_n C 0 dX3_next_146 rfl rfl 147 rfl ?_
                  refine ww_dup C dX3_next_147 rfl 148 rfl ?_
                  refine ww_getI C cl_X3 (obTape hn) 2 (by decide) rfl w_264 dX3_next_148 151 rfl ?_
                  refine ww_iconst C (1 : Int32) dX3_next_151 (by decide) 152 rfl ?_
                  refine ww_iadd C dX3_next_152 153 rfl ?_
                  refine ww_putI C cl_X3 (obTape hn) 2 (by decide) rfl tyX3 tyX3_ok nmX3 rfl rfl rfl w_264 dX3_next_153 h 156 rfl (fun u97 h => ?_)
                  exact ww_vret C dX3_next_156 hr h
                · refine ww_aload_n C 0 dX3_next_128 rfl rfl 129 rfl ?_
                  refine ww_getS C cl_X3 (obTape hn) 0 (by decide) rfl 1 rfl w_261 dX3_next_129 132 rfl ?_
                  refine ww_aload_n C 0 dX3_next_132 rfl rfl 133 rfl ?_
                  refine ww_getI C cl_X3 (obTape hn) 2 (by decide) rfl w_264 dX3_next_133 136 rfl ?_
                  refine ww_iald C (iaTape hn) dX3_next_136 h 137 rfl (fun h => ?_)
                  refine ww_goto C 143 dX3_next_137 (by decide) ?_
                  refine ww_putI C cl_X3 (obTape hn) 4 (by decide) rfl tyX3 tyX3_ok nmX3 rfl rfl rfl w_266 dX3_next_143 h 146 rfl (fun u98 h => ?_)
                  refine ww_aload_n C 0 dX3_next_146 rfl rfl 147 rfl ?_
                  refine ww_dup C dX3_next_147 rfl 148 rfl ?_
                  refine ww_getI C cl_X3 (obTape hn) 2 (by decide) rfl w_264 dX3_next_148 151 rfl ?_
                  refine ww_iconst C (1 : Int32) dX3_next_151 (by decide) 152 rfl ?_
                  refine ww_iadd C dX3_next_152 153 rfl ?_
                  refine ww_putI C cl_X3 (obTape hn) 2 (by decide) rfl tyX3 tyX3_ok nmX3 rfl rfl rfl w_264 dX3_next_153 h 156 rfl (fun u99 h => ?_)
                  exact ww_vret C dX3_next_156 hr h
              · refine ww_aload_n C 0 dX3_next_105 rfl rfl 106 rfl ?_
                refine ww_callVv C (As := []) (st := []) h cl_X3.1 (obTape hn) (fun _ _ hF => k_X3_nextNumber hn hF) w_413 cm_X3_nextNumber (by decide) (by decide) rfl rfl (Nat.le_of_ble_eq_true rfl) dX3_next_106 109 rfl (fun _ u100 h => ?_)
                refine ww_goto C 156 dX3_next_109 (by decide) ?_
                exact ww_vret C dX3_next_156 hr h
            · refine ww_aload_n C 0 dX3_next_83 rfl rfl 84 rfl ?_
              refine ww_callVv C (As := []) (st := []) h cl_X3.1 (obTape hn) (fun _ _ hF => k_X3_nextWord hn hF) w_399 cm_X3_nextWord (by decide) (by decide) rfl rfl (Nat.le_of_ble_eq_true rfl) dX3_next_84 87 rfl (fun _ u102 h => ?_)
              refine ww_goto C 156 dX3_next_87 (by decide) ?_
              exact ww_vret C dX3_next_156 hr h
          · refine ww_aload_n C 0 dX3_next_58 rfl rfl 59 rfl ?_
            refine ww_sipush C (256 : Int32) dX3_next_59 (by decide) 62 rfl ?_
            refine ww_putI C cl_X3 (obTape hn) 4 (by decide) rfl tyX3 tyX3_ok nmX3 rfl rfl rfl w_266 dX3_next_62 h 65 rfl (fun u104 h => ?_)
            refine ww_goto C 156 dX3_next_65 (by decide) ?_
            exact ww_vret C dX3_next_156 hr h
        · refine ww_aload_n C 0 dX3_next_26 rfl rfl 27 rfl ?_
          refine ww_dup C dX3_next_27 rfl 28 rfl ?_
          refine ww_getI C cl_X3 (obTape hn) 2 (by decide) rfl w_264 dX3_next_28 31 rfl ?_
          refine ww_iconst C (1 : Int32) dX3_next_31 (by decide) 32 rfl ?_
          refine ww_iadd C dX3_next_32 33 rfl ?_
          refine ww_putI C cl_X3 (obTape hn) 2 (by decide) rfl tyX3 tyX3_ok nmX3 rfl rfl rfl w_264 dX3_next_33 h 36 rfl (fun u105 h => ?_)
          refine ww_goto C 0 dX3_next_36 (by decide) ?_
          exact ww_sub [0] rfl (ih _ h)
  rw [X3_next] at h
  exact ww_sub [0] rfl (L0h N _ h)

set_option maxRecDepth 100000 in
set_option maxHeartbeats 4000000 in
theorem k_X3_passes {l : Launch} {D : va_G} {ad : Nat → Nat} {cA : Nat → ClassId} {tys : List (ClassId × FieldType)} {n : Nat} {sa : SA} (hn : 42 ≤ n) {N : Nat} {g : Mem} {a1 : Int32} {r : Int32} {g1 : Mem} (h : X3_passes N a1 g = some (r, g1)) : CTi l yX3_passes (wsm yX3_passes cX3_passes 2 (some .boolean)) 12 D YI ad cA tys n sa g [.ref (ad 0), .int a1] r g1 := by
  refine ct_of RX3 rfl (by decide +kernel) (Nat.le_of_ble_eq_true rfl) rfl (fun sz => PBi D YI ad cA n r g1 sz) ?_
  intro p e R s m args below meth c C hr
  rw [X3_passes] at h
  refine ww_aload_n C 0 dX3_passes_0 rfl rfl 1 rfl ?_
  refine ww_getI C cl_X3 (obTape hn) 4 (by decide) rfl w_266 dX3_passes_1 4 rfl ?_
  refine ww_iload_n C 1 dX3_passes_4 rfl rfl 5 rfl ?_
  refine ww_icmp_eq C 10 dX3_passes_5 (by decide) h 8 rfl (fun h => ?_) (fun h => ?_)
  · refine ww_aload_n C 0 dX3_passes_10 rfl rfl 11 rfl ?_
    refine ww_callVv C (As := []) (st := []) h cl_X3.1 (obTape hn) (fun _ _ hF => k_X3_next hn hF) w_389 cm_X3_next (by decide) (by decide) rfl rfl (Nat.le_of_ble_eq_true rfl) dX3_passes_11 14 rfl (fun _ u3 h => ?_)
    refine ww_iconst C (1 : Int32) dX3_passes_14 (by decide) 15 rfl ?_
    exact ww_zret C dX3_passes_15 hr rfl h
  · refine ww_iconst C (0 : Int32) dX3_passes_8 (by decide) 9 rfl ?_
    exact ww_zret C dX3_passes_9 hr rfl h

set_option maxRecDepth 100000 in
set_option maxHeartbeats 4000000 in
theorem k_X4_add {l : Launch} {D : va_G} {ad : Nat → Nat} {cA : Nat → ClassId} {tys : List (ClassId × FieldType)} {n : Nat} {sa : SA} (hn : 42 ≤ n) {N : Nat} {g : Mem} {b : Nat} (hb : isText b) {a1 : Int32} {r : Int32} {g1 : Mem} (h : X4_add N b a1 g = some (r, g1)) : CTv l yX4_add (wsm yX4_add cX4_add 2 none) 1 D YI ad cA tys n sa g [.ref (ad b), .int a1] g1 := by
  refine ct_of RX4 rfl (by decide +kernel) (Nat.le_of_ble_eq_true rfl) rfl (fun sz => PBv D YI ad cA n g1 sz) ?_
  intro p e R s m args below meth c C hr
  rw [X4_add] at h
  refine ww_aload_n C 0 dX4_add_0 rfl rfl 1 rfl ?_
  refine ww_getI C cl_X4 (obText hb hn) 2 (by decide) rfl w_297 dX4_add_1 4 rfl ?_
  refine ww_aload_n C 0 dX4_add_4 rfl rfl 5 rfl ?_
  refine ww_getS C cl_X4 (obText hb hn) 1 (by decide) rfl (b + 1) (so_text hb 1 1 (by decide)) w_296 dX4_add_5 8 rfl ?_
  refine ww_alen C (iaText (q := b) hb hn 1 160 (by decide)) (160 : Int32) (by decide) dX4_add_8 9 rfl ?_
  refine ww_icmp_ge C 32 dX4_add_9 (by decide) h 12 rfl (fun h => ?_) (fun h => ?_)
  · exact ww_vret C dX4_add_32 hr h
  · refine ww_aload_n C 0 dX4_add_12 rfl rfl 13 rfl ?_
    refine ww_getS C cl_X4 (obText hb hn) 1 (by decide) rfl (b + 1) (so_text hb 1 1 (by decide)) w_296 dX4_add_13 16 rfl ?_
    refine ww_aload_n C 0 dX4_add_16 rfl rfl 17 rfl ?_
    refine ww_getI C cl_X4 (obText hb hn) 2 (by decide) rfl w_297 dX4_add_17 20 rfl ?_
    refine ww_iload_n C 1 dX4_add_20 rfl rfl 21 rfl ?_
    refine ww_iast C (iaText (q := b) hb hn 1 160 (by decide)) dX4_add_21 h 22 rfl (fun u3 h => ?_)
    refine ww_aload_n C 0 dX4_add_22 rfl rfl 23 rfl ?_
    refine ww_dup C dX4_add_23 rfl 24 rfl ?_
    refine ww_getI C cl_X4 (obText hb hn) 2 (by decide) rfl w_297 dX4_add_24 27 rfl ?_
    refine ww_iconst C (1 : Int32) dX4_add_27 (by decide) 28 rfl ?_
    refine ww_iadd C dX4_add_28 29 rfl ?_
    refine ww_putI C cl_X4 (obText hb hn) 2 (by decide) rfl tyX4 tyX4_ok nmX4 rfl rfl rfl w_297 dX4_add_29 h 32 rfl (fun u4 h => ?_)
    exact ww_vret C dX4_add_32 hr h

set_option maxRecDepth 100000 in
set_option maxHeartbeats 4000000 in
theorem k_X3_isName {l : Launch} {D : va_G} {ad : Nat → Nat} {cA : Nat → ClassId} {tys : List (ClassId × FieldType)} {n : Nat} {sa : SA} (hn : 42 ≤ n) {N : Nat} {g : Mem} {a1 : Int32} {r : Int32} {g1 : Mem} (h : X3_isName N a1 g = some (r, g1)) : CTi l yX3_isName (wsm yX3_isName cX3_isName 1 (some .boolean)) 1 D YI ad cA tys n sa g [.int a1] r g1 := by
  refine ct_of RX3 rfl (by decide +kernel) (Nat.le_of_ble_eq_true rfl) rfl (fun sz => PBi D YI ad cA n r g1 sz) ?_
  intro p e R s m args below meth c C hr
  rw [X3_isName] at h
  refine ww_iload_n C 0 dX3_isName_0 rfl rfl 1 rfl ?_
  refine ww_sipush C (266 : Int32) dX3_isName_1 (by decide) 4 rfl ?_
  refine ww_icmp_lt C 18 dX3_isName_4 (by decide) h 7 rfl (fun h => ?_) (fun h => ?_)
  · refine ww_iconst C (0 : Int32) dX3_isName_18 (by decide) 19 rfl ?_
    exact ww_zret C dX3_isName_19 hr rfl h
  · refine ww_iload_n C 0 dX3_isName_7 rfl rfl 8 rfl ?_
    refine ww_sipush C (272 : Int32) dX3_isName_8 (by decide) 11 rfl ?_
    refine ww_icmp_ge C 18 dX3_isName_11 (by decide) h 14 rfl (fun h => ?_) (fun h => ?_)
    · refine ww_iconst C (0 : Int32) dX3_isName_18 (by decide) 19 rfl ?_
      exact ww_zret C dX3_isName_19 hr rfl h
    · refine ww_iconst C (1 : Int32) dX3_isName_14 (by decide) 15 rfl ?_
      refine ww_goto C 19 dX3_isName_15 (by decide) ?_
      exact ww_zret C dX3_isName_19 hr rfl h

set_option maxRecDepth 100000 in
set_option maxHeartbeats 4000000 in
theorem k_X3_readsOr {l : Launch} {D : va_G} {ad : Nat → Nat} {cA : Nat → ClassId} {tys : List (ClassId × FieldType)} {n : Nat} {sa : SA} (hn : 42 ≤ n) {N : Nat} {G : Nat → Int32 → Mem → Option (Int32 × Mem)} {rkG : Nat} (hrk : 13 ≤ rkG) (hG_X3_readsAnd : ∀ {a1 : Int32} {g : Mem} {r : Int32} {g1 : Mem}, G 1 a1 g = some (r, g1) → CTi l yX3_readsAnd (wsm yX3_readsAnd cX3_readsAnd 4 (some .boolean)) rkG D YI ad cA tys n sa g [.ref (ad 0), .int a1] r g1) {g : Mem} {a1 : Int32} {r : Int32} {g1 : Mem} (h : X3_readsOr N G a1 g = some (r, g1)) : CTi l yX3_readsOr (wsm yX3_readsOr cX3_readsOr 4 (some .boolean)) (rkG + 1) D YI ad cA tys n sa g [.ref (ad 0), .int a1] r g1 := by
  refine ct_of RX3 rfl (by decide +kernel) (Nat.le_of_ble_eq_true rfl) rfl (fun sz => PBi D YI ad cA n r g1 sz) ?_
  intro p e R s m args below meth c C hr
  have L8h : ∀ (fu : Nat), (∀ (x2 : Int32) (x3 : Int32) (g : Mem), X3_readsOr_L8 N G a1 fu x2 x3 g = some (r, g1) → WW p l e R s m args below meth c 4 D YI ad cA n (MQ below (PBi D YI ad cA n r g1 s.heap.size) args s 0 0 (AA n ad s.heap.size)) g 8 [(0, .ref (ad 0)), (1, .int a1), (2, .int x2), (3, .int x3)] []) := by
    intro fu
    induction fu with
    | zero => intro x2 x3 g h; cases h
    | succ fu ih =>
      intro x2 x3 g h
      rw [X3_readsOr_L8] at h
      refine ww_iload_n C 3 dX3_readsOr_8 rfl rfl 9 rfl ?_
      refine ww_sipush C (160 : Int32) dX3_readsOr_9 (by decide) 12 rfl ?_
      refine ww_icmp_ge C 55 dX3_readsOr_12 (by decide) h 15 rfl (fun h => ?_) (fun h => ?_)
      · refine ww_iload_n C 2 dX3_readsOr_55 rfl rfl 56 rfl ?_
        exact ww_zretG C dX3_readsOr_56 hr h
      · refine ww_iload_n C 2 dX3_readsOr_15 rfl rfl 16 rfl ?_
        refine ww_if_eq C 55 dX3_readsOr_16 (by decide) h 19 rfl (fun h => ?_) (fun h => ?_)
        · refine ww_iload_n C 2 dX3_readsOr_55 rfl rfl 56 rfl ?_
          exact ww_zretG C dX3_readsOr_56 hr h
        · refine ww_aload_n C 0 dX3_readsOr_19 rfl rfl 20 rfl ?_
          refine ww_getI C cl_X3 (obTape hn) 4 (by decide) rfl w_266 dX3_readsOr_20 23 rfl ?_
          refine ww_sipush C (264 : Int32) dX3_readsOr_23 (by decide) 26 rfl ?_
          refine ww_icmp_ne C 55 dX3_readsOr_26 (by decide) h 29 rfl (fun h => ?_) (fun h => ?_)
          · refine ww_iload_n C 2 dX3_readsOr_55 rfl rfl 56 rfl ?_
            exact ww_zretG C dX3_readsOr_56 hr h
          · refine ww_aload_n C 0 dX3_readsOr_29 rfl rfl 30 rfl ?_
            refine ww_callVv C (As := []) (st := []) h cl_X3.1 (obTape hn) (fun _ _ hF => k_X3_next hn hF) w_389 cm_X3_next (by omega) (by decide) rfl rfl (Nat.le_of_ble_eq_true rfl) dX3_readsOr_30 33 rfl (fun _ u11 h => ?_)
            refine ww_aload_n C 0 dX3_readsOr_33 rfl rfl 34 rfl ?_
            refine ww_iload_n C 1 dX3_readsOr_34 rfl rfl 35 rfl ?_
            refine ww_callVi C (As := [.int a1]) (st := []) h cl_X3.1 (obTape hn) (fun _ _ hF => hG_X3_readsAnd hF) w_432 cm_X3_readsAnd (Nat.le_refl _) (by decide) rfl rfl (Nat.le_of_ble_eq_true rfl) dX3_readsOr_35 38 rfl (fun v14 u13 h => ?_)
            refine ww_istore_n C [(2, .int v14), (0, .ref (ad 0)), (1, .int a1), (3, .int x3)] dX3_readsOr_38 rfl (by decide) rfl 39 rfl ?_
            refine ww_aload_n C 1 dX3_readsOr_39 rfl rfl 40 rfl ?_
            refine ww_getM C cl_X3 (obTape hn) 6 (by decide) rfl w_268 dX3_readsOr_40 h 43 rfl (fun t15 ht15 h => ?_)
            refine ww_sipush C (-264 : Int32) dX3_readsOr_43 (by decide) 46 rfl ?_
            refine ww_callVv C (As := [.int (-264 : Int32)]) (st := []) h cl_X4.1 (obText ht15 hn) (fun _ _ hF => k_X4_add hn ht15 hF) w_444 cm_X4_add (by omega) (by decide) rfl rfl (Nat.le_of_ble_eq_true rfl) dX3_readsOr_46 49 rfl (fun _ u16 h => ?_)
            refine ww_iinc C 3 (1 : Int32) (by decide) (fun v18 => [(3, .int v18), (2, .int v14), (0, .ref (ad 0)), (1, .int a1)]) dX3_readsOr_49 rfl (by decide) (fun _ => rfl) h 52 rfl (fun v18 h => ?_)
            refine ww_goto C 8 dX3_readsOr_52 (by decide) ?_
            exact ww_sub [2, 3, 1, 0] rfl (ih _ _ _ h)
  rw [X3_readsOr] at h
  refine ww_aload_n C 0 dX3_readsOr_0 rfl rfl 1 rfl ?_
  refine ww_iload_n C 1 dX3_readsOr_1 rfl rfl 2 rfl ?_
  refine ww_callVi C (As := [.int a1]) (st := []) h cl_X3.1 (obTape hn) (fun _ _ hF => hG_X3_readsAnd hF) w_432 cm_X3_readsAnd (Nat.le_refl _) (by decide) rfl rfl (Nat.le_of_ble_eq_true rfl) dX3_readsOr_2 5 rfl (fun v20 u19 h => ?_)
  refine ww_istore_n C [(2, .int v20), (0, .ref (ad 0)), (1, .int a1)] dX3_readsOr_5 rfl (by decide) rfl 6 rfl ?_
  refine ww_iconst C (0 : Int32) dX3_readsOr_6 (by decide) 7 rfl ?_
  refine ww_istore_n C [(3, .int (0 : Int32)), (2, .int v20), (0, .ref (ad 0)), (1, .int a1)] dX3_readsOr_7 rfl (by decide) rfl 8 rfl ?_
  exact ww_sub [2, 3, 1, 0] rfl (L8h N _ _ _ h)

set_option maxRecDepth 100000 in
set_option maxHeartbeats 4000000 in
theorem k_X3_readsAnd {l : Launch} {D : va_G} {ad : Nat → Nat} {cA : Nat → ClassId} {tys : List (ClassId × FieldType)} {n : Nat} {sa : SA} (hn : 42 ≤ n) {N : Nat} {G : Nat → Int32 → Mem → Option (Int32 × Mem)} {rkG : Nat} (hrk : 13 ≤ rkG) (hG_X3_readsNot : ∀ {a1 : Int32} {g : Mem} {r : Int32} {g1 : Mem}, G 2 a1 g = some (r, g1) → CTi l yX3_readsNot (wsm yX3_readsNot cX3_readsNot 4 (some .boolean)) rkG D YI ad cA tys n sa g [.ref (ad 0), .int a1] r g1) {g : Mem} {a1 : Int32} {r : Int32} {g1 : Mem} (h : X3_readsAnd N G a1 g = some (r, g1)) : CTi l yX3_readsAnd (wsm yX3_readsAnd cX3_readsAnd 4 (some .boolean)) (rkG + 1) D YI ad cA tys n sa g [.ref (ad 0), .int a1] r g1 := by
  refine ct_of RX3 rfl (by decide +kernel) (Nat.le_of_ble_eq_true rfl) rfl (fun sz => PBi D YI ad cA n r g1 sz) ?_
  intro p e R s m args below meth c C hr
  have L8h : ∀ (fu : Nat), (∀ (x2 : Int32) (x3 : Int32) (g : Mem), X3_readsAnd_L8 N G a1 fu x2 x3 g = some (r, g1) → WW p l e R s m args below meth c 4 D YI ad cA n (MQ below (PBi D YI ad cA n r g1 s.heap.size) args s 0 0 (AA n ad s.heap.size)) g 8 [(0, .ref (ad 0)), (1, .int a1), (2, .int x2), (3, .int x3)] []) := by
    intro fu
    induction fu with
    | zero => intro x2 x3 g h; cases h
    | succ fu ih =>
      intro x2 x3 g h
      rw [X3_readsAnd_L8] at h
      refine ww_iload_n C 3 dX3_readsAnd_8 rfl rfl 9 rfl ?_
      refine ww_sipush C (160 : Int32) dX3_readsAnd_9 (by decide) 12 rfl ?_
      refine ww_icmp_ge C 55 dX3_readsAnd_12 (by decide) h 15 rfl (fun h => ?_) (fun h => ?_)
      · refine ww_iload_n C 2 dX3_readsAnd_55 rfl rfl 56 rfl ?_
        exact ww_zretG C dX3_readsAnd_56 hr h
      · refine ww_iload_n C 2 dX3_readsAnd_15 rfl rfl 16 rfl ?_
        refine ww_if_eq C 55 dX3_readsAnd_16 (by decide) h 19 rfl (fun h => ?_) (fun h => ?_)
        · refine ww_iload_n C 2 dX3_readsAnd_55 rfl rfl 56 rfl ?_
          exact ww_zretG C dX3_readsAnd_56 hr h
        · refine ww_aload_n C 0 dX3_readsAnd_19 rfl rfl 20 rfl ?_
          refine ww_getI C cl_X3 (obTape hn) 4 (by decide) rfl w_266 dX3_readsAnd_20 23 rfl ?_
          refine ww_sipush C (263 : Int32) dX3_readsAnd_23 (by decide) 26 rfl ?_
          refine ww_icmp_ne C 55 dX3_readsAnd_26 (by decide) h 29 rfl (fun h => ?_) (fun h => ?_)
          · refine ww_iload_n C 2 dX3_readsAnd_55 rfl rfl 56 rfl ?_
            exact ww_zretG C dX3_readsAnd_56 hr h
          · refine ww_aload_n C 0 dX3_readsAnd_29 rfl rfl 30 rfl ?_
            refine ww_callVv C (As := []) (st := []) h cl_X3.1 (obTape hn) (fun _ _ hF => k_X3_next hn hF) w_389 cm_X3_next (by omega) (by decide) rfl rfl (Nat.le_of_ble_eq_true rfl) dX3_readsAnd_30 33 rfl (fun _ u11 h => ?_)
            refine ww_aload_n C 0 dX3_readsAnd_33 rfl rfl 34 rfl ?_
            refine ww_iload_n C 1 dX3_readsAnd_34 rfl rfl 35 rfl ?_
            refine ww_callVi C (As := [.int a1]) (st := []) h cl_X3.1 (obTape hn) (fun _ _ hF => hG_X3_readsNot hF) w_436 cm_X3_readsNot (Nat.le_refl _) (by decide) rfl rfl (Nat.le_of_ble_eq_true rfl) dX3_readsAnd_35 38 rfl (fun v14 u13 h => ?_)
            refine ww_istore_n C [(2, .int v14), (0, .ref (ad 0)), (1, .int a1), (3, .int x3)] dX3_readsAnd_38 rfl (by decide) rfl 39 rfl ?_
            refine ww_aload_n C 1 dX3_readsAnd_39 rfl rfl 40 rfl ?_
            refine ww_getM C cl_X3 (obTape hn) 6 (by decide) rfl w_268 dX3_readsAnd_40 h 43 rfl (fun t15 ht15 h => ?_)
            refine ww_sipush C (-263 : Int32) dX3_readsAnd_43 (by decide) 46 rfl ?_
            refine ww_callVv C (As := [.int (-263 : Int32)]) (st := []) h cl_X4.1 (obText ht15 hn) (fun _ _ hF => k_X4_add hn ht15 hF) w_444 cm_X4_add (by omega) (by decide) rfl rfl (Nat.le_of_ble_eq_true rfl) dX3_readsAnd_46 49 rfl (fun _ u16 h => ?_)
            refine ww_iinc C 3 (1 : Int32) (by decide) (fun v18 => [(3, .int v18), (2, .int v14), (0, .ref (ad 0)), (1, .int a1)]) dX3_readsAnd_49 rfl (by decide) (fun _ => rfl) h 52 rfl (fun v18 h => ?_)
            refine ww_goto C 8 dX3_readsAnd_52 (by decide) ?_
            exact ww_sub [2, 3, 1, 0] rfl (ih _ _ _ h)
  rw [X3_readsAnd] at h
  refine ww_aload_n C 0 dX3_readsAnd_0 rfl rfl 1 rfl ?_
  refine ww_iload_n C 1 dX3_readsAnd_1 rfl rfl 2 rfl ?_
  refine ww_callVi C (As := [.int a1]) (st := []) h cl_X3.1 (obTape hn) (fun _ _ hF => hG_X3_readsNot hF) w_436 cm_X3_readsNot (Nat.le_refl _) (by decide) rfl rfl (Nat.le_of_ble_eq_true rfl) dX3_readsAnd_2 5 rfl (fun v20 u19 h => ?_)
  refine ww_istore_n C [(2, .int v20), (0, .ref (ad 0)), (1, .int a1)] dX3_readsAnd_5 rfl (by decide) rfl 6 rfl ?_
  refine ww_iconst C (0 : Int32) dX3_readsAnd_6 (by decide) 7 rfl ?_
  refine ww_istore_n C [(3, .int (0 : Int32)), (2, .int v20), (0, .ref (ad 0)), (1, .int a1)] dX3_readsAnd_7 rfl (by decide) rfl 8 rfl ?_
  exact ww_sub [2, 3, 1, 0] rfl (L8h N _ _ _ h)

set_option maxRecDepth 100000 in
set_option maxHeartbeats 4000000 in
theorem k_X3_readsNot {l : Launch} {D : va_G} {ad : Nat → Nat} {cA : Nat → ClassId} {tys : List (ClassId × FieldType)} {n : Nat} {sa : SA} (hn : 42 ≤ n) {N : Nat} {G : Nat → Int32 → Mem → Option (Int32 × Mem)} {rkG : Nat} (hrk : 13 ≤ rkG) (hG_X3_readsNotBehindNot : ∀ {a1 : Int32} {g : Mem} {r : Int32} {g1 : Mem}, G 3 a1 g = some (r, g1) → CTi l yX3_readsNotBehindNot (wsm yX3_readsNotBehindNot cX3_readsNotBehindNot 3 (some .boolean)) rkG D YI ad cA tys n sa g [.ref (ad 0), .int a1] r g1) (hG_X3_readsSum : ∀ {a1 : Int32} {g : Mem} {r : Int32} {g1 : Mem}, G 4 a1 g = some (r, g1) → CTi l yX3_readsSum (wsm yX3_readsSum cX3_readsSum 5 (some .boolean)) rkG D YI ad cA tys n sa g [.ref (ad 0), .int a1] r g1) {g : Mem} {a1 : Int32} {r : Int32} {g1 : Mem} (h : X3_readsNot N G a1 g = some (r, g1)) : CTi l yX3_readsNot (wsm yX3_readsNot cX3_readsNot 4 (some .boolean)) (rkG + 1) D YI ad cA tys n sa g [.ref (ad 0), .int a1] r g1 := by
  refine ct_of RX3 rfl (by decide +kernel) (Nat.le_of_ble_eq_true rfl) rfl (fun sz => PBi D YI ad cA n r g1 sz) ?_
  intro p e R s m args below meth c C hr
  rw [X3_readsNot] at h
  refine ww_aload_n C 0 dX3_readsNot_0 rfl rfl 1 rfl ?_
  refine ww_getI C cl_X3 (obTape hn) 4 (by decide) rfl w_266 dX3_readsNot_1 4 rfl ?_
  refine ww_sipush C (265 : Int32) dX3_readsNot_4 (by decide) 7 rfl ?_
  refine ww_icmp_ne C 31 dX3_readsNot_7 (by decide) h 10 rfl (fun h => ?_) (fun h => ?_)
  · refine ww_aload_n C 0 dX3_readsNot_31 rfl rfl 32 rfl ?_
    refine ww_iload_n C 1 dX3_readsNot_32 rfl rfl 33 rfl ?_
    refine ww_callVi C (As := [.int a1]) (st := []) h cl_X3.1 (obTape hn) (fun _ _ hF => hG_X3_readsSum hF) w_448 cm_X3_readsSum (Nat.le_refl _) (by decide) rfl rfl (Nat.le_of_ble_eq_true rfl) dX3_readsNot_33 36 rfl (fun v21 u20 h => ?_)
    refine ww_if_ne C 41 dX3_readsNot_36 (by decide) h 39 rfl (fun h => ?_) (fun h => ?_)
    · refine ww_aload_n C 0 dX3_readsNot_41 rfl rfl 42 rfl ?_
      refine ww_getI C cl_X3 (obTape hn) 4 (by decide) rfl w_266 dX3_readsNot_42 45 rfl ?_
      refine ww_bi h (fun v22 h => ?_)
      refine ww_istore_n C [(2, .int v22), (0, .ref (ad 0)), (1, .int a1)] dX3_readsNot_45 rfl (by decide) rfl 46 rfl ?_
      refine ww_iload_n C 0 dX3_readsNot_46 rfl rfl 47 rfl ?_
      refine ww_bipush C (60 : Int32) dX3_readsNot_47 (by decide) 49 rfl ?_
      refine ww_icmp_eq C 60 dX3_readsNot_49 (by decide) h 52 rfl (fun h => ?_) (fun h => ?_)
      · refine ww_aload_n C 1 dX3_readsNot_60 rfl rfl 61 rfl ?_
        refine ww_callVv C (As := []) (st := []) h cl_X3.1 (obTape hn) (fun _ _ hF => k_X3_next hn hF) w_389 cm_X3_next (by omega) (by decide) rfl rfl (Nat.le_of_ble_eq_true rfl) dX3_readsNot_61 64 rfl (fun _ u23 h => ?_)
        refine ww_aload_n C 1 dX3_readsNot_64 rfl rfl 65 rfl ?_
        refine ww_iload_n C 2 dX3_readsNot_65 rfl rfl 66 rfl ?_
        refine ww_callVi C (As := [.int a1]) (st := []) h cl_X3.1 (obTape hn) (fun _ _ hF => hG_X3_readsSum hF) w_448 cm_X3_readsSum (Nat.le_refl _) (by decide) rfl rfl (Nat.le_of_ble_eq_true rfl) dX3_readsNot_66 69 rfl (fun v26 u25 h => ?_)
        refine ww_istore_n C [(3, .int v26), (2, .int v22), (0, .ref (ad 0)), (1, .int a1)] dX3_readsNot_69 rfl (by decide) rfl 70 rfl ?_
        refine ww_aload_n C 2 dX3_readsNot_70 rfl rfl 71 rfl ?_
        refine ww_getM C cl_X3 (obTape hn) 6 (by decide) rfl w_268 dX3_readsNot_71 h 74 rfl (fun t27 ht27 h => ?_)
        refine ww_iload_n C 1 dX3_readsNot_74 rfl rfl 75 rfl ?_
        refine ww_ineg C dX3_readsNot_75 76 rfl ?_
        refine ww_callVv C (As := [.int (-v22)]) (st := []) h cl_X4.1 (obText ht27 hn) (fun _ _ hF => k_X4_add hn ht27 hF) w_444 cm_X4_add (by omega) (by decide) rfl rfl (Nat.le_of_ble_eq_true rfl) dX3_readsNot_76 79 rfl (fun _ u28 h => ?_)
        refine ww_iload_n C 0 dX3_readsNot_79 rfl rfl 80 rfl ?_
        exact ww_zretG C dX3_readsNot_80 hr h
      · refine ww_iload_n C 0 dX3_readsNot_52 rfl rfl 53 rfl ?_
        refine ww_bipush C (61 : Int32) dX3_readsNot_53 (by decide) 55 rfl ?_
        refine ww_icmp_eq C 60 dX3_readsNot_55 (by decide) h 58 rfl (fun h => ?_) (fun h => ?_)
        · refine ww_aload_n C 1 dX3_readsNot_60 rfl rfl 61 rfl ?_
          refine ww_callVv C (As := []) (st := []) h cl_X3.1 (obTape hn) (fun _ _ hF => k_X3_next hn hF) w_389 cm_X3_next (by omega) (by decide) rfl rfl (Nat.le_of_ble_eq_true rfl) dX3_readsNot_61 64 rfl (fun _ u30 h => ?_)
          refine ww_aload_n C 1 dX3_readsNot_64 rfl rfl 65 rfl ?_
          refine ww_iload_n C 2 dX3_readsNot_65 rfl rfl 66 rfl ?_
          refine ww_callVi C (As := [.int a1]) (st := []) h cl_X3.1 (obTape hn) (fun _ _ hF => hG_X3_readsSum hF) w_448 cm_X3_readsSum (Nat.le_refl _) (by decide) rfl rfl (Nat.le_of_ble_eq_true rfl) dX3_readsNot_66 69 rfl (fun v33 u32 h => ?_)
          refine ww_istore_n C [(3, .int v33), (2, .int v22), (0, .ref (ad 0)), (1, .int a1)] dX3_readsNot_69 rfl (by decide) rfl 70 rfl ?_
          refine ww_aload_n C 2 dX3_readsNot_70 rfl rfl 71 rfl ?_
          refine ww_getM C cl_X3 (obTape hn) 6 (by decide) rfl w_268 dX3_readsNot_71 h 74 rfl (fun t34 ht34 h => ?_)
          refine ww_iload_n C 1 dX3_readsNot_74 rfl rfl 75 rfl ?_
          refine ww_ineg C dX3_readsNot_75 76 rfl ?_
          refine ww_callVv C (As := [.int (-v22)]) (st := []) h cl_X4.1 (obText ht34 hn) (fun _ _ hF => k_X4_add hn ht34 hF) w_444 cm_X4_add (by omega) (by decide) rfl rfl (Nat.le_of_ble_eq_true rfl) dX3_readsNot_76 79 rfl (fun _ u35 h => ?_)
          refine ww_iload_n C 0 dX3_readsNot_79 rfl rfl 80 rfl ?_
          exact ww_zretG C dX3_readsNot_80 hr h
        · refine ww_iconst C (1 : Int32) dX3_readsNot_58 (by decide) 59 rfl ?_
          exact ww_zret C dX3_readsNot_59 hr rfl h
    · refine ww_iconst C (0 : Int32) dX3_readsNot_39 (by decide) 40 rfl ?_
      exact ww_zret C dX3_readsNot_40 hr rfl h
  · refine ww_iload_n C 1 dX3_readsNot_10 rfl rfl 11 rfl ?_
    refine ww_iconst C (5 : Int32) dX3_readsNot_11 (by decide) 12 rfl ?_
    refine ww_icmp_ge C 29 dX3_readsNot_12 (by decide) h 15 rfl (fun h => ?_) (fun h => ?_)
    · refine ww_iconst C (0 : Int32) dX3_readsNot_29 (by decide) 30 rfl ?_
      exact ww_zret C dX3_readsNot_30 hr rfl h
    · refine ww_aload_n C 0 dX3_readsNot_15 rfl rfl 16 rfl ?_
      refine ww_iload_n C 1 dX3_readsNot_16 rfl rfl 17 rfl ?_
      refine ww_iconst C (1 : Int32) dX3_readsNot_17 (by decide) 18 rfl ?_
      refine ww_iadd C dX3_readsNot_18 19 rfl ?_
      refine ww_callVi C (As := [.int (a1 + (1 : Int32))]) (st := []) h cl_X3.1 (obTape hn) (fun _ _ hF => hG_X3_readsNotBehindNot hF) w_440 cm_X3_readsNotBehindNot (Nat.le_refl _) (by decide) rfl rfl (Nat.le_of_ble_eq_true rfl) dX3_readsNot_19 22 rfl (fun v38 u37 h => ?_)
      refine ww_if_eq C 29 dX3_readsNot_22 (by decide) h 25 rfl (fun h => ?_) (fun h => ?_)
      · refine ww_iconst C (0 : Int32) dX3_readsNot_29 (by decide) 30 rfl ?_
        exact ww_zret C dX3_readsNot_30 hr rfl h
      · refine ww_iconst C (1 : Int32) dX3_readsNot_25 (by decide) 26 rfl ?_
        refine ww_goto C 30 dX3_readsNot_26 (by decide) ?_
        exact ww_zret C dX3_readsNot_30 hr rfl h

set_option maxRecDepth 100000 in
set_option maxHeartbeats 4000000 in
theorem k_X3_readsNotBehindNot {l : Launch} {D : va_G} {ad : Nat → Nat} {cA : Nat → ClassId} {tys : List (ClassId × FieldType)} {n : Nat} {sa : SA} (hn : 42 ≤ n) {N : Nat} {G : Nat → Int32 → Mem → Option (Int32 × Mem)} {rkG : Nat} (hrk : 13 ≤ rkG) (hG_X3_readsNot : ∀ {a1 : Int32} {g : Mem} {r : Int32} {g1 : Mem}, G 2 a1 g = some (r, g1) → CTi l yX3_readsNot (wsm yX3_readsNot cX3_readsNot 4 (some .boolean)) rkG D YI ad cA tys n sa g [.ref (ad 0), .int a1] r g1) {g : Mem} {a1 : Int32} {r : Int32} {g1 : Mem} (h : X3_readsNotBehindNot N G a1 g = some (r, g1)) : CTi l yX3_readsNotBehindNot (wsm yX3_readsNotBehindNot cX3_readsNotBehindNot 3 (some .boolean)) (rkG + 1) D YI ad cA tys n sa g [.ref (ad 0), .int a1] r g1 := by
  refine ct_of RX3 rfl (by decide +kernel) (Nat.le_of_ble_eq_true rfl) rfl (fun sz => PBi D YI ad cA n r g1 sz) ?_
  intro p e R s m args below meth c C hr
  rw [X3_readsNotBehindNot] at h
  refine ww_aload_n C 0 dX3_readsNotBehindNot_0 rfl rfl 1 rfl ?_
  refine ww_callVv C (As := []) (st := []) h cl_X3.1 (obTape hn) (fun _ _ hF => k_X3_next hn hF) w_389 cm_X3_next (by omega) (by decide) rfl rfl (Nat.le_of_ble_eq_true rfl) dX3_readsNotBehindNot_1 4 rfl (fun _ u8 h => ?_)
  refine ww_aload_n C 0 dX3_readsNotBehindNot_4 rfl rfl 5 rfl ?_
  refine ww_iload_n C 1 dX3_readsNotBehindNot_5 rfl rfl 6 rfl ?_
  refine ww_callVi C (As := [.int a1]) (st := []) h cl_X3.1 (obTape hn) (fun _ _ hF => hG_X3_readsNot hF) w_436 cm_X3_readsNot (Nat.le_refl _) (by decide) rfl rfl (Nat.le_of_ble_eq_true rfl) dX3_readsNotBehindNot_6 9 rfl (fun v11 u10 h => ?_)
  refine ww_istore_n C [(2, .int v11), (0, .ref (ad 0)), (1, .int a1)] dX3_readsNotBehindNot_9 rfl (by decide) rfl 10 rfl ?_
  refine ww_aload_n C 1 dX3_readsNotBehindNot_10 rfl rfl 11 rfl ?_
  refine ww_getM C cl_X3 (obTape hn) 6 (by decide) rfl w_268 dX3_readsNotBehindNot_11 h 14 rfl (fun t12 ht12 h => ?_)
  refine ww_sipush C (-265 : Int32) dX3_readsNotBehindNot_14 (by decide) 17 rfl ?_
  refine ww_callVv C (As := [.int (-265 : Int32)]) (st := []) h cl_X4.1 (obText ht12 hn) (fun _ _ hF => k_X4_add hn ht12 hF) w_444 cm_X4_add (by omega) (by decide) rfl rfl (Nat.le_of_ble_eq_true rfl) dX3_readsNotBehindNot_17 20 rfl (fun _ u13 h => ?_)
  refine ww_iload_n C 0 dX3_readsNotBehindNot_20 rfl rfl 21 rfl ?_
  exact ww_zretG C dX3_readsNotBehindNot_21 hr h

set_option maxRecDepth 100000 in
set_option maxHeartbeats 4000000 in
theorem k_X3_readsSum {l : Launch} {D : va_G} {ad : Nat → Nat} {cA : Nat → ClassId} {tys : List (ClassId × FieldType)} {n : Nat} {sa : SA} (hn : 42 ≤ n) {N : Nat} {G : Nat → Int32 → Mem → Option (Int32 × Mem)} {rkG : Nat} (hrk : 13 ≤ rkG) (hG_X3_readsTerm : ∀ {a1 : Int32} {g : Mem} {r : Int32} {g1 : Mem}, G 5 a1 g = some (r, g1) → CTi l yX3_readsTerm (wsm yX3_readsTerm cX3_readsTerm 4 (some .boolean)) rkG D YI ad cA tys n sa g [.ref (ad 0), .int a1] r g1) {g : Mem} {a1 : Int32} {r : Int32} {g1 : Mem} (h : X3_readsSum N G a1 g = some (r, g1)) : CTi l yX3_readsSum (wsm yX3_readsSum cX3_readsSum 5 (some .boolean)) (rkG + 1) D YI ad cA tys n sa g [.ref (ad 0), .int a1] r g1 := by
  refine ct_of RX3 rfl (by decide +kernel) (Nat.le_of_ble_eq_true rfl) rfl (fun sz => PBi D YI ad cA n r g1 sz) ?_
  intro p e R s m args below meth c C hr
  have L8h : ∀ (fu : Nat), (∀ (x2 : Int32) (x3 : Int32) (g : Mem), X3_readsSum_L8 N G a1 fu x2 x3 g = some (r, g1) → WW p l e R s m args below meth c 5 D YI ad cA n (MQ below (PBi D YI ad cA n r g1 s.heap.size) args s 0 0 (AA n ad s.heap.size)) g 8 [(0, .ref (ad 0)), (1, .int a1), (2, .int x2), (3, .int x3)] []) := by
    intro fu
    induction fu with
    | zero => intro x2 x3 g h; cases h
    | succ fu ih =>
      intro x2 x3 g h
      rw [X3_readsSum_L8] at h
      refine ww_iload_n C 3 dX3_readsSum_8 rfl rfl 9 rfl ?_
      refine ww_sipush C (160 : Int32) dX3_readsSum_9 (by decide) 12 rfl ?_
      refine ww_icmp_ge C 69 dX3_readsSum_12 (by decide) h 15 rfl (fun h => ?_) (fun h => ?_)
      · refine ww_iload_n C 2 dX3_readsSum_69 rfl rfl 70 rfl ?_
        exact ww_zretG C dX3_readsSum_70 hr h
      · refine ww_iload_n C 2 dX3_readsSum_15 rfl rfl 16 rfl ?_
        refine ww_if_eq C 69 dX3_readsSum_16 (by decide) h 19 rfl (fun h => ?_) (fun h => ?_)
        · refine ww_iload_n C 2 dX3_readsSum_69 rfl rfl 70 rfl ?_
          exact ww_zretG C dX3_readsSum_70 hr h
        · refine ww_aload_n C 0 dX3_readsSum_19 rfl rfl 20 rfl ?_
          refine ww_getI C cl_X3 (obTape hn) 4 (by decide) rfl w_266 dX3_readsSum_20 23 rfl ?_
          refine ww_bipush C (43 : Int32) dX3_readsSum_23 (by decide) 25 rfl ?_
          refine ww_icmp_eq C 37 dX3_readsSum_25 (by decide) h 28 rfl (fun h => ?_) (fun h => ?_)
          · refine ww_aload_n C 0 dX3_readsSum_37 rfl rfl 38 rfl ?_
            refine ww_getI C cl_X3 (obTape hn) 4 (by decide) rfl w_266 dX3_readsSum_38 41 rfl ?_
            refine ww_bi h (fun v21 h => ?_)
            refine ww_istore C [(4, .int v21), (0, .ref (ad 0)), (1, .int a1), (2, .int x2), (3, .int x3)] dX3_readsSum_41 (by decide) rfl 43 rfl ?_
            refine ww_aload_n C 1 dX3_readsSum_43 rfl rfl 44 rfl ?_
            refine ww_callVv C (As := []) (st := []) h cl_X3.1 (obTape hn) (fun _ _ hF => k_X3_next hn hF) w_389 cm_X3_next (by omega) (by decide) rfl rfl (Nat.le_of_ble_eq_true rfl) dX3_readsSum_44 47 rfl (fun _ u22 h => ?_)
            refine ww_aload_n C 1 dX3_readsSum_47 rfl rfl 48 rfl ?_
            refine ww_iload_n C 2 dX3_readsSum_48 rfl rfl 49 rfl ?_
            refine ww_callVi C (As := [.int a1]) (st := []) h cl_X3.1 (obTape hn) (fun _ _ hF => hG_X3_readsTerm hF) w_452 cm_X3_readsTerm (Nat.le_refl _) (by decide) rfl rfl (Nat.le_of_ble_eq_true rfl) dX3_readsSum_49 52 rfl (fun v25 u24 h => ?_)
            refine ww_istore_n C [(2, .int v25), (4, .int v21), (0, .ref (ad 0)), (1, .int a1), (3, .int x3)] dX3_readsSum_52 rfl (by decide) rfl 53 rfl ?_
            refine ww_aload_n C 2 dX3_readsSum_53 rfl rfl 54 rfl ?_
            refine ww_getM C cl_X3 (obTape hn) 6 (by decide) rfl w_268 dX3_readsSum_54 h 57 rfl (fun t26 ht26 h => ?_)
            refine ww_iload C 1 dX3_readsSum_57 rfl 59 rfl ?_
            refine ww_ineg C dX3_readsSum_59 60 rfl ?_
            refine ww_callVv C (As := [.int (-v21)]) (st := []) h cl_X4.1 (obText ht26 hn) (fun _ _ hF => k_X4_add hn ht26 hF) w_444 cm_X4_add (by omega) (by decide) rfl rfl (Nat.le_of_ble_eq_true rfl) dX3_readsSum_60 63 rfl (fun _ u27 h => ?_)
            refine ww_iinc C 4 (1 : Int32) (by decide) (fun v29 => [(3, .int v29), (2, .int v25), (4, .int v21), (0, .ref (ad 0)), (1, .int a1)]) dX3_readsSum_63 rfl (by decide) (fun _ => rfl) h 66 rfl (fun v29 h => ?_)
            refine ww_goto C 8 dX3_readsSum_66 (by decide) ?_
            exact ww_sub [3, 4, 1, 0] rfl (ih _ _ _ h)
          · refine ww_aload_n C 0 dX3_readsSum_28 rfl rfl 29 rfl ?_
            refine ww_getI C cl_X3 (obTape hn) 4 (by decide) rfl w_266 dX3_readsSum_29 32 rfl ?_
            refine ww_bipush C (45 : Int32) dX3_readsSum_32 (by decide) 34 rfl ?_
            refine ww_icmp_ne C 69 dX3_readsSum_34 (by decide) h 37 rfl (fun h => ?_) (fun h => ?_)
            · refine ww_iload_n C 2 dX3_readsSum_69 rfl rfl 70 rfl ?_
              exact ww_zretG C dX3_readsSum_70 hr h
            · refine ww_aload_n C 0 dX3_readsSum_37 rfl rfl 38 rfl ?_
              refine ww_getI C cl_X3 (obTape hn) 4 (by decide) rfl w_266 dX3_readsSum_38 41 rfl ?_
              refine ww_bi h (fun v30 h => ?_)
              refine ww_istore C [(4, .int v30), (0, .ref (ad 0)), (1, .int a1), (2, .int x2), (3, .int x3)] dX3_readsSum_41 (by decide) rfl 43 rfl ?_
              refine ww_aload_n C 1 dX3_readsSum_43 rfl rfl 44 rfl ?_
              refine ww_callVv C (As := []) (st := []) h cl_X3.1 (obTape hn) (fun _ _ hF => k_X3_next hn hF) w_389 cm_X3_next (by omega) (by decide) rfl rfl (Nat.le_of_ble_eq_true rfl) dX3_readsSum_44 47 rfl (fun _ u31 h => ?_)
              refine ww_aload_n C 1 dX3_readsSum_47 rfl rfl 48 rfl ?_
              refine ww_iload_n C 2 dX3_readsSum_48 rfl rfl 49 rfl ?_
              refine ww_callVi C (As := [.int a1]) (st := []) h cl_X3.1 (obTape hn) (fun _ _ hF => hG_X3_readsTerm hF) w_452 cm_X3_readsTerm (Nat.le_refl _) (by decide) rfl rfl (Nat.le_of_ble_eq_true rfl) dX3_readsSum_49 52 rfl (fun v34 u33 h => ?_)
              refine ww_istore_n C [(2, .int v34), (4, .int v30), (0, .ref (ad 0)), (1, .int a1), (3, .int x3)] dX3_readsSum_52 rfl (by decide) rfl 53 rfl ?_
              refine ww_aload_n C 2 dX3_readsSum_53 rfl rfl 54 rfl ?_
              refine ww_getM C cl_X3 (obTape hn) 6 (by decide) rfl w_268 dX3_readsSum_54 h 57 rfl (fun t35 ht35 h => ?_)
              refine ww_iload C 1 dX3_readsSum_57 rfl 59 rfl ?_
              refine ww_ineg C dX3_readsSum_59 60 rfl ?_
              refine ww_callVv C (As := [.int (-v30)]) (st := []) h cl_X4.1 (obText ht35 hn) (fun _ _ hF => k_X4_add hn ht35 hF) w_444 cm_X4_add (by omega) (by decide) rfl rfl (Nat.le_of_ble_eq_true rfl) dX3_readsSum_60 63 rfl (fun _ u36 h => ?_)
              refine ww_iinc C 4 (1 : Int32) (by decide) (fun v38 => [(3, .int v38), (2, .int v34), (4, .int v30), (0, .ref (ad 0)), (1, .int a1)]) dX3_readsSum_63 rfl (by decide) (fun _ => rfl) h 66 rfl (fun v38 h => ?_)
              refine ww_goto C 8 dX3_readsSum_66 (by decide) ?_
              exact ww_sub [3, 4, 1, 0] rfl (ih _ _ _ h)
  rw [X3_readsSum] at h
  refine ww_aload_n C 0 dX3_readsSum_0 rfl rfl 1 rfl ?_
  refine ww_iload_n C 1 dX3_readsSum_1 rfl rfl 2 rfl ?_
  refine ww_callVi C (As := [.int a1]) (st := []) h cl_X3.1 (obTape hn) (fun _ _ hF => hG_X3_readsTerm hF) w_452 cm_X3_readsTerm (Nat.le_refl _) (by decide) rfl rfl (Nat.le_of_ble_eq_true rfl) dX3_readsSum_2 5 rfl (fun v40 u39 h => ?_)
  refine ww_istore_n C [(2, .int v40), (0, .ref (ad 0)), (1, .int a1)] dX3_readsSum_5 rfl (by decide) rfl 6 rfl ?_
  refine ww_iconst C (0 : Int32) dX3_readsSum_6 (by decide) 7 rfl ?_
  refine ww_istore_n C [(3, .int (0 : Int32)), (2, .int v40), (0, .ref (ad 0)), (1, .int a1)] dX3_readsSum_7 rfl (by decide) rfl 8 rfl ?_
  exact ww_sub [2, 3, 1, 0] rfl (L8h N _ _ _ h)

set_option maxRecDepth 100000 in
set_option maxHeartbeats 4000000 in
theorem k_X3_readsTerm {l : Launch} {D : va_G} {ad : Nat → Nat} {cA : Nat → ClassId} {tys : List (ClassId × FieldType)} {n : Nat} {sa : SA} (hn : 42 ≤ n) {N : Nat} {G : Nat → Int32 → Mem → Option (Int32 × Mem)} {rkG : Nat} (hrk : 13 ≤ rkG) (hG_X3_readsOne : ∀ {a1 : Int32} {g : Mem} {r : Int32} {g1 : Mem}, G 6 a1 g = some (r, g1) → CTi l yX3_readsOne (wsm yX3_readsOne cX3_readsOne 2 (some .boolean)) rkG D YI ad cA tys n sa g [.ref (ad 0), .int a1] r g1) {g : Mem} {a1 : Int32} {r : Int32} {g1 : Mem} (h : X3_readsTerm N G a1 g = some (r, g1)) : CTi l yX3_readsTerm (wsm yX3_readsTerm cX3_readsTerm 4 (some .boolean)) (rkG + 1) D YI ad cA tys n sa g [.ref (ad 0), .int a1] r g1 := by
  refine ct_of RX3 rfl (by decide +kernel) (Nat.le_of_ble_eq_true rfl) rfl (fun sz => PBi D YI ad cA n r g1 sz) ?_
  intro p e R s m args below meth c C hr
  have L8h : ∀ (fu : Nat), (∀ (x2 : Int32) (x3 : Int32) (g : Mem), X3_readsTerm_L8 N G a1 fu x2 x3 g = some (r, g1) → WW p l e R s m args below meth c 4 D YI ad cA n (MQ below (PBi D YI ad cA n r g1 s.heap.size) args s 0 0 (AA n ad s.heap.size)) g 8 [(0, .ref (ad 0)), (1, .int a1), (2, .int x2), (3, .int x3)] []) := by
    intro fu
    induction fu with
    | zero => intro x2 x3 g h; cases h
    | succ fu ih =>
      intro x2 x3 g h
      rw [X3_readsTerm_L8] at h
      refine ww_iload_n C 3 dX3_readsTerm_8 rfl rfl 9 rfl ?_
      refine ww_sipush C (160 : Int32) dX3_readsTerm_9 (by decide) 12 rfl ?_
      refine ww_icmp_ge C 53 dX3_readsTerm_12 (by decide) h 15 rfl (fun h => ?_) (fun h => ?_)
      · refine ww_iload_n C 2 dX3_readsTerm_53 rfl rfl 54 rfl ?_
        exact ww_zretG C dX3_readsTerm_54 hr h
      · refine ww_iload_n C 2 dX3_readsTerm_15 rfl rfl 16 rfl ?_
        refine ww_if_eq C 53 dX3_readsTerm_16 (by decide) h 19 rfl (fun h => ?_) (fun h => ?_)
        · refine ww_iload_n C 2 dX3_readsTerm_53 rfl rfl 54 rfl ?_
          exact ww_zretG C dX3_readsTerm_54 hr h
        · refine ww_aload_n C 0 dX3_readsTerm_19 rfl rfl 20 rfl ?_
          refine ww_getI C cl_X3 (obTape hn) 4 (by decide) rfl w_266 dX3_readsTerm_20 23 rfl ?_
          refine ww_bipush C (42 : Int32) dX3_readsTerm_23 (by decide) 25 rfl ?_
          refine ww_icmp_ne C 53 dX3_readsTerm_25 (by decide) h 28 rfl (fun h => ?_) (fun h => ?_)
          · refine ww_iload_n C 2 dX3_readsTerm_53 rfl rfl 54 rfl ?_
            exact ww_zretG C dX3_readsTerm_54 hr h
          · refine ww_aload_n C 0 dX3_readsTerm_28 rfl rfl 29 rfl ?_
            refine ww_callVv C (As := []) (st := []) h cl_X3.1 (obTape hn) (fun _ _ hF => k_X3_next hn hF) w_389 cm_X3_next (by omega) (by decide) rfl rfl (Nat.le_of_ble_eq_true rfl) dX3_readsTerm_29 32 rfl (fun _ u11 h => ?_)
            refine ww_aload_n C 0 dX3_readsTerm_32 rfl rfl 33 rfl ?_
            refine ww_iload_n C 1 dX3_readsTerm_33 rfl rfl 34 rfl ?_
            refine ww_callVi C (As := [.int a1]) (st := []) h cl_X3.1 (obTape hn) (fun _ _ hF => hG_X3_readsOne hF) w_456 cm_X3_readsOne (Nat.le_refl _) (by decide) rfl rfl (Nat.le_of_ble_eq_true rfl) dX3_readsTerm_34 37 rfl (fun v14 u13 h => ?_)
            refine ww_istore_n C [(2, .int v14), (0, .ref (ad 0)), (1, .int a1), (3, .int x3)] dX3_readsTerm_37 rfl (by decide) rfl 38 rfl ?_
            refine ww_aload_n C 1 dX3_readsTerm_38 rfl rfl 39 rfl ?_
            refine ww_getM C cl_X3 (obTape hn) 6 (by decide) rfl w_268 dX3_readsTerm_39 h 42 rfl (fun t15 ht15 h => ?_)
            refine ww_bipush C (-42 : Int32) dX3_readsTerm_42 (by decide) 44 rfl ?_
            refine ww_callVv C (As := [.int (-42 : Int32)]) (st := []) h cl_X4.1 (obText ht15 hn) (fun _ _ hF => k_X4_add hn ht15 hF) w_444 cm_X4_add (by omega) (by decide) rfl rfl (Nat.le_of_ble_eq_true rfl) dX3_readsTerm_44 47 rfl (fun _ u16 h => ?_)
            refine ww_iinc C 3 (1 : Int32) (by decide) (fun v18 => [(3, .int v18), (2, .int v14), (0, .ref (ad 0)), (1, .int a1)]) dX3_readsTerm_47 rfl (by decide) (fun _ => rfl) h 50 rfl (fun v18 h => ?_)
            refine ww_goto C 8 dX3_readsTerm_50 (by decide) ?_
            exact ww_sub [2, 3, 1, 0] rfl (ih _ _ _ h)
  rw [X3_readsTerm] at h
  refine ww_aload_n C 0 dX3_readsTerm_0 rfl rfl 1 rfl ?_
  refine ww_iload_n C 1 dX3_readsTerm_1 rfl rfl 2 rfl ?_
  refine ww_callVi C (As := [.int a1]) (st := []) h cl_X3.1 (obTape hn) (fun _ _ hF => hG_X3_readsOne hF) w_456 cm_X3_readsOne (Nat.le_refl _) (by decide) rfl rfl (Nat.le_of_ble_eq_true rfl) dX3_readsTerm_2 5 rfl (fun v20 u19 h => ?_)
  refine ww_istore_n C [(2, .int v20), (0, .ref (ad 0)), (1, .int a1)] dX3_readsTerm_5 rfl (by decide) rfl 6 rfl ?_
  refine ww_iconst C (0 : Int32) dX3_readsTerm_6 (by decide) 7 rfl ?_
  refine ww_istore_n C [(3, .int (0 : Int32)), (2, .int v20), (0, .ref (ad 0)), (1, .int a1)] dX3_readsTerm_7 rfl (by decide) rfl 8 rfl ?_
  exact ww_sub [2, 3, 1, 0] rfl (L8h N _ _ _ h)

set_option maxRecDepth 100000 in
set_option maxHeartbeats 4000000 in
theorem k_X3_readsOne {l : Launch} {D : va_G} {ad : Nat → Nat} {cA : Nat → ClassId} {tys : List (ClassId × FieldType)} {n : Nat} {sa : SA} (hn : 42 ≤ n) {N : Nat} {G : Nat → Int32 → Mem → Option (Int32 × Mem)} {rkG : Nat} (hrk : 13 ≤ rkG) (hG_X3_readsOneBehindMinus : ∀ {a1 : Int32} {g : Mem} {r : Int32} {g1 : Mem}, G 7 a1 g = some (r, g1) → CTi l yX3_readsOneBehindMinus (wsm yX3_readsOneBehindMinus cX3_readsOneBehindMinus 3 (some .boolean)) rkG D YI ad cA tys n sa g [.ref (ad 0), .int a1] r g1) (hG_X3_readsOr : ∀ {a1 : Int32} {g : Mem} {r : Int32} {g1 : Mem}, G 0 a1 g = some (r, g1) → CTi l yX3_readsOr (wsm yX3_readsOr cX3_readsOr 4 (some .boolean)) rkG D YI ad cA tys n sa g [.ref (ad 0), .int a1] r g1) {g : Mem} {a1 : Int32} {r : Int32} {g1 : Mem} (h : X3_readsOne N G a1 g = some (r, g1)) : CTi l yX3_readsOne (wsm yX3_readsOne cX3_readsOne 2 (some .boolean)) (rkG + 1) D YI ad cA tys n sa g [.ref (ad 0), .int a1] r g1 := by
  refine ct_of RX3 rfl (by decide +kernel) (Nat.le_of_ble_eq_true rfl) rfl (fun sz => PBi D YI ad cA n r g1 sz) ?_
  intro p e R s m args below meth c C hr
  rw [X3_readsOne] at h
  refine ww_aload_n C 0 dX3_readsOne_0 rfl rfl 1 rfl ?_
  refine ww_getI C cl_X3 (obTape hn) 4 (by decide) rfl w_266 dX3_readsOne_1 4 rfl ?_
  refine ww_sipush C (258 : Int32) dX3_readsOne_4 (by decide) 7 rfl ?_
  refine ww_icmp_eq C 20 dX3_readsOne_7 (by decide) h 10 rfl (fun h => ?_) (fun h => ?_)
  · refine ww_aload_n C 0 dX3_readsOne_20 rfl rfl 21 rfl ?_
    refine ww_getM C cl_X3 (obTape hn) 6 (by decide) rfl w_268 dX3_readsOne_21 h 24 rfl (fun t29 ht29 h => ?_)
    refine ww_aload_n C 0 dX3_readsOne_24 rfl rfl 25 rfl ?_
    refine ww_getI C cl_X3 (obTape hn) 4 (by decide) rfl w_266 dX3_readsOne_25 28 rfl ?_
    refine ww_sipush C (258 : Int32) dX3_readsOne_28 (by decide) 31 rfl ?_
    refine ww_icmp_ne C 41 dX3_readsOne_31 (by decide) h 34 rfl (fun h => ?_) (fun h => ?_)
    · refine ww_aload_n C 0 dX3_readsOne_41 rfl rfl 42 rfl ?_
      refine ww_getI C cl_X3 (obTape hn) 4 (by decide) rfl w_266 dX3_readsOne_42 45 rfl ?_
      refine ww_ineg C dX3_readsOne_45 46 rfl ?_
      refine ww_callVv C (As := [.int (-(g.1 0 4))]) (st := []) h cl_X4.1 (obText ht29 hn) (fun _ _ hF => k_X4_add hn ht29 hF) w_444 cm_X4_add (by omega) (by decide) rfl rfl (Nat.le_of_ble_eq_true rfl) dX3_readsOne_46 49 rfl (fun _ u30 h => ?_)
      refine ww_aload_n C 0 dX3_readsOne_49 rfl rfl 50 rfl ?_
      refine ww_callVv C (As := []) (st := []) h cl_X3.1 (obTape hn) (fun _ _ hF => k_X3_next hn hF) w_389 cm_X3_next (by omega) (by decide) rfl rfl (Nat.le_of_ble_eq_true rfl) dX3_readsOne_50 53 rfl (fun _ u32 h => ?_)
      refine ww_iconst C (1 : Int32) dX3_readsOne_53 (by decide) 54 rfl ?_
      exact ww_zret C dX3_readsOne_54 hr rfl h
    · refine ww_aload_n C 0 dX3_readsOne_34 rfl rfl 35 rfl ?_
      refine ww_getI C cl_X3 (obTape hn) 5 (by decide) rfl w_267 dX3_readsOne_35 38 rfl ?_
      refine ww_goto C 46 dX3_readsOne_38 (by decide) ?_
      refine ww_callVv C (As := [.int (g.1 0 5)]) (st := []) h cl_X4.1 (obText ht29 hn) (fun _ _ hF => k_X4_add hn ht29 hF) w_444 cm_X4_add (by omega) (by decide) rfl rfl (Nat.le_of_ble_eq_true rfl) dX3_readsOne_46 49 rfl (fun _ u34 h => ?_)
      refine ww_aload_n C 0 dX3_readsOne_49 rfl rfl 50 rfl ?_
      refine ww_callVv C (As := []) (st := []) h cl_X3.1 (obTape hn) (fun _ _ hF => k_X3_next hn hF) w_389 cm_X3_next (by omega) (by decide) rfl rfl (Nat.le_of_ble_eq_true rfl) dX3_readsOne_50 53 rfl (fun _ u36 h => ?_)
      refine ww_iconst C (1 : Int32) dX3_readsOne_53 (by decide) 54 rfl ?_
      exact ww_zret C dX3_readsOne_54 hr rfl h
  · refine ww_aload_n C 0 dX3_readsOne_10 rfl rfl 11 rfl ?_
    refine ww_getI C cl_X3 (obTape hn) 4 (by decide) rfl w_266 dX3_readsOne_11 14 rfl ?_
    refine ww_callSi C (As := [.int (g.1 0 4)]) (st := []) h (fun _ _ hF => k_X3_isName hn hF) w_460 cm_X3_isName (by omega) (by decide) rfl rfl (Nat.le_of_ble_eq_true rfl) dX3_readsOne_14 17 rfl (fun v39 u38 h => ?_)
    refine ww_if_eq C 55 dX3_readsOne_17 (by decide) h 20 rfl (fun h => ?_) (fun h => ?_)
    · refine ww_iload_n C 1 dX3_readsOne_55 rfl rfl 56 rfl ?_
      refine ww_iconst C (5 : Int32) dX3_readsOne_56 (by decide) 57 rfl ?_
      refine ww_icmp_lt C 62 dX3_readsOne_57 (by decide) h 60 rfl (fun h => ?_) (fun h => ?_)
      · refine ww_aload_n C 0 dX3_readsOne_62 rfl rfl 63 rfl ?_
        refine ww_getI C cl_X3 (obTape hn) 4 (by decide) rfl w_266 dX3_readsOne_63 66 rfl ?_
        refine ww_bipush C (45 : Int32) dX3_readsOne_66 (by decide) 68 rfl ?_
        refine ww_icmp_ne C 79 dX3_readsOne_68 (by decide) h 71 rfl (fun h => ?_) (fun h => ?_)
        · refine ww_aload_n C 0 dX3_readsOne_79 rfl rfl 80 rfl ?_
          refine ww_bipush C (40 : Int32) dX3_readsOne_80 (by decide) 82 rfl ?_
          refine ww_callVi C (As := [.int (40 : Int32)]) (st := []) h cl_X3.1 (obTape hn) (fun _ _ hF => k_X3_passes hn hF) w_424 cm_X3_passes (by omega) (by decide) rfl rfl (Nat.le_of_ble_eq_true rfl) dX3_readsOne_82 85 rfl (fun v41 u40 h => ?_)
          refine ww_if_eq C 111 dX3_readsOne_85 (by decide) h 88 rfl (fun h => ?_) (fun h => ?_)
          · refine ww_iconst C (0 : Int32) dX3_readsOne_111 (by decide) 112 rfl ?_
            exact ww_zret C dX3_readsOne_112 hr rfl h
          · refine ww_aload_n C 0 dX3_readsOne_88 rfl rfl 89 rfl ?_
            refine ww_iload_n C 1 dX3_readsOne_89 rfl rfl 90 rfl ?_
            refine ww_iconst C (1 : Int32) dX3_readsOne_90 (by decide) 91 rfl ?_
            refine ww_iadd C dX3_readsOne_91 92 rfl ?_
            refine ww_callVi C (As := [.int (a1 + (1 : Int32))]) (st := []) h cl_X3.1 (obTape hn) (fun _ _ hF => hG_X3_readsOr hF) w_428 cm_X3_readsOr (Nat.le_refl _) (by decide) rfl rfl (Nat.le_of_ble_eq_true rfl) dX3_readsOne_92 95 rfl (fun v43 u42 h => ?_)
            refine ww_if_eq C 111 dX3_readsOne_95 (by decide) h 98 rfl (fun h => ?_) (fun h => ?_)
            · refine ww_iconst C (0 : Int32) dX3_readsOne_111 (by decide) 112 rfl ?_
              exact ww_zret C dX3_readsOne_112 hr rfl h
            · refine ww_aload_n C 0 dX3_readsOne_98 rfl rfl 99 rfl ?_
              refine ww_bipush C (41 : Int32) dX3_readsOne_99 (by decide) 101 rfl ?_
              refine ww_callVi C (As := [.int (41 : Int32)]) (st := []) h cl_X3.1 (obTape hn) (fun _ _ hF => k_X3_passes hn hF) w_424 cm_X3_passes (by omega) (by decide) rfl rfl (Nat.le_of_ble_eq_true rfl) dX3_readsOne_101 104 rfl (fun v45 u44 h => ?_)
              refine ww_if_eq C 111 dX3_readsOne_104 (by decide) h 107 rfl (fun h => ?_) (fun h => ?_)
              · refine ww_iconst C (0 : Int32) dX3_readsOne_111 (by decide) 112 rfl ?_
                exact ww_zret C dX3_readsOne_112 hr rfl h
              · refine ww_iconst C (1 : Int32) dX3_readsOne_107 (by decide) 108 rfl ?_
                refine ww_goto C 112 dX3_readsOne_108 (by decide) ?_
                exact ww_zret C dX3_readsOne_112 hr rfl h
        · refine ww_aload_n C 0 dX3_readsOne_71 rfl rfl 72 rfl ?_
          refine ww_iload_n C 1 dX3_readsOne_72 rfl rfl 73 rfl ?_
          refine ww_iconst C (1 : Int32) dX3_readsOne_73 (by decide) 74 rfl ?_
          refine ww_iadd C dX3_readsOne_74 75 rfl ?_
          refine ww_callVi C (As := [.int (a1 + (1 : Int32))]) (st := []) h cl_X3.1 (obTape hn) (fun _ _ hF => hG_X3_readsOneBehindMinus hF) w_461 cm_X3_readsOneBehindMinus (Nat.le_refl _) (by decide) rfl rfl (Nat.le_of_ble_eq_true rfl) dX3_readsOne_75 78 rfl (fun v47 u46 h => ?_)
          exact ww_zretG C dX3_readsOne_78 hr h
      · refine ww_iconst C (0 : Int32) dX3_readsOne_60 (by decide) 61 rfl ?_
        exact ww_zret C dX3_readsOne_61 hr rfl h
    · refine ww_aload_n C 0 dX3_readsOne_20 rfl rfl 21 rfl ?_
      refine ww_getM C cl_X3 (obTape hn) 6 (by decide) rfl w_268 dX3_readsOne_21 h 24 rfl (fun t48 ht48 h => ?_)
      refine ww_aload_n C 0 dX3_readsOne_24 rfl rfl 25 rfl ?_
      refine ww_getI C cl_X3 (obTape hn) 4 (by decide) rfl w_266 dX3_readsOne_25 28 rfl ?_
      refine ww_sipush C (258 : Int32) dX3_readsOne_28 (by decide) 31 rfl ?_
      refine ww_icmp_ne C 41 dX3_readsOne_31 (by decide) h 34 rfl (fun h => ?_) (fun h => ?_)
      · refine ww_aload_n C 0 dX3_readsOne_41 rfl rfl 42 rfl ?_
        refine ww_getI C cl_X3 (obTape hn) 4 (by decide) rfl w_266 dX3_readsOne_42 45 rfl ?_
        refine ww_ineg C dX3_readsOne_45 46 rfl ?_
        refine ww_callVv C (As := [.int (-(u38.1 0 4))]) (st := []) h cl_X4.1 (obText ht48 hn) (fun _ _ hF => k_X4_add hn ht48 hF) w_444 cm_X4_add (by omega) (by decide) rfl rfl (Nat.le_of_ble_eq_true rfl) dX3_readsOne_46 49 rfl (fun _ u49 h => ?_)
        refine ww_aload_n C 0 dX3_readsOne_49 rfl rfl 50 rfl ?_
        refine ww_callVv C (As := []) (st := []) h cl_X3.1 (obTape hn) (fun _ _ hF => k_X3_next hn hF) w_389 cm_X3_next (by omega) (by decide) rfl rfl (Nat.le_of_ble_eq_true rfl) dX3_readsOne_50 53 rfl (fun _ u51 h => ?_)
        refine ww_iconst C (1 : Int32) dX3_readsOne_53 (by decide) 54 rfl ?_
        exact ww_zret C dX3_readsOne_54 hr rfl h
      · refine ww_aload_n C 0 dX3_readsOne_34 rfl rfl 35 rfl ?_
        refine ww_getI C cl_X3 (obTape hn) 5 (by decide) rfl w_267 dX3_readsOne_35 38 rfl ?_
        refine ww_goto C 46 dX3_readsOne_38 (by decide) ?_
        refine ww_callVv C (As := [.int (u38.1 0 5)]) (st := []) h cl_X4.1 (obText ht48 hn) (fun _ _ hF => k_X4_add hn ht48 hF) w_444 cm_X4_add (by omega) (by decide) rfl rfl (Nat.le_of_ble_eq_true rfl) dX3_readsOne_46 49 rfl (fun _ u53 h => ?_)
        refine ww_aload_n C 0 dX3_readsOne_49 rfl rfl 50 rfl ?_
        refine ww_callVv C (As := []) (st := []) h cl_X3.1 (obTape hn) (fun _ _ hF => k_X3_next hn hF) w_389 cm_X3_next (by omega) (by decide) rfl rfl (Nat.le_of_ble_eq_true rfl) dX3_readsOne_50 53 rfl (fun _ u55 h => ?_)
        refine ww_iconst C (1 : Int32) dX3_readsOne_53 (by decide) 54 rfl ?_
        exact ww_zret C dX3_readsOne_54 hr rfl h

set_option maxRecDepth 100000 in
set_option maxHeartbeats 4000000 in
theorem k_X3_readsOneBehindMinus {l : Launch} {D : va_G} {ad : Nat → Nat} {cA : Nat → ClassId} {tys : List (ClassId × FieldType)} {n : Nat} {sa : SA} (hn : 42 ≤ n) {N : Nat} {G : Nat → Int32 → Mem → Option (Int32 × Mem)} {rkG : Nat} (hrk : 13 ≤ rkG) (hG_X3_readsOne : ∀ {a1 : Int32} {g : Mem} {r : Int32} {g1 : Mem}, G 6 a1 g = some (r, g1) → CTi l yX3_readsOne (wsm yX3_readsOne cX3_readsOne 2 (some .boolean)) rkG D YI ad cA tys n sa g [.ref (ad 0), .int a1] r g1) {g : Mem} {a1 : Int32} {r : Int32} {g1 : Mem} (h : X3_readsOneBehindMinus N G a1 g = some (r, g1)) : CTi l yX3_readsOneBehindMinus (wsm yX3_readsOneBehindMinus cX3_readsOneBehindMinus 3 (some .boolean)) (rkG + 1) D YI ad cA tys n sa g [.ref (ad 0), .int a1] r g1 := by
  refine ct_of RX3 rfl (by decide +kernel) (Nat.le_of_ble_eq_true rfl) rfl (fun sz => PBi D YI ad cA n r g1 sz) ?_
  intro p e R s m args below meth c C hr
  rw [X3_readsOneBehindMinus] at h
  refine ww_aload_n C 0 dX3_readsOneBehindMinus_0 rfl rfl 1 rfl ?_
  refine ww_callVv C (As := []) (st := []) h cl_X3.1 (obTape hn) (fun _ _ hF => k_X3_next hn hF) w_389 cm_X3_next (by omega) (by decide) rfl rfl (Nat.le_of_ble_eq_true rfl) dX3_readsOneBehindMinus_1 4 rfl (fun _ u8 h => ?_)
  refine ww_aload_n C 0 dX3_readsOneBehindMinus_4 rfl rfl 5 rfl ?_
  refine ww_iload_n C 1 dX3_readsOneBehindMinus_5 rfl rfl 6 rfl ?_
  refine ww_callVi C (As := [.int a1]) (st := []) h cl_X3.1 (obTape hn) (fun _ _ hF => hG_X3_readsOne hF) w_456 cm_X3_readsOne (Nat.le_refl _) (by decide) rfl rfl (Nat.le_of_ble_eq_true rfl) dX3_readsOneBehindMinus_6 9 rfl (fun v11 u10 h => ?_)
  refine ww_istore_n C [(2, .int v11), (0, .ref (ad 0)), (1, .int a1)] dX3_readsOneBehindMinus_9 rfl (by decide) rfl 10 rfl ?_
  refine ww_aload_n C 1 dX3_readsOneBehindMinus_10 rfl rfl 11 rfl ?_
  refine ww_getM C cl_X3 (obTape hn) 6 (by decide) rfl w_268 dX3_readsOneBehindMinus_11 h 14 rfl (fun t12 ht12 h => ?_)
  refine ww_sipush C (-259 : Int32) dX3_readsOneBehindMinus_14 (by decide) 17 rfl ?_
  refine ww_callVv C (As := [.int (-259 : Int32)]) (st := []) h cl_X4.1 (obText ht12 hn) (fun _ _ hF => k_X4_add hn ht12 hF) w_444 cm_X4_add (by omega) (by decide) rfl rfl (Nat.le_of_ble_eq_true rfl) dX3_readsOneBehindMinus_17 20 rfl (fun _ u13 h => ?_)
  refine ww_iload_n C 0 dX3_readsOneBehindMinus_20 rfl rfl 21 rfl ?_
  exact ww_zretG C dX3_readsOneBehindMinus_21 hr h

set_option maxHeartbeats 4000000 in
theorem kk_PG {l : Launch} {D : va_G} {ad : Nat → Nat} {cA : Nat → ClassId} {tys : List (ClassId × FieldType)} {n : Nat} {sa : SA} (hn : 42 ≤ n) {N : Nat} : ∀ d : Nat, (∀ {a1 : Int32} {g : Mem} {r : Int32} {g1 : Mem}, PG N d 0 a1 g = some (r, g1) → CTi l yX3_readsOr (wsm yX3_readsOr cX3_readsOr 4 (some .boolean)) (13 + d) D YI ad cA tys n sa g [.ref (ad 0), .int a1] r g1) ∧ (∀ {a1 : Int32} {g : Mem} {r : Int32} {g1 : Mem}, PG N d 1 a1 g = some (r, g1) → CTi l yX3_readsAnd (wsm yX3_readsAnd cX3_readsAnd 4 (some .boolean)) (13 + d) D YI ad cA tys n sa g [.ref (ad 0), .int a1] r g1) ∧ (∀ {a1 : Int32} {g : Mem} {r : Int32} {g1 : Mem}, PG N d 2 a1 g = some (r, g1) → CTi l yX3_readsNot (wsm yX3_readsNot cX3_readsNot 4 (some .boolean)) (13 + d) D YI ad cA tys n sa g [.ref (ad 0), .int a1] r g1) ∧ (∀ {a1 : Int32} {g : Mem} {r : Int32} {g1 : Mem}, PG N d 3 a1 g = some (r, g1) → CTi l yX3_readsNotBehindNot (wsm yX3_readsNotBehindNot cX3_readsNotBehindNot 3 (some .boolean)) (13 + d) D YI ad cA tys n sa g [.ref (ad 0), .int a1] r g1) ∧ (∀ {a1 : Int32} {g : Mem} {r : Int32} {g1 : Mem}, PG N d 4 a1 g = some (r, g1) → CTi l yX3_readsSum (wsm yX3_readsSum cX3_readsSum 5 (some .boolean)) (13 + d) D YI ad cA tys n sa g [.ref (ad 0), .int a1] r g1) ∧ (∀ {a1 : Int32} {g : Mem} {r : Int32} {g1 : Mem}, PG N d 5 a1 g = some (r, g1) → CTi l yX3_readsTerm (wsm yX3_readsTerm cX3_readsTerm 4 (some .boolean)) (13 + d) D YI ad cA tys n sa g [.ref (ad 0), .int a1] r g1) ∧ (∀ {a1 : Int32} {g : Mem} {r : Int32} {g1 : Mem}, PG N d 6 a1 g = some (r, g1) → CTi l yX3_readsOne (wsm yX3_readsOne cX3_readsOne 2 (some .boolean)) (13 + d) D YI ad cA tys n sa g [.ref (ad 0), .int a1] r g1) ∧ (∀ {a1 : Int32} {g : Mem} {r : Int32} {g1 : Mem}, PG N d 7 a1 g = some (r, g1) → CTi l yX3_readsOneBehindMinus (wsm yX3_readsOneBehindMinus cX3_readsOneBehindMinus 3 (some .boolean)) (13 + d) D YI ad cA tys n sa g [.ref (ad 0), .int a1] r g1) := by
  intro d
  induction d with
  | zero => exact ⟨(fun h => by cases h), (fun h => by cases h), (fun h => by cases h), (fun h => by cases h), (fun h => by cases h), (fun h => by cases h), (fun h => by cases h), (fun h => by cases h)⟩
  | succ d ih =>
    refine ⟨?_, ?_, ?_, ?_, ?_, ?_, ?_, ?_⟩
    · intro a1 g r g1 h
      rw [PG] at h
      simp only [if_true] at h
      exact k_X3_readsOr hn (Nat.le_add_right 13 d) ih.2.1 h
    · intro a1 g r g1 h
      rw [PG] at h
      simp only [if_true, show ¬ (1 : Nat) = 0 from by decide, if_false] at h
      exact k_X3_readsAnd hn (Nat.le_add_right 13 d) ih.2.2.1 h
    · intro a1 g r g1 h
      rw [PG] at h
      simp only [if_true, show ¬ (2 : Nat) = 0 from by decide, show ¬ (2 : Nat) = 1 from by decide, if_false] at h
      exact k_X3_readsNot hn (Nat.le_add_right 13 d) ih.2.2.2.1 ih.2.2.2.2.1 h
    · intro a1 g r g1 h
      rw [PG] at h
      simp only [if_true, show ¬ (3 : Nat) = 0 from by decide, show ¬ (3 : Nat) = 1 from by decide, show ¬ (3 : Nat) = 2 from by decide, if_false] at h
      exact k_X3_readsNotBehindNot hn (Nat.le_add_right 13 d) ih.2.2.1 h
    · intro a1 g r g1 h
      rw [PG] at h
      simp only [if_true, show ¬ (4 : Nat) = 0 from by decide, show ¬ (4 : Nat) = 1 from by decide, show ¬ (4 : Nat) = 2 from by decide, show ¬ (4 : Nat) = 3 from by decide, if_false] at h
      exact k_X3_readsSum hn (Nat.le_add_right 13 d) ih.2.2.2.2.2.1 h
    · intro a1 g r g1 h
      rw [PG] at h
      simp only [if_true, show ¬ (5 : Nat) = 0 from by decide, show ¬ (5 : Nat) = 1 from by decide, show ¬ (5 : Nat) = 2 from by decide, show ¬ (5 : Nat) = 3 from by decide, show ¬ (5 : Nat) = 4 from by decide, if_false] at h
      exact k_X3_readsTerm hn (Nat.le_add_right 13 d) ih.2.2.2.2.2.2.1 h
    · intro a1 g r g1 h
      rw [PG] at h
      simp only [if_true, show ¬ (6 : Nat) = 0 from by decide, show ¬ (6 : Nat) = 1 from by decide, show ¬ (6 : Nat) = 2 from by decide, show ¬ (6 : Nat) = 3 from by decide, show ¬ (6 : Nat) = 4 from by decide, show ¬ (6 : Nat) = 5 from by decide, if_false] at h
      exact k_X3_readsOne hn (Nat.le_add_right 13 d) ih.2.2.2.2.2.2.2 ih.1 h
    · intro a1 g r g1 h
      rw [PG] at h
      simp only [if_true, show ¬ (7 : Nat) = 0 from by decide, show ¬ (7 : Nat) = 1 from by decide, show ¬ (7 : Nat) = 2 from by decide, show ¬ (7 : Nat) = 3 from by decide, show ¬ (7 : Nat) = 4 from by decide, show ¬ (7 : Nat) = 5 from by decide, show ¬ (7 : Nat) = 6 from by decide, if_false] at h
      exact k_X3_readsOneBehindMinus hn (Nat.le_add_right 13 d) ih.2.2.2.2.2.2.1 h
theorem kk_X3_readsOr {l : Launch} {D : va_G} {ad : Nat → Nat} {cA : Nat → ClassId} {tys : List (ClassId × FieldType)} {n : Nat} {sa : SA} (hn : 42 ≤ n) {N : Nat} {a1 : Int32} {g : Mem} {r : Int32} {g1 : Mem} (h : PG N 100 0 a1 g = some (r, g1)) : CTi l yX3_readsOr (wsm yX3_readsOr cX3_readsOr 4 (some .boolean)) 113 D YI ad cA tys n sa g [.ref (ad 0), .int a1] r g1 := (kk_PG hn 100).1 h
theorem kk_X3_readsAnd {l : Launch} {D : va_G} {ad : Nat → Nat} {cA : Nat → ClassId} {tys : List (ClassId × FieldType)} {n : Nat} {sa : SA} (hn : 42 ≤ n) {N : Nat} {a1 : Int32} {g : Mem} {r : Int32} {g1 : Mem} (h : PG N 100 1 a1 g = some (r, g1)) : CTi l yX3_readsAnd (wsm yX3_readsAnd cX3_readsAnd 4 (some .boolean)) 113 D YI ad cA tys n sa g [.ref (ad 0), .int a1] r g1 := (kk_PG hn 100).2.1 h
theorem kk_X3_readsNot {l : Launch} {D : va_G} {ad : Nat → Nat} {cA : Nat → ClassId} {tys : List (ClassId × FieldType)} {n : Nat} {sa : SA} (hn : 42 ≤ n) {N : Nat} {a1 : Int32} {g : Mem} {r : Int32} {g1 : Mem} (h : PG N 100 2 a1 g = some (r, g1)) : CTi l yX3_readsNot (wsm yX3_readsNot cX3_readsNot 4 (some .boolean)) 113 D YI ad cA tys n sa g [.ref (ad 0), .int a1] r g1 := (kk_PG hn 100).2.2.1 h
theorem kk_X3_readsNotBehindNot {l : Launch} {D : va_G} {ad : Nat → Nat} {cA : Nat → ClassId} {tys : List (ClassId × FieldType)} {n : Nat} {sa : SA} (hn : 42 ≤ n) {N : Nat} {a1 : Int32} {g : Mem} {r : Int32} {g1 : Mem} (h : PG N 100 3 a1 g = some (r, g1)) : CTi l yX3_readsNotBehindNot (wsm yX3_readsNotBehindNot cX3_readsNotBehindNot 3 (some .boolean)) 113 D YI ad cA tys n sa g [.ref (ad 0), .int a1] r g1 := (kk_PG hn 100).2.2.2.1 h
theorem kk_X3_readsSum {l : Launch} {D : va_G} {ad : Nat → Nat} {cA : Nat → ClassId} {tys : List (ClassId × FieldType)} {n : Nat} {sa : SA} (hn : 42 ≤ n) {N : Nat} {a1 : Int32} {g : Mem} {r : Int32} {g1 : Mem} (h : PG N 100 4 a1 g = some (r, g1)) : CTi l yX3_readsSum (wsm yX3_readsSum cX3_readsSum 5 (some .boolean)) 113 D YI ad cA tys n sa g [.ref (ad 0), .int a1] r g1 := (kk_PG hn 100).2.2.2.2.1 h
theorem kk_X3_readsTerm {l : Launch} {D : va_G} {ad : Nat → Nat} {cA : Nat → ClassId} {tys : List (ClassId × FieldType)} {n : Nat} {sa : SA} (hn : 42 ≤ n) {N : Nat} {a1 : Int32} {g : Mem} {r : Int32} {g1 : Mem} (h : PG N 100 5 a1 g = some (r, g1)) : CTi l yX3_readsTerm (wsm yX3_readsTerm cX3_readsTerm 4 (some .boolean)) 113 D YI ad cA tys n sa g [.ref (ad 0), .int a1] r g1 := (kk_PG hn 100).2.2.2.2.2.1 h
theorem kk_X3_readsOne {l : Launch} {D : va_G} {ad : Nat → Nat} {cA : Nat → ClassId} {tys : List (ClassId × FieldType)} {n : Nat} {sa : SA} (hn : 42 ≤ n) {N : Nat} {a1 : Int32} {g : Mem} {r : Int32} {g1 : Mem} (h : PG N 100 6 a1 g = some (r, g1)) : CTi l yX3_readsOne (wsm yX3_readsOne cX3_readsOne 2 (some .boolean)) 113 D YI ad cA tys n sa g [.ref (ad 0), .int a1] r g1 := (kk_PG hn 100).2.2.2.2.2.2.1 h
theorem kk_X3_readsOneBehindMinus {l : Launch} {D : va_G} {ad : Nat → Nat} {cA : Nat → ClassId} {tys : List (ClassId × FieldType)} {n : Nat} {sa : SA} (hn : 42 ≤ n) {N : Nat} {a1 : Int32} {g : Mem} {r : Int32} {g1 : Mem} (h : PG N 100 7 a1 g = some (r, g1)) : CTi l yX3_readsOneBehindMinus (wsm yX3_readsOneBehindMinus cX3_readsOneBehindMinus 3 (some .boolean)) 113 D YI ad cA tys n sa g [.ref (ad 0), .int a1] r g1 := (kk_PG hn 100).2.2.2.2.2.2.2 h

set_option maxRecDepth 100000 in
set_option maxHeartbeats 4000000 in
theorem k_X4_endPart {l : Launch} {D : va_G} {ad : Nat → Nat} {cA : Nat → ClassId} {tys : List (ClassId × FieldType)} {n : Nat} {sa : SA} (hn : 42 ≤ n) {N : Nat} {g : Mem} {b : Nat} (hb : isText b) {a1 : Int32} {r : Int32} {g1 : Mem} (h : X4_endPart N b a1 g = some (r, g1)) : CTv l yX4_endPart (wsm yX4_endPart cX4_endPart 2 none) 1 D YI ad cA tys n sa g [.ref (ad b), .int a1] g1 := by
  refine ct_of RX4 rfl (by decide +kernel) (Nat.le_of_ble_eq_true rfl) rfl (fun sz => PBv D YI ad cA n g1 sz) ?_
  intro p e R s m args below meth c C hr
  rw [X4_endPart] at h
  refine ww_iload_n C 1 dX4_endPart_0 rfl rfl 1 rfl ?_
  refine ww_if_lt C 19 dX4_endPart_1 (by decide) h 4 rfl (fun h => ?_) (fun h => ?_)
  · exact ww_vret C dX4_endPart_19 hr h
  · refine ww_iload_n C 1 dX4_endPart_4 rfl rfl 5 rfl ?_
    refine ww_iconst C (3 : Int32) dX4_endPart_5 (by decide) 6 rfl ?_
    refine ww_icmp_ge C 19 dX4_endPart_6 (by decide) h 9 rfl (fun h => ?_) (fun h => ?_)
    · exact ww_vret C dX4_endPart_19 hr h
    · refine ww_aload_n C 0 dX4_endPart_9 rfl rfl 10 rfl ?_
      refine ww_getS C cl_X4 (obText hb hn) 3 (by decide) rfl (b + 2) (so_text hb 3 2 (by decide)) w_298 dX4_endPart_10 13 rfl ?_
      refine ww_iload_n C 1 dX4_endPart_13 rfl rfl 14 rfl ?_
      refine ww_aload_n C 0 dX4_endPart_14 rfl rfl 15 rfl ?_
      refine ww_getI C cl_X4 (obText hb hn) 2 (by decide) rfl w_297 dX4_endPart_15 18 rfl ?_
      refine ww_iast C (iaText (q := b) hb hn 2 3 (by decide)) dX4_endPart_18 h 19 rfl (fun u2 h => ?_)
      exact ww_vret C dX4_endPart_19 hr h

set_option maxRecDepth 100000 in
set_option maxHeartbeats 4000000 in
theorem k_X3_readsParts {l : Launch} {D : va_G} {ad : Nat → Nat} {cA : Nat → ClassId} {tys : List (ClassId × FieldType)} {n : Nat} {sa : SA} (hn : 42 ≤ n) {N : Nat} {g : Mem} {r : Int32} {g1 : Mem} (h : X3_readsParts N g = some (r, g1)) : CTi l yX3_readsParts (wsm yX3_readsParts cX3_readsParts 2 (some .boolean)) 114 D YI ad cA tys n sa g [.ref (ad 0)] r g1 := by
  refine ct_of RX3 rfl (by decide +kernel) (Nat.le_of_ble_eq_true rfl) rfl (fun sz => PBi D YI ad cA n r g1 sz) ?_
  intro p e R s m args below meth c C hr
  have L2h : ∀ (fu : Nat), (∀ (x1 : Int32) (g : Mem), X3_readsParts_L2 N fu x1 g = some (r, g1) → WW p l e R s m args below meth c 2 D YI ad cA n (MQ below (PBi D YI ad cA n r g1 s.heap.size) args s 0 0 (AA n ad s.heap.size)) g 2 [(0, .ref (ad 0)), (1, .int x1)] []) := by
    intro fu
    induction fu with
    | zero => intro x1 g h; cases h
    | succ fu ih =>
      intro x1 g h
      rw [X3_readsParts_L2] at h
      refine ww_iload_n C 1 dX3_readsParts_2 rfl rfl 3 rfl ?_
      refine ww_iconst C (3 : Int32) dX3_readsParts_3 (by decide) 4 rfl ?_
      refine ww_icmp_ge C 52 dX3_readsParts_4 (by decide) h 7 rfl (fun h => ?_) (fun h => ?_)
      · refine ww_aload_n C 0 dX3_readsParts_52 rfl rfl 53 rfl ?_
        refine ww_getI C cl_X3 (obTape hn) 4 (by decide) rfl w_266 dX3_readsParts_53 56 rfl ?_
        refine ww_sipush C (256 : Int32) dX3_readsParts_56 (by decide) 59 rfl ?_
        refine ww_icmp_ne C 66 dX3_readsParts_59 (by decide) h 62 rfl (fun h => ?_) (fun h => ?_)
        · refine ww_iconst C (0 : Int32) dX3_readsParts_66 (by decide) 67 rfl ?_
          exact ww_zret C dX3_readsParts_67 hr rfl h
        · refine ww_iconst C (1 : Int32) dX3_readsParts_62 (by decide) 63 rfl ?_
          refine ww_goto C 67 dX3_readsParts_63 (by decide) ?_
          exact ww_zret C dX3_readsParts_67 hr rfl h
      · refine ww_aload_n C 0 dX3_readsParts_7 rfl rfl 8 rfl ?_
        refine ww_sipush C (260 : Int32) dX3_readsParts_8 (by decide) 11 rfl ?_
        refine ww_iload_n C 1 dX3_readsParts_11 rfl rfl 12 rfl ?_
        refine ww_iadd C dX3_readsParts_12 13 rfl ?_
        refine ww_callVi C (As := [.int ((260 : Int32) + x1)]) (st := []) h cl_X3.1 (obTape hn) (fun _ _ hF => k_X3_passes hn hF) w_424 cm_X3_passes (by decide) (by decide) rfl rfl (Nat.le_of_ble_eq_true rfl) dX3_readsParts_13 16 rfl (fun v12 u11 h => ?_)
        refine ww_if_eq C 36 dX3_readsParts_16 (by decide) h 19 rfl (fun h => ?_) (fun h => ?_)
        · refine ww_iconst C (0 : Int32) dX3_readsParts_36 (by decide) 37 rfl ?_
          exact ww_zret C dX3_readsParts_37 hr rfl h
        · refine ww_aload_n C 0 dX3_readsParts_19 rfl rfl 20 rfl ?_
          refine ww_iconst C (0 : Int32) dX3_readsParts_20 (by decide) 21 rfl ?_
          refine ww_callVi C (As := [.int (0 : Int32)]) (st := []) h cl_X3.1 (obTape hn) (fun _ _ hF => kk_X3_readsOr hn hF) w_428 cm_X3_readsOr (by decide) (by decide) rfl rfl (Nat.le_of_ble_eq_true rfl) dX3_readsParts_21 24 rfl (fun v14 u13 h => ?_)
          refine ww_if_eq C 36 dX3_readsParts_24 (by decide) h 27 rfl (fun h => ?_) (fun h => ?_)
          · refine ww_iconst C (0 : Int32) dX3_readsParts_36 (by decide) 37 rfl ?_
            exact ww_zret C dX3_readsParts_37 hr rfl h
          · refine ww_aload_n C 0 dX3_readsParts_27 rfl rfl 28 rfl ?_
            refine ww_bipush C (59 : Int32) dX3_readsParts_28 (by decide) 30 rfl ?_
            refine ww_callVi C (As := [.int (59 : Int32)]) (st := []) h cl_X3.1 (obTape hn) (fun _ _ hF => k_X3_passes hn hF) w_424 cm_X3_passes (by decide) (by decide) rfl rfl (Nat.le_of_ble_eq_true rfl) dX3_readsParts_30 33 rfl (fun v16 u15 h => ?_)
            refine ww_if_ne C 38 dX3_readsParts_33 (by decide) h 36 rfl (fun h => ?_) (fun h => ?_)
            · refine ww_aload_n C 0 dX3_readsParts_38 rfl rfl 39 rfl ?_
              refine ww_getM C cl_X3 (obTape hn) 6 (by decide) rfl w_268 dX3_readsParts_39 h 42 rfl (fun t17 ht17 h => ?_)
              refine ww_iload_n C 1 dX3_readsParts_42 rfl rfl 43 rfl ?_
              refine ww_callVv C (As := [.int x1]) (st := []) h cl_X4.1 (obText ht17 hn) (fun _ _ hF => k_X4_endPart hn ht17 hF) w_465 cm_X4_endPart (by decide) (by decide) rfl rfl (Nat.le_of_ble_eq_true rfl) dX3_readsParts_43 46 rfl (fun _ u18 h => ?_)
              refine ww_iinc C 1 (1 : Int32) (by decide) (fun v20 => [(1, .int v20), (0, .ref (ad 0))]) dX3_readsParts_46 rfl (by decide) (fun _ => rfl) h 49 rfl (fun v20 h => ?_)
              refine ww_goto C 2 dX3_readsParts_49 (by decide) ?_
              exact ww_sub [1, 0] rfl (ih _ _ h)
            · refine ww_iconst C (0 : Int32) dX3_readsParts_36 (by decide) 37 rfl ?_
              exact ww_zret C dX3_readsParts_37 hr rfl h
  rw [X3_readsParts] at h
  refine ww_iconst C (0 : Int32) dX3_readsParts_0 (by decide) 1 rfl ?_
  refine ww_istore_n C [(1, .int (0 : Int32)), (0, .ref (ad 0))] dX3_readsParts_1 rfl (by decide) rfl 2 rfl ?_
  exact ww_sub [1, 0] rfl (L2h N _ _ h)

set_option maxRecDepth 100000 in
set_option maxHeartbeats 4000000 in
theorem k_X3_readInto {l : Launch} {D : va_G} {ad : Nat → Nat} {cA : Nat → ClassId} {tys : List (ClassId × FieldType)} {n : Nat} {sa : SA} (hn : 42 ≤ n) {N : Nat} {g : Mem} {a1 : Nat} (ha1 : isText a1) {r : Int32} {g1 : Mem} (h : X3_readInto N a1 g = some (r, g1)) : CTi l yX3_readInto (wsm yX3_readInto cX3_readInto 2 (some .int)) 115 D YI ad cA tys n sa g [.ref (ad 0), .ref (ad a1)] r g1 := by
  refine ct_of RX3 rfl (by decide +kernel) (Nat.le_of_ble_eq_true rfl) rfl (fun sz => PBi D YI ad cA n r g1 sz) ?_
  intro p e R s m args below meth c C hr
  rw [X3_readInto] at h
  refine ww_aload_n C 0 dX3_readInto_0 rfl rfl 1 rfl ?_
  refine ww_aload_n C 1 dX3_readInto_1 rfl rfl 2 rfl ?_
  refine ww_putM C cl_X3 (by decide) (obTape hn) 6 (by decide) rfl (by decide) tyX3 tyX3_ok nmX3 rfl rfl rfl w_268 dX3_readInto_2 h 5 rfl (fun u10 h => ?_)
  refine ww_aload_n C 0 dX3_readInto_5 rfl rfl 6 rfl ?_
  refine ww_getM C cl_X3 (obTape hn) 6 (by decide) rfl w_268 dX3_readInto_6 h 9 rfl (fun t11 ht11 h => ?_)
  refine ww_callVv C (As := []) (st := []) h cl_X4.1 (obText ht11 hn) (fun _ _ hF => k_X4_clear hn ht11 hF) w_385 cm_X4_clear (by decide) (by decide) rfl rfl (Nat.le_of_ble_eq_true rfl) dX3_readInto_9 12 rfl (fun _ u12 h => ?_)
  refine ww_aload_n C 0 dX3_readInto_12 rfl rfl 13 rfl ?_
  refine ww_iconst C (0 : Int32) dX3_readInto_13 (by decide) 14 rfl ?_
  refine ww_putI C cl_X3 (obTape hn) 2 (by decide) rfl tyX3 tyX3_ok nmX3 rfl rfl rfl w_264 dX3_readInto_14 h 17 rfl (fun u14 h => ?_)
  refine ww_aload_n C 0 dX3_readInto_17 rfl rfl 18 rfl ?_
  refine ww_callVv C (As := []) (st := []) h cl_X3.1 (obTape hn) (fun _ _ hF => k_X3_next hn hF) w_389 cm_X3_next (by decide) (by decide) rfl rfl (Nat.le_of_ble_eq_true rfl) dX3_readInto_18 21 rfl (fun _ u15 h => ?_)
  refine ww_aload_n C 0 dX3_readInto_21 rfl rfl 22 rfl ?_
  refine ww_callVi C (As := []) (st := []) h cl_X3.1 (obTape hn) (fun _ _ hF => k_X3_readsParts hn hF) w_420 cm_X3_readsParts (by decide) (by decide) rfl rfl (Nat.le_of_ble_eq_true rfl) dX3_readInto_22 25 rfl (fun v18 u17 h => ?_)
  refine ww_if_eq C 32 dX3_readInto_25 (by decide) h 28 rfl (fun h => ?_) (fun h => ?_)
  · refine ww_aload_n C 0 dX3_readInto_32 rfl rfl 33 rfl ?_
    refine ww_getI C cl_X3 (obTape hn) 3 (by decide) rfl w_265 dX3_readInto_33 36 rfl ?_
    exact ww_iret C dX3_readInto_36 hr h
  · refine ww_iconst C (-1 : Int32) dX3_readInto_28 (by decide) 29 rfl ?_
    refine ww_goto C 36 dX3_readInto_29 (by decide) ?_
    exact ww_iret C dX3_readInto_36 hr h

set_option maxRecDepth 100000 in
set_option maxHeartbeats 4000000 in
theorem k_X3_clear {l : Launch} {D : va_G} {ad : Nat → Nat} {cA : Nat → ClassId} {tys : List (ClassId × FieldType)} {n : Nat} {sa : SA} (hn : 42 ≤ n) {N : Nat} {g : Mem} {r : Int32} {g1 : Mem} (h : X3_clear N g = some (r, g1)) : CTv l yX3_clear (wsm yX3_clear cX3_clear 1 none) 1 D YI ad cA tys n sa g [.ref (ad 0)] g1 := by
  refine ct_of RX3 rfl (by decide +kernel) (Nat.le_of_ble_eq_true rfl) rfl (fun sz => PBv D YI ad cA n g1 sz) ?_
  intro p e R s m args below meth c C hr
  rw [X3_clear] at h
  refine ww_aload_n C 0 dX3_clear_0 rfl rfl 1 rfl ?_
  refine ww_iconst C (0 : Int32) dX3_clear_1 (by decide) 2 rfl ?_
  refine ww_putI C cl_X3 (obTape hn) 1 (by decide) rfl tyX3 tyX3_ok nmX3 rfl rfl rfl w_262 dX3_clear_2 h 5 rfl (fun u2 h => ?_)
  exact ww_vret C dX3_clear_5 hr h

set_option maxRecDepth 100000 in
set_option maxHeartbeats 4000000 in
theorem k_X4_joined {l : Launch} {D : va_G} {ad : Nat → Nat} {cA : Nat → ClassId} {tys : List (ClassId × FieldType)} {n : Nat} {sa : SA} (hn : 42 ≤ n) {N : Nat} {g : Mem} {a1 : Int32} {a2 : Int32} {a3 : Int32} {r : Int32} {g1 : Mem} (h : X4_joined N a1 a2 a3 g = some (r, g1)) : CTi l yX4_joined (wsm yX4_joined cX4_joined 3 (some .int)) 1 D YI ad cA tys n sa g [.int a1, .int a2, .int a3] r g1 := by
  refine ct_of RX4 rfl (by decide +kernel) (Nat.le_of_ble_eq_true rfl) rfl (fun sz => PBi D YI ad cA n r g1 sz) ?_
  intro p e R s m args below meth c C hr
  rw [X4_joined] at h
  refine ww_iload_n C 0 dX4_joined_0 rfl rfl 1 rfl ?_
  refine sw_1 h (fun e13 h => ?_) (fun n14 h => ?_)
  · refine ww_look C 68 dX4_joined_1 rfl (by first | (rw [e13]; done) | (rw [e13]; rfl)) (by decide) ?_
    refine ww_iload_n C 1 dX4_joined_68 rfl rfl 69 rfl ?_
    refine ww_iload_n C 2 dX4_joined_69 rfl rfl 70 rfl ?_
    refine ww_imul C dX4_joined_70 71 rfl ?_
    exact ww_iret C dX4_joined_71 hr h
  refine sw_1 h (fun e15 h => ?_) (fun n16 h => ?_)
  · refine ww_look C 60 dX4_joined_1 rfl (by first | (rw [e15]; done) | (rw [e15]; rfl)) (by decide) ?_
    refine ww_iload_n C 1 dX4_joined_60 rfl rfl 61 rfl ?_
    refine ww_iload_n C 2 dX4_joined_61 rfl rfl 62 rfl ?_
    refine ww_iadd C dX4_joined_62 63 rfl ?_
    exact ww_iret C dX4_joined_63 hr h
  refine sw_1 h (fun e17 h => ?_) (fun n18 h => ?_)
  · refine ww_look C 64 dX4_joined_1 rfl (by first | (rw [e17]; done) | (rw [e17]; rfl)) (by decide) ?_
    refine ww_iload_n C 1 dX4_joined_64 rfl rfl 65 rfl ?_
    refine ww_iload_n C 2 dX4_joined_65 rfl rfl 66 rfl ?_
    refine ww_isub C dX4_joined_66 67 rfl ?_
    exact ww_iret C dX4_joined_67 hr h
  refine sw_1 h (fun e19 h => ?_) (fun n20 h => ?_)
  · refine ww_look C 72 dX4_joined_1 rfl (by first | (rw [e19]; done) | (rw [e19]; rfl)) (by decide) ?_
    refine ww_iload_n C 1 dX4_joined_72 rfl rfl 73 rfl ?_
    refine ww_iload_n C 2 dX4_joined_73 rfl rfl 74 rfl ?_
    refine ww_icmp_ge C 81 dX4_joined_74 (by decide) h 77 rfl (fun h => ?_) (fun h => ?_)
    · refine ww_iconst C (0 : Int32) dX4_joined_81 (by decide) 82 rfl ?_
      exact ww_iret C dX4_joined_82 hr h
    · refine ww_iconst C (1 : Int32) dX4_joined_77 (by decide) 78 rfl ?_
      refine ww_goto C 82 dX4_joined_78 (by decide) ?_
      exact ww_iret C dX4_joined_82 hr h
  refine sw_1 h (fun e21 h => ?_) (fun n22 h => ?_)
  · refine ww_look C 83 dX4_joined_1 rfl (by first | (rw [e21]; done) | (rw [e21]; rfl)) (by decide) ?_
    refine ww_iload_n C 1 dX4_joined_83 rfl rfl 84 rfl ?_
    refine ww_iload_n C 2 dX4_joined_84 rfl rfl 85 rfl ?_
    refine ww_icmp_ne C 92 dX4_joined_85 (by decide) h 88 rfl (fun h => ?_) (fun h => ?_)
    · refine ww_iconst C (0 : Int32) dX4_joined_92 (by decide) 93 rfl ?_
      exact ww_iret C dX4_joined_93 hr h
    · refine ww_iconst C (1 : Int32) dX4_joined_88 (by decide) 89 rfl ?_
      refine ww_goto C 93 dX4_joined_89 (by decide) ?_
      exact ww_iret C dX4_joined_93 hr h
  refine sw_1 h (fun e23 h => ?_) (fun n24 h => ?_)
  · refine ww_look C 94 dX4_joined_1 rfl (by first | (rw [e23]; done) | (rw [e23]; rfl)) (by decide) ?_
    refine ww_iload_n C 1 dX4_joined_94 rfl rfl 95 rfl ?_
    refine ww_if_eq C 106 dX4_joined_95 (by decide) h 98 rfl (fun h => ?_) (fun h => ?_)
    · refine ww_iconst C (0 : Int32) dX4_joined_106 (by decide) 107 rfl ?_
      exact ww_iret C dX4_joined_107 hr h
    · refine ww_iload_n C 2 dX4_joined_98 rfl rfl 99 rfl ?_
      refine ww_if_eq C 106 dX4_joined_99 (by decide) h 102 rfl (fun h => ?_) (fun h => ?_)
      · refine ww_iconst C (0 : Int32) dX4_joined_106 (by decide) 107 rfl ?_
        exact ww_iret C dX4_joined_107 hr h
      · refine ww_iconst C (1 : Int32) dX4_joined_102 (by decide) 103 rfl ?_
        refine ww_goto C 107 dX4_joined_103 (by decide) ?_
        exact ww_iret C dX4_joined_107 hr h
  refine ww_look (off := 107) C 108 dX4_joined_1 rfl (by have q0 := sw_ne (z := 42) n14 rfl; have q1 := sw_ne (z := 43) n16 rfl; have q2 := sw_ne (z := 45) n18 rfl; have q3 := sw_ne (z := 60) n20 rfl; have q4 := sw_ne (z := 61) n22 rfl; have q5 := sw_ne (z := 263) n24 rfl; simp [Op.lookupswitch.offset, Ne.symm, q0, q0.symm, q1, q1.symm, q2, q2.symm, q3, q3.symm, q4, q4.symm, q5, q5.symm]) (by decide) ?_
  refine ww_iload_n C 1 dX4_joined_108 rfl rfl 109 rfl ?_
  refine ww_if_ne C 116 dX4_joined_109 (by decide) h 112 rfl (fun h => ?_) (fun h => ?_)
  · refine ww_iconst C (1 : Int32) dX4_joined_116 (by decide) 117 rfl ?_
    refine ww_goto C 121 dX4_joined_117 (by decide) ?_
    exact ww_iret C dX4_joined_121 hr h
  · refine ww_iload_n C 2 dX4_joined_112 rfl rfl 113 rfl ?_
    refine ww_if_eq C 120 dX4_joined_113 (by decide) h 116 rfl (fun h => ?_) (fun h => ?_)
    · refine ww_iconst C (0 : Int32) dX4_joined_120 (by decide) 121 rfl ?_
      exact ww_iret C dX4_joined_121 hr h
    · refine ww_iconst C (1 : Int32) dX4_joined_116 (by decide) 117 rfl ?_
      refine ww_goto C 121 dX4_joined_117 (by decide) ?_
      exact ww_iret C dX4_joined_121 hr h

set_option maxRecDepth 100000 in
set_option maxHeartbeats 4000000 in
theorem k_X4_says {l : Launch} {D : va_G} {ad : Nat → Nat} {cA : Nat → ClassId} {tys : List (ClassId × FieldType)} {n : Nat} {sa : SA} (hn : 42 ≤ n) {N : Nat} {g : Mem} {b : Nat} (hb : isText b) {a1 : Int32} {a2 : Int32} {a3 : Int32} {a4 : Int32} {a5 : Int32} {a6 : Int32} {a7 : Int32} {r : Int32} {g1 : Mem} (h : X4_says N b a1 a2 a3 a4 a5 a6 a7 g = some (r, g1)) : CTi l yX4_says (wsm yX4_says cX4_says 11 (some .int)) 2 D YI ad cA tys n sa g [.ref (ad b), .int a1, .int a2, .int a3, .int a4, .int a5, .int a6, .int a7] r g1 := by
  refine ct_of RX4 rfl (by decide +kernel) (Nat.le_of_ble_eq_true rfl) rfl (fun sz => PBi D YI ad cA n r g1 sz) ?_
  intro p e R s m args below meth c C hr
  have L78h : ∀ (fu : Nat), (∀ (x8 : Int32) (x9 : Int32) (g : Mem), X4_says_L78 N b a1 a2 a3 a4 a5 a6 a7 fu x8 x9 g = some (r, g1) → WW p l e R s m args below meth c 11 D YI ad cA n (MQ below (PBi D YI ad cA n r g1 s.heap.size) args s 0 0 (AA n ad s.heap.size)) g 78 [(0, .ref (ad b)), (1, .int a1), (2, .int a2), (3, .int a3), (4, .int a4), (5, .int a5), (6, .int a6), (7, .int a7), (8, .int x8), (9, .int x9)] []) := by
    intro fu
    induction fu with
    | zero => intro x8 x9 g h; cases h
    | succ fu ih =>
      intro x8 x9 g h
      rw [X4_says_L78] at h
      refine ww_iload C 9 dX4_says_78 rfl 80 rfl ?_
      refine ww_aload_n C 0 dX4_says_80 rfl rfl 81 rfl ?_
      refine ww_getS C cl_X4 (obText hb hn) 3 (by decide) rfl (b + 2) (so_text hb 3 2 (by decide)) w_298 dX4_says_81 84 rfl ?_
      refine ww_iload_n C 1 dX4_says_84 rfl rfl 85 rfl ?_
      refine ww_iald C (iaText (q := b) hb hn 2 3 (by decide)) dX4_says_85 h 86 rfl (fun h => ?_)
      refine ww_icmp_ge C 294 dX4_says_86 (by decide) h 89 rfl (fun h => ?_) (fun h => ?_)
      · refine ww_iconst C (0 : Int32) dX4_says_294 (by decide) 295 rfl ?_
        refine ww_bipush C (99 : Int32) dX4_says_295 (by decide) 297 rfl ?_
        refine ww_aload_n C 0 dX4_says_297 rfl rfl 298 rfl ?_
        refine ww_getS C cl_X4 (obText hb hn) 5 (by decide) rfl (b + 4) (so_text hb 5 4 (by decide)) w_300 dX4_says_298 301 rfl ?_
        refine ww_iconst C (0 : Int32) dX4_says_301 (by decide) 302 rfl ?_
        refine ww_iald C (iaText (q := b) hb hn 4 40 (by decide)) dX4_says_302 h 303 rfl (fun h => ?_)
        refine ww_min C w_106 wm_min (by decide) (Nat.le_of_ble_eq_true rfl) dX4_says_303 306 rfl ?_
        refine ww_max C w_109 wm_max (by decide) (Nat.le_of_ble_eq_true rfl) dX4_says_306 309 rfl ?_
        exact ww_iret C dX4_says_309 hr h
      · refine ww_aload_n C 0 dX4_says_89 rfl rfl 90 rfl ?_
        refine ww_getS C cl_X4 (obText hb hn) 1 (by decide) rfl (b + 1) (so_text hb 1 1 (by decide)) w_296 dX4_says_90 93 rfl ?_
        refine ww_iload C 9 dX4_says_93 rfl 95 rfl ?_
        refine ww_iald C (iaText (q := b) hb hn 1 160 (by decide)) dX4_says_95 h 96 rfl (fun h => ?_)
        refine ww_ineg C dX4_says_96 97 rfl ?_
        refine ww_bi h (fun v150 h => ?_)
        refine ww_istore C [(10, .int v150), (0, .ref (ad b)), (1, .int a1), (2, .int a2), (3, .int a3), (4, .int a4), (5, .int a5), (6, .int a6), (7, .int a7), (8, .int x8), (9, .int x9)] dX4_says_97 (by decide) rfl 99 rfl ?_
        refine ww_iload C 0 dX4_says_99 rfl 101 rfl ?_
        refine ww_if_gt C 130 dX4_says_101 (by decide) h 104 rfl (fun h => ?_) (fun h => ?_)
        · refine ww_iload C 0 dX4_says_130 rfl 132 rfl ?_
          refine ww_callSi C (As := [.int v150]) (st := []) h (fun _ _ hF => k_X3_isName hn hF) w_100 cm_X3_isName (by decide) (by decide) rfl rfl (Nat.le_of_ble_eq_true rfl) dX4_says_132 135 rfl (fun v152 u151 h => ?_)
          refine ww_if_eq C 172 dX4_says_135 (by decide) h 138 rfl (fun h => ?_) (fun h => ?_)
          · refine ww_iload C 0 dX4_says_172 rfl 174 rfl ?_
            refine ww_sipush C (265 : Int32) dX4_says_174 (by decide) 177 rfl ?_
            refine ww_icmp_ne C 214 dX4_says_177 (by decide) h 180 rfl (fun h => ?_) (fun h => ?_)
            · refine ww_iload C 0 dX4_says_214 rfl 216 rfl ?_
              refine ww_sipush C (259 : Int32) dX4_says_216 (by decide) 219 rfl ?_
              refine ww_icmp_ne C 249 dX4_says_219 (by decide) h 222 rfl (fun h => ?_) (fun h => ?_)
              · refine ww_iload C 9 dX4_says_249 rfl 251 rfl ?_
                refine ww_iconst C (1 : Int32) dX4_says_251 (by decide) 252 rfl ?_
                refine ww_icmp_le C 288 dX4_says_252 (by decide) h 255 rfl (fun h => ?_) (fun h => ?_)
                · refine ww_iinc C 10 (1 : Int32) (by decide) (fun v153 => [(9, .int v153), (10, .int v150), (0, .ref (ad b)), (1, .int a1), (2, .int a2), (3, .int a3), (4, .int a4), (5, .int a5), (6, .int a6), (7, .int a7), (8, .int x8)]) dX4_says_288 rfl (by decide) (fun _ => rfl) h 291 rfl (fun v153 h => ?_)
                  refine ww_goto C 78 dX4_says_291 (by decide) ?_
                  exact ww_sub [2, 3, 4, 5, 6, 7, 8, 9, 10, 0] rfl (ih _ _ _ h)
                · refine ww_iinc C 9 (-1 : Int32) (by decide) (fun v154 => [(8, .int v154), (10, .int v150), (0, .ref (ad b)), (1, .int a1), (2, .int a2), (3, .int a3), (4, .int a4), (5, .int a5), (6, .int a6), (7, .int a7), (9, .int x9)]) dX4_says_255 rfl (by decide) (fun _ => rfl) h 258 rfl (fun v154 h => ?_)
                  refine ww_aload_n C 2 dX4_says_258 rfl rfl 259 rfl ?_
                  refine ww_getS C cl_X4 (obText hb hn) 5 (by decide) rfl (b + 4) (so_text hb 5 4 (by decide)) w_300 dX4_says_259 262 rfl ?_
                  refine ww_iload C 0 dX4_says_262 rfl 264 rfl ?_
                  refine ww_iconst C (1 : Int32) dX4_says_264 (by decide) 265 rfl ?_
                  refine ww_isub C dX4_says_265 266 rfl ?_
                  refine ww_iload C 1 dX4_says_266 rfl 268 rfl ?_
                  refine ww_aload_n C 2 dX4_says_268 rfl rfl 269 rfl ?_
                  refine ww_getS C cl_X4 (obText hb hn) 5 (by decide) rfl (b + 4) (so_text hb 5 4 (by decide)) w_300 dX4_says_269 272 rfl ?_
                  refine ww_iload C 0 dX4_says_272 rfl 274 rfl ?_
                  refine ww_iconst C (1 : Int32) dX4_says_274 (by decide) 275 rfl ?_
                  refine ww_isub C dX4_says_275 276 rfl ?_
                  refine ww_iald C (iaText (q := b) hb hn 4 40 (by decide)) dX4_says_276 h 277 rfl (fun h => ?_)
                  refine ww_aload_n C 2 dX4_says_277 rfl rfl 278 rfl ?_
                  refine ww_getS C cl_X4 (obText hb hn) 5 (by decide) rfl (b + 4) (so_text hb 5 4 (by decide)) w_300 dX4_says_278 281 rfl ?_
                  refine ww_iload C 0 dX4_says_281 rfl 283 rfl ?_
                  refine ww_iald C (iaText (q := b) hb hn 4 40 (by decide)) dX4_says_283 h 284 rfl (fun h => ?_)
                  refine ww_callSi C (As := [.int v150, .int (u151.1 (b + 4) (v154 - (1 : Int32)).toNatClampNeg), .int (u151.1 (b + 4) (v154).toNatClampNeg)]) (st := [.int (v154 - (1 : Int32)), .ref (ad (b + 4))]) h (fun _ _ hF => k_X4_joined hn hF) w_103 cm_X4_joined (by decide) (by decide) rfl rfl (Nat.le_of_ble_eq_true rfl) dX4_says_284 287 rfl (fun v156 u155 h => ?_)
                  refine ww_iast C (iaText (q := b) hb hn 4 40 (by decide)) dX4_says_287 h 288 rfl (fun u157 h => ?_)
                  refine ww_iinc C 10 (1 : Int32) (by decide) (fun v158 => [(9, .int v158), (8, .int v154), (10, .int v150), (0, .ref (ad b)), (1, .int a1), (2, .int a2), (3, .int a3), (4, .int a4), (5, .int a5), (6, .int a6), (7, .int a7)]) dX4_says_288 rfl (by decide) (fun _ => rfl) h 291 rfl (fun v158 h => ?_)
                  refine ww_goto C 78 dX4_says_291 (by decide) ?_
                  exact ww_sub [3, 4, 5, 6, 7, 8, 9, 10, 1, 0] rfl (ih _ _ _ h)
              · refine ww_iload C 9 dX4_says_222 rfl 224 rfl ?_
                refine ww_if_le C 249 dX4_says_224 (by decide) h 227 rfl (fun h => ?_) (fun h => ?_)
                · refine ww_iload C 9 dX4_says_249 rfl 251 rfl ?_
                  refine ww_iconst C (1 : Int32) dX4_says_251 (by decide) 252 rfl ?_
                  refine ww_icmp_le C 288 dX4_says_252 (by decide) h 255 rfl (fun h => ?_) (fun h => ?_)
                  · refine ww_iinc C 10 (1 : Int32) (by decide) (fun v159 => [(9, .int v159), (10, .int v150), (0, .ref (ad b)), (1, .int a1), (2, .int a2), (3, .int a3), (4, .int a4), (5, .int a5), (6, .int a6), (7, .int a7), (8, .int x8)]) dX4_says_288 rfl (by decide) (fun _ => rfl) h 291 rfl (fun v159 h => ?_)
                    refine ww_goto C 78 dX4_says_291 (by decide) ?_
                    exact ww_sub [2, 3, 4, 5, 6, 7, 8, 9, 10, 0] rfl (ih _ _ _ h)
                  · refine ww_iinc C 9 (-1 : Int32) (by decide) (fun v160 => [(8, .int v160), (10, .int v150), (0, .ref (ad b)), (1, .int a1), (2, .int a2), (3, .int a3), (4, .int a4), (5, .int a5), (6, .int a6), (7, .int a7), (9, .int x9)]) dX4_says_255 rfl (by decide) (fun _ => rfl) h 258 rfl (fun v160 h => ?_)
                    refine ww_aload_n C 2 dX4_says_258 rfl rfl 259 rfl ?_
                    refine ww_getS C cl_X4 (obText hb hn) 5 (by decide) rfl (b + 4) (so_text hb 5 4 (by decide)) w_300 dX4_says_259 262 rfl ?_
                    refine ww_iload C 0 dX4_says_262 rfl 264 rfl ?_
                    refine ww_iconst C (1 : Int32) dX4_says_264 (by decide) 265 rfl ?_
                    refine ww_isub C dX4_says_265 266 rfl ?_
                    refine ww_iload C 1 dX4_says_266 rfl 268 rfl ?_
                    refine ww_aload_n C 2 dX4_says_268 rfl rfl 269 rfl ?_
                    refine ww_getS C cl_X4 (obText hb hn) 5 (by decide) rfl (b + 4) (so_text hb 5 4 (by decide)) w_300 dX4_says_269 272 rfl ?_
                    refine ww_iload C 0 dX4_says_272 rfl 274 rfl ?_
                    refine ww_iconst C (1 : Int32) dX4_says_274 (by decide) 275 rfl ?_
                    refine ww_isub C dX4_says_275 276 rfl ?_
                    refine ww_iald C (iaText (q := b) hb hn 4 40 (by decide)) dX4_says_276 h 277 rfl (fun h => ?_)
                    refine ww_aload_n C 2 dX4_says_277 rfl rfl 278 rfl ?_
                    refine ww_getS C cl_X4 (obText hb hn) 5 (by decide) rfl (b + 4) (so_text hb 5 4 (by decide)) w_300 dX4_says_278 281 rfl ?_
                    refine ww_iload C 0 dX4_says_281 rfl 283 rfl ?_
                    refine ww_iald C (iaText (q := b) hb hn 4 40 (by decide)) dX4_says_283 h 284 rfl (fun h => ?_)
                    refine ww_callSi C (As := [.int v150, .int (u151.1 (b + 4) (v160 - (1 : Int32)).toNatClampNeg), .int (u151.1 (b + 4) (v160).toNatClampNeg)]) (st := [.int (v160 - (1 : Int32)), .ref (ad (b + 4))]) h (fun _ _ hF => k_X4_joined hn hF) w_103 cm_X4_joined (by decide) (by decide) rfl rfl (Nat.le_of_ble_eq_true rfl) dX4_says_284 287 rfl (fun v162 u161 h => ?_)
                    refine ww_iast C (iaText (q := b) hb hn 4 40 (by decide)) dX4_says_287 h 288 rfl (fun u163 h => ?_)
                    refine ww_iinc C 10 (1 : Int32) (by decide) (fun v164 => [(9, .int v164), (8, .int v160), (10, .int v150), (0, .ref (ad b)), (1, .int a1), (2, .int a2), (3, .int a3), (4, .int a4), (5, .int a5), (6, .int a6), (7, .int a7)]) dX4_says_288 rfl (by decide) (fun _ => rfl) h 291 rfl (fun v164 h => ?_)
                    refine ww_goto C 78 dX4_says_291 (by decide) ?_
                    exact ww_sub [3, 4, 5, 6, 7, 8, 9, 10, 1, 0] rfl (ih _ _ _ h)
                · refine ww_aload_n C 1 dX4_says_227 rfl rfl 228 rfl ?_
                  refine ww_getS C cl_X4 (obText hb hn) 5 (by decide) rfl (b + 4) (so_text hb 5 4 (by decide)) w_300 dX4_says_228 231 rfl ?_
                  refine ww_iload C 9 dX4_says_231 rfl 233 rfl ?_
                  refine ww_iconst C (1 : Int32) dX4_says_233 (by decide) 234 rfl ?_
                  refine ww_isub C dX4_says_234 235 rfl ?_
                  refine ww_aload_n C 1 dX4_says_235 rfl rfl 236 rfl ?_
                  refine ww_getS C cl_X4 (obText hb hn) 5 (by decide) rfl (b + 4) (so_text hb 5 4 (by decide)) w_300 dX4_says_236 239 rfl ?_
                  refine ww_iload C 9 dX4_says_239 rfl 241 rfl ?_
                  refine ww_iconst C (1 : Int32) dX4_says_241 (by decide) 242 rfl ?_
                  refine ww_isub C dX4_says_242 243 rfl ?_
                  refine ww_iald C (iaText (q := b) hb hn 4 40 (by decide)) dX4_says_243 h 244 rfl (fun h => ?_)
                  refine ww_ineg C dX4_says_244 245 rfl ?_
                  refine ww_iast C (iaText (q := b) hb hn 4 40 (by decide)) dX4_says_245 h 246 rfl (fun u165 h => ?_)
                  refine ww_goto C 288 dX4_says_246 (by decide) ?_
                  refine ww_iinc C 10 (1 : Int32) (by decide) (fun v166 => [(9, .int v166), (10, .int v150), (0, .ref (ad b)), (1, .int a1), (2, .int a2), (3, .int a3), (4, .int a4), (5, .int a5), (6, .int a6), (7, .int a7), (8, .int x8)]) dX4_says_288 rfl (by decide) (fun _ => rfl) h 291 rfl (fun v166 h => ?_)
                  refine ww_goto C 78 dX4_says_291 (by decide) ?_
                  exact ww_sub [2, 3, 4, 5, 6, 7, 8, 9, 10, 0] rfl (ih _ _ _ h)
            · refine ww_iload C 9 dX4_says_180 rfl 182 rfl ?_
              refine ww_if_le C 214 dX4_says_182 (by decide) h 185 rfl (fun h => ?_) (fun h => ?_)
              · refine ww_iload C 0 dX4_says_214 rfl 216 rfl ?_
                refine ww_sipush C (259 : Int32) dX4_says_216 (by decide) 219 rfl ?_
                refine ww_icmp_ne C 249 dX4_says_219 (by decide) h 222 rfl (fun h => ?_) (fun h => ?_)
                · refine ww_iload C 9 dX4_says_249 rfl 251 rfl ?_
                  refine ww_iconst C (1 : Int32) dX4_says_251 (by decide) 252 rfl ?_
                  refine ww_icmp_le C 288 dX4_says_252 (by decide) h 255 rfl (fun h => ?_) (fun h => ?_)
                  · refine ww_iinc C 10 (1 : Int32) (by decide) (fun v167 => [(9, .int v167), (10, .int v150), (0, .ref (ad b)), (1, .int a1), (2, .int a2), (3, .int a3), (4, .int a4), (5, .int a5), (6, .int a6), (7, .int a7), (8, .int x8)]) dX4_says_288 rfl (by decide) (fun _ => rfl) h 291 rfl (fun v167 h => ?_)
                    refine ww_goto C 78 dX4_says_291 (by decide) ?_
                    exact ww_sub [2, 3, 4, 5, 6, 7, 8, 9, 10, 0] rfl (ih _ _ _ h)
                  · refine ww_iinc C 9 (-1 : Int32) (by decide) (fun v168 => [(8, .int v168), (10, .int v150), (0, .ref (ad b)), (1, .int a1), (2, .int a2), (3, .int a3), (4, .int a4), (5, .int a5), (6, .int a6), (7, .int a7), (9, .int x9)]) dX4_says_255 rfl (by decide) (fun _ => rfl) h 258 rfl (fun v168 h => ?_)
                    refine ww_aload_n C 2 dX4_says_258 rfl rfl 259 rfl ?_
                    refine ww_getS C cl_X4 (obText hb hn) 5 (by decide) rfl (b + 4) (so_text hb 5 4 (by decide)) w_300 dX4_says_259 262 rfl ?_
                    refine ww_iload C 0 dX4_says_262 rfl 264 rfl ?_
                    refine ww_iconst C (1 : Int32) dX4_says_264 (by decide) 265 rfl ?_
                    refine ww_isub C dX4_says_265 266 rfl ?_
                    refine ww_iload C 1 dX4_says_266 rfl 268 rfl ?_
                    refine ww_aload_n C 2 dX4_says_268 rfl rfl 269 rfl ?_
                    refine ww_getS C cl_X4 (obText hb hn) 5 (by decide) rfl (b + 4) (so_text hb 5 4 (by decide)) w_300 dX4_says_269 272 rfl ?_
                    refine ww_iload C 0 dX4_says_272 rfl 274 rfl ?_
                    refine ww_iconst C (1 : Int32) dX4_says_274 (by decide) 275 rfl ?_
                    refine ww_isub C dX4_says_275 276 rfl ?_
                    refine ww_iald C (iaText (q := b) hb hn 4 40 (by decide)) dX4_says_276 h 277 rfl (fun h => ?_)
                    refine ww_aload_n C 2 dX4_says_277 rfl rfl 278 rfl ?_
                    refine ww_getS C cl_X4 (obText hb hn) 5 (by decide) rfl (b + 4) (so_text hb 5 4 (by decide)) w_300 dX4_says_278 281 rfl ?_
                    refine ww_iload C 0 dX4_says_281 rfl 283 rfl ?_
                    refine ww_iald C (iaText (q := b) hb hn 4 40 (by decide)) dX4_says_283 h 284 rfl (fun h => ?_)
                    refine ww_callSi C (As := [.int v150, .int (u151.1 (b + 4) (v168 - (1 : Int32)).toNatClampNeg), .int (u151.1 (b + 4) (v168).toNatClampNeg)]) (st := [.int (v168 - (1 : Int32)), .ref (ad (b + 4))]) h (fun _ _ hF => k_X4_joined hn hF) w_103 cm_X4_joined (by decide) (by decide) rfl rfl (Nat.le_of_ble_eq_true rfl) dX4_says_284 287 rfl (fun v170 u169 h => ?_)
                    refine ww_iast C (iaText (q := b) hb hn 4 40 (by decide)) dX4_says_287 h 288 rfl (fun u171 h => ?_)
                    refine ww_iinc C 10 (1 : Int32) (by decide) (fun v172 => [(9, .int v172), (8, .int v168), (10, .int v150), (0, .ref (ad b)), (1, .int a1), (2, .int a2), (3, .int a3), (4, .int a4), (5, .int a5), (6, .int a6), (7, .int a7)]) dX4_says_288 rfl (by decide) (fun _ => rfl) h 291 rfl (fun v172 h => ?_)
                    refine ww_goto C 78 dX4_says_291 (by decide) ?_
                    exact ww_sub [3, 4, 5, 6, 7, 8, 9, 10, 1, 0] rfl (ih _ _ _ h)
                · refine ww_iload C 9 dX4_says_222 rfl 224 rfl ?_
                  refine ww_if_le C 249 dX4_says_224 (by decide) h 227 rfl (fun h => ?_) (fun h => ?_)
                  · refine ww_iload C 9 dX4_says_249 rfl 251 rfl ?_
                    refine ww_iconst C (1 : Int32) dX4_says_251 (by decide) 252 rfl ?_
                    refine ww_icmp_le C 288 dX4_says_252 (by decide) h 255 rfl (fun h => ?_) (fun h => ?_)
                    · refine ww_iinc C 10 (1 : Int32) (by decide) (fun v173 => [(9, .int v173), (10, .int v150), (0, .ref (ad b)), (1, .int a1), (2, .int a2), (3, .int a3), (4, .int a4), (5, .int a5), (6, .int a6), (7, .int a7), (8, .int x8)]) dX4_says_288 rfl (by decide) (fun _ => rfl) h 291 rfl (fun v173 h => ?_)
                      refine ww_goto C 78 dX4_says_291 (by decide) ?_
                      exact ww_sub [2, 3, 4, 5, 6, 7, 8, 9, 10, 0] rfl (ih _ _ _ h)
                    · refine ww_iinc C 9 (-1 : Int32) (by decide) (fun v174 => [(8, .int v174), (10, .int v150), (0, .ref (ad b)), (1, .int a1), (2, .int a2), (3, .int a3), (4, .int a4), (5, .int a5), (6, .int a6), (7, .int a7), (9, .int x9)]) dX4_says_255 rfl (by decide) (fun _ => rfl) h 258 rfl (fun v174 h => ?_)
                      refine ww_aload_n C 2 dX4_says_258 rfl rfl 259 rfl ?_
                      refine ww_getS C cl_X4 (obText hb hn) 5 (by decide) rfl (b + 4) (so_text hb 5 4 (by decide)) w_300 dX4_says_259 262 rfl ?_
                      refine ww_iload C 0 dX4_says_262 rfl 264 rfl ?_
                      refine ww_iconst C (1 : Int32) dX4_says_264 (by decide) 265 rfl ?_
                      refine ww_isub C dX4_says_265 266 rfl ?_
                      refine ww_iload C 1 dX4_says_266 rfl 268 rfl ?_
                      refine ww_aload_n C 2 dX4_says_268 rfl rfl 269 rfl ?_
                      refine ww_getS C cl_X4 (obText hb hn) 5 (by decide) rfl (b + 4) (so_text hb 5 4 (by decide)) w_300 dX4_says_269 272 rfl ?_
                      refine ww_iload C 0 dX4_says_272 rfl 274 rfl ?_
                      refine ww_iconst C (1 : Int32) dX4_says_274 (by decide) 275 rfl ?_
                      refine ww_isub C dX4_says_275 276 rfl ?_
                      refine ww_iald C (iaText (q := b) hb hn 4 40 (by decide)) dX4_says_276 h 277 rfl (fun h => ?_)
                      refine ww_aload_n C 2 dX4_says_277 rfl rfl 278 rfl ?_
                      refine ww_getS C cl_X4 (obText hb hn) 5 (by decide) rfl (b + 4) (so_text hb 5 4 (by decide)) w_300 dX4_says_278 281 rfl ?_
                      refine ww_iload C 0 dX4_says_281 rfl 283 rfl ?_
                      refine ww_iald C (iaText (q := b) hb hn 4 40 (by decide)) dX4_says_283 h 284 rfl (fun h => ?_)
                      refine ww_callSi C (As := [.int v150, .int (u151.1 (b + 4) (v174 - (1 : Int32)).toNatClampNeg), .int (u151.1 (b + 4) (v174).toNatClampNeg)]) (st := [.int (v174 - (1 : Int32)), .ref (ad (b + 4))]) h (fun _ _ hF => k_X4_joined hn hF) w_103 cm_X4_joined (by decide) (by decide) rfl rfl (Nat.le_of_ble_eq_true rfl) dX4_says_284 287 rfl (fun v176 u175 h => ?_)
                      refine ww_iast C (iaText (q := b) hb hn 4 40 (by decide)) dX4_says_287 h 288 rfl (fun u177 h => ?_)
                      refine ww_iinc C 10 (1 : Int32) (by decide) (fun v178 => [(9, .int v178), (8, .int v174), (10, .int v150), (0, .ref (ad b)), (1, .int a1), (2, .int a2), (3, .int a3), (4, .int a4), (5, .int a5), (6, .int a6), (7, .int a7)]) dX4_says_288 rfl (by decide) (fun _ => rfl) h 291 rfl (fun v178 h => ?_)
                      refine ww_goto C 78 dX4_says_291 (by decide) ?_
                      exact ww_sub [3, 4, 5, 6, 7, 8, 9, 10, 1, 0] rfl (ih _ _ _ h)
                  · refine ww_aload_n C 1 dX4_says_227 rfl rfl 228 rfl ?_
                    refine ww_getS C cl_X4 (obText hb hn) 5 (by decide) rfl (b + 4) (so_text hb 5 4 (by decide)) w_300 dX4_says_228 231 rfl ?_
                    refine ww_iload C 9 dX4_says_231 rfl 233 rfl ?_
                    refine ww_iconst C (1 : Int32) dX4_says_233 (by decide) 234 rfl ?_
                    refine ww_isub C dX4_says_234 235 rfl ?_
                    refine ww_aload_n C 1 dX4_says_235 rfl rfl 236 rfl ?_
                    refine ww_getS C cl_X4 (obText hb hn) 5 (by decide) rfl (b + 4) (so_text hb 5 4 (by decide)) w_300 dX4_says_236 239 rfl ?_
                    refine ww_iload C 9 dX4_says_239 rfl 241 rfl ?_
                    refine ww_iconst C (1 : Int32) dX4_says_241 (by decide) 242 rfl ?_
                    refine ww_isub C dX4_says_242 243 rfl ?_
                    refine ww_iald C (iaText (q := b) hb hn 4 40 (by decide)) dX4_says_243 h 244 rfl (fun h => ?_)
                    refine ww_ineg C dX4_says_244 245 rfl ?_
                    refine ww_iast C (iaText (q := b) hb hn 4 40 (by decide)) dX4_says_245 h 246 rfl (fun u179 h => ?_)
                    refine ww_goto C 288 dX4_says_246 (by decide) ?_
                    refine ww_iinc C 10 (1 : Int32) (by decide) (fun v180 => [(9, .int v180), (10, .int v150), (0, .ref (ad b)), (1, .int a1), (2, .int a2), (3, .int a3), (4, .int a4), (5, .int a5), (6, .int a6), (7, .int a7), (8, .int x8)]) dX4_says_288 rfl (by decide) (fun _ => rfl) h 291 rfl (fun v180 h => ?_)
                    refine ww_goto C 78 dX4_says_291 (by decide) ?_
                    exact ww_sub [2, 3, 4, 5, 6, 7, 8, 9, 10, 0] rfl (ih _ _ _ h)
              · refine ww_aload_n C 1 dX4_says_185 rfl rfl 186 rfl ?_
                refine ww_getS C cl_X4 (obText hb hn) 5 (by decide) rfl (b + 4) (so_text hb 5 4 (by decide)) w_300 dX4_says_186 189 rfl ?_
                refine ww_iload C 9 dX4_says_189 rfl 191 rfl ?_
                refine ww_iconst C (1 : Int32) dX4_says_191 (by decide) 192 rfl ?_
                refine ww_isub C dX4_says_192 193 rfl ?_
                refine ww_aload_n C 1 dX4_says_193 rfl rfl 194 rfl ?_
                refine ww_getS C cl_X4 (obText hb hn) 5 (by decide) rfl (b + 4) (so_text hb 5 4 (by decide)) w_300 dX4_says_194 197 rfl ?_
                refine ww_iload C 9 dX4_says_197 rfl 199 rfl ?_
                refine ww_iconst C (1 : Int32) dX4_says_199 (by decide) 200 rfl ?_
                refine ww_isub C dX4_says_200 201 rfl ?_
                refine ww_iald C (iaText (q := b) hb hn 4 40 (by decide)) dX4_says_201 h 202 rfl (fun h => ?_)
                refine ww_if_ne C 209 dX4_says_202 (by decide) h 205 rfl (fun h => ?_) (fun h => ?_)
                · refine ww_iconst C (0 : Int32) dX4_says_209 (by decide) 210 rfl ?_
                  refine ww_iast C (iaText (q := b) hb hn 4 40 (by decide)) dX4_says_210 h 211 rfl (fun u181 h => ?_)
                  refine ww_goto C 288 dX4_says_211 (by decide) ?_
                  refine ww_iinc C 10 (1 : Int32) (by decide) (fun v182 => [(9, .int v182), (10, .int v150), (0, .ref (ad b)), (1, .int a1), (2, .int a2), (3, .int a3), (4, .int a4), (5, .int a5), (6, .int a6), (7, .int a7), (8, .int x8)]) dX4_says_288 rfl (by decide) (fun _ => rfl) h 291 rfl (fun v182 h => ?_)
                  refine ww_goto C 78 dX4_says_291 (by decide) ?_
                  exact ww_sub [2, 3, 4, 5, 6, 7, 8, 9, 10, 0] rfl (ih _ _ _ h)
                · refine ww_iconst C (1 : Int32) dX4_says_205 (by decide) 206 rfl ?_
                  refine ww_goto C 210 dX4_says_206 (by decide) ?_
                  refine ww_iast C (iaText (q := b) hb hn 4 40 (by decide)) dX4_says_210 h 211 rfl (fun u183 h => ?_)
                  refine ww_goto C 288 dX4_says_211 (by decide) ?_
                  refine ww_iinc C 10 (1 : Int32) (by decide) (fun v184 => [(9, .int v184), (10, .int v150), (0, .ref (ad b)), (1, .int a1), (2, .int a2), (3, .int a3), (4, .int a4), (5, .int a5), (6, .int a6), (7, .int a7), (8, .int x8)]) dX4_says_288 rfl (by decide) (fun _ => rfl) h 291 rfl (fun v184 h => ?_)
                  refine ww_goto C 78 dX4_says_291 (by decide) ?_
                  exact ww_sub [2, 3, 4, 5, 6, 7, 8, 9, 10, 0] rfl (ih _ _ _ h)
          · refine ww_iload C 9 dX4_says_138 rfl 140 rfl ?_
            refine ww_aload_n C 1 dX4_says_140 rfl rfl 141 rfl ?_
            refine ww_getS C cl_X4 (obText hb hn) 5 (by decide) rfl (b + 4) (so_text hb 5 4 (by decide)) w_300 dX4_says_141 144 rfl ?_
            refine ww_alen C (iaText (q := b) hb hn 4 40 (by decide)) (40 : Int32) (by decide) dX4_says_144 145 rfl ?_
            refine ww_icmp_ge C 172 dX4_says_145 (by decide) h 148 rfl (fun h => ?_) (fun h => ?_)
            · refine ww_iload C 0 dX4_says_172 rfl 174 rfl ?_
              refine ww_sipush C (265 : Int32) dX4_says_174 (by decide) 177 rfl ?_
              refine ww_icmp_ne C 214 dX4_says_177 (by decide) h 180 rfl (fun h => ?_) (fun h => ?_)
              · refine ww_iload C 0 dX4_says_214 rfl 216 rfl ?_
                refine ww_sipush C (259 : Int32) dX4_says_216 (by decide) 219 rfl ?_
                refine ww_icmp_ne C 249 dX4_says_219 (by decide) h 222 rfl (fun h => ?_) (fun h => ?_)
                · refine ww_iload C 9 dX4_says_249 rfl 251 rfl ?_
                  refine ww_iconst C (1 : Int32) dX4_says_251 (by decide) 252 rfl ?_
                  refine ww_icmp_le C 288 dX4_says_252 (by decide) h 255 rfl (fun h => ?_) (fun h => ?_)
                  · refine ww_iinc C 10 (1 : Int32) (by decide) (fun v185 => [(9, .int v185), (10, .int v150), (0, .ref (ad b)), (1, .int a1), (2, .int a2), (3, .int a3), (4, .int a4), (5, .int a5), (6, .int a6), (7, .int a7), (8, .int x8)]) dX4_says_288 rfl (by decide) (fun _ => rfl) h 291 rfl (fun v185 h => ?_)
                    refine ww_goto C 78 dX4_says_291 (by decide) ?_
                    exact ww_sub [2, 3, 4, 5, 6, 7, 8, 9, 10, 0] rfl (ih _ _ _ h)
                  · refine ww_iinc C 9 (-1 : Int32) (by decide) (fun v186 => [(8, .int v186), (10, .int v150), (0, .ref (ad b)), (1, .int a1), (2, .int a2), (3, .int a3), (4, .int a4), (5, .int a5), (6, .int a6), (7, .int a7), (9, .int x9)]) dX4_says_255 rfl (by decide) (fun _ => rfl) h 258 rfl (fun v186 h => ?_)
                    refine ww_aload_n C 2 dX4_says_258 rfl rfl 259 rfl ?_
                    refine ww_getS C cl_X4 (obText hb hn) 5 (by decide) rfl (b + 4) (so_text hb 5 4 (by decide)) w_300 dX4_says_259 262 rfl ?_
                    refine ww_iload C 0 dX4_says_262 rfl 264 rfl ?_
                    refine ww_iconst C (1 : Int32) dX4_says_264 (by decide) 265 rfl ?_
                    refine ww_isub C dX4_says_265 266 rfl ?_
                    refine ww_iload C 1 dX4_says_266 rfl 268 rfl ?_
                    refine ww_aload_n C 2 dX4_says_268 rfl rfl 269 rfl ?_
                    refine ww_getS C cl_X4 (obText hb hn) 5 (by decide) rfl (b + 4) (so_text hb 5 4 (by decide)) w_300 dX4_says_269 272 rfl ?_
                    refine ww_iload C 0 dX4_says_272 rfl 274 rfl ?_
                    refine ww_iconst C (1 : Int32) dX4_says_274 (by decide) 275 rfl ?_
                    refine ww_isub C dX4_says_275 276 rfl ?_
                    refine ww_iald C (iaText (q := b) hb hn 4 40 (by decide)) dX4_says_276 h 277 rfl (fun h => ?_)
                    refine ww_aload_n C 2 dX4_says_277 rfl rfl 278 rfl ?_
                    refine ww_getS C cl_X4 (obText hb hn) 5 (by decide) rfl (b + 4) (so_text hb 5 4 (by decide)) w_300 dX4_says_278 281 rfl ?_
                    refine ww_iload C 0 dX4_says_281 rfl 283 rfl ?_
                    refine ww_iald C (iaText (q := b) hb hn 4 40 (by decide)) dX4_says_283 h 284 rfl (fun h => ?_)
                    refine ww_callSi C (As := [.int v150, .int (u151.1 (b + 4) (v186 - (1 : Int32)).toNatClampNeg), .int (u151.1 (b + 4) (v186).toNatClampNeg)]) (st := [.int (v186 - (1 : Int32)), .ref (ad (b + 4))]) h (fun _ _ hF => k_X4_joined hn hF) w_103 cm_X4_joined (by decide) (by decide) rfl rfl (Nat.le_of_ble_eq_true rfl) dX4_says_284 287 rfl (fun v188 u187 h => ?_)
                    refine ww_iast C (iaText (q := b) hb hn 4 40 (by decide)) dX4_says_287 h 288 rfl (fun u189 h => ?_)
                    refine ww_iinc C 10 (1 : Int32) (by decide) (fun v190 => [(9, .int v190), (8, .int v186), (10, .int v150), (0, .ref (ad b)), (1, .int a1), (2, .int a2), (3, .int a3), (4, .int a4), (5, .int a5), (6, .int a6), (7, .int a7)]) dX4_says_288 rfl (by decide) (fun _ => rfl) h 291 rfl (fun v190 h => ?_)
                    refine ww_goto C 78 dX4_says_291 (by decide) ?_
                    exact ww_sub [3, 4, 5, 6, 7, 8, 9, 10, 1, 0] rfl (ih _ _ _ h)
                · refine ww_iload C 9 dX4_says_222 rfl 224 rfl ?_
                  refine ww_if_le C 249 dX4_says_224 (by decide) h 227 rfl (fun h => ?_) (fun h => ?_)
                  · refine ww_iload C 9 dX4_says_249 rfl 251 rfl ?_
                    refine ww_iconst C (1 : Int32) dX4_says_251 (by decide) 252 rfl ?_
                    refine ww_icmp_le C 288 dX4_says_252 (by decide) h 255 rfl (fun h => ?_) (fun h => ?_)
                    · refine ww_iinc C 10 (1 : Int32) (by decide) (fun v191 => [(9, .int v191), (10, .int v150), (0, .ref (ad b)), (1, .int a1), (2, .int a2), (3, .int a3), (4, .int a4), (5, .int a5), (6, .int a6), (7, .int a7), (8, .int x8)]) dX4_says_288 rfl (by decide) (fun _ => rfl) h 291 rfl (fun v191 h => ?_)
                      refine ww_goto C 78 dX4_says_291 (by decide) ?_
                      exact ww_sub [2, 3, 4, 5, 6, 7, 8, 9, 10, 0] rfl (ih _ _ _ h)
                    · refine ww_iinc C 9 (-1 : Int32) (by decide) (fun v192 => [(8, .int v192), (10, .int v150), (0, .ref (ad b)), (1, .int a1), (2, .int a2), (3, .int a3), (4, .int a4), (5, .int a5), (6, .int a6), (7, .int a7), (9, .int x9)]) dX4_says_255 rfl (by decide) (fun _ => rfl) h 258 rfl (fun v192 h => ?_)
                      refine ww_aload_n C 2 dX4_says_258 rfl rfl 259 rfl ?_
                      refine ww_getS C cl_X4 (obText hb hn) 5 (by decide) rfl (b + 4) (so_text hb 5 4 (by decide)) w_300 dX4_says_259 262 rfl ?_
                      refine ww_iload C 0 dX4_says_262 rfl 264 rfl ?_
                      refine ww_iconst C (1 : Int32) dX4_says_264 (by decide) 265 rfl ?_
                      refine ww_isub C dX4_says_265 266 rfl ?_
                      refine ww_iload C 1 dX4_says_266 rfl 268 rfl ?_
                      refine ww_aload_n C 2 dX4_says_268 rfl rfl 269 rfl ?_
                      refine ww_getS C cl_X4 (obText hb hn) 5 (by decide) rfl (b + 4) (so_text hb 5 4 (by decide)) w_300 dX4_says_269 272 rfl ?_
                      refine ww_iload C 0 dX4_says_272 rfl 274 rfl ?_
                      refine ww_iconst C (1 : Int32) dX4_says_274 (by decide) 275 rfl ?_
                      refine ww_isub C dX4_says_275 276 rfl ?_
                      refine ww_iald C (iaText (q := b) hb hn 4 40 (by decide)) dX4_says_276 h 277 rfl (fun h => ?_)
                      refine ww_aload_n C 2 dX4_says_277 rfl rfl 278 rfl ?_
                      refine ww_getS C cl_X4 (obText hb hn) 5 (by decide) rfl (b + 4) (so_text hb 5 4 (by decide)) w_300 dX4_says_278 281 rfl ?_
                      refine ww_iload C 0 dX4_says_281 rfl 283 rfl ?_
                      refine ww_iald C (iaText (q := b) hb hn 4 40 (by decide)) dX4_says_283 h 284 rfl (fun h => ?_)
                      refine ww_callSi C (As := [.int v150, .int (u151.1 (b + 4) (v192 - (1 : Int32)).toNatClampNeg), .int (u151.1 (b + 4) (v192).toNatClampNeg)]) (st := [.int (v192 - (1 : Int32)), .ref (ad (b + 4))]) h (fun _ _ hF => k_X4_joined hn hF) w_103 cm_X4_joined (by decide) (by decide) rfl rfl (Nat.le_of_ble_eq_true rfl) dX4_says_284 287 rfl (fun v194 u193 h => ?_)
                      refine ww_iast C (iaText (q := b) hb hn 4 40 (by decide)) dX4_says_287 h 288 rfl (fun u195 h => ?_)
                      refine ww_iinc C 10 (1 : Int32) (by decide) (fun v196 => [(9, .int v196), (8, .int v192), (10, .int v150), (0, .ref (ad b)), (1, .int a1), (2, .int a2), (3, .int a3), (4, .int a4), (5, .int a5), (6, .int a6), (7, .int a7)]) dX4_says_288 rfl (by decide) (fun _ => rfl) h 291 rfl (fun v196 h => ?_)
                      refine ww_goto C 78 dX4_says_291 (by decide) ?_
                      exact ww_sub [3, 4, 5, 6, 7, 8, 9, 10, 1, 0] rfl (ih _ _ _ h)
                  · refine ww_aload_n C 1 dX4_says_227 rfl rfl 228 rfl ?_
                    refine ww_getS C cl_X4 (obText hb hn) 5 (by decide) rfl (b + 4) (so_text hb 5 4 (by decide)) w_300 dX4_says_228 231 rfl ?_
                    refine ww_iload C 9 dX4_says_231 rfl 233 rfl ?_
                    refine ww_iconst C (1 : Int32) dX4_says_233 (by decide) 234 rfl ?_
                    refine ww_isub C dX4_says_234 235 rfl ?_
                    refine ww_aload_n C 1 dX4_says_235 rfl rfl 236 rfl ?_
                    refine ww_getS C cl_X4 (obText hb hn) 5 (by decide) rfl (b + 4) (so_text hb 5 4 (by decide)) w_300 dX4_says_236 239 rfl ?_
                    refine ww_iload C 9 dX4_says_239 rfl 241 rfl ?_
                    refine ww_iconst C (1 : Int32) dX4_says_241 (by decide) 242 rfl ?_
                    refine ww_isub C dX4_says_242 243 rfl ?_
                    refine ww_iald C (iaText (q := b) hb hn 4 40 (by decide)) dX4_says_243 h 244 rfl (fun h => ?_)
                    refine ww_ineg C dX4_says_244 245 rfl ?_
                    refine ww_iast C (iaText (q := b) hb hn 4 40 (by decide)) dX4_says_245 h 246 rfl (fun u197 h => ?_)
                    refine ww_goto C 288 dX4_says_246 (by decide) ?_
                    refine ww_iinc C 10 (1 : Int32) (by decide) (fun v198 => [(9, .int v198), (10, .int v150), (0, .ref (ad b)), (1, .int a1), (2, .int a2), (3, .int a3), (4, .int a4), (5, .int a5), (6, .int a6), (7, .int a7), (8, .int x8)]) dX4_says_288 rfl (by decide) (fun _ => rfl) h 291 rfl (fun v198 h => ?_)
                    refine ww_goto C 78 dX4_says_291 (by decide) ?_
                    exact ww_sub [2, 3, 4, 5, 6, 7, 8, 9, 10, 0] rfl (ih _ _ _ h)
              · refine ww_iload C 9 dX4_says_180 rfl 182 rfl ?_
                refine ww_if_le C 214 dX4_says_182 (by decide) h 185 rfl (fun h => ?_) (fun h => ?_)
                · refine ww_iload C 0 dX4_says_214 rfl 216 rfl ?_
                  refine ww_sipush C (259 : Int32) dX4_says_216 (by decide) 219 rfl ?_
                  refine ww_icmp_ne C 249 dX4_says_219 (by decide) h 222 rfl (fun h => ?_) (fun h => ?_)
                  · refine ww_iload C 9 dX4_says_249 rfl 251 rfl ?_
                    refine ww_iconst C (1 : Int32) dX4_says_251 (by decide) 252 rfl ?_
                    refine ww_icmp_le C 288 dX4_says_252 (by decide) h 255 rfl (fun h => ?_) (fun h => ?_)
                    · refine ww_iinc C 10 (1 : Int32) (by decide) (fun v199 => [(9, .int v199), (10, .int v150), (0, .ref (ad b)), (1, .int a1), (2, .int a2), (3, .int a3), (4, .int a4), (5, .int a5), (6, .int a6), (7, .int a7), (8, .int x8)]) dX4_says_288 rfl (by decide) (fun _ => rfl) h 291 rfl (fun v199 h => ?_)
                      refine ww_goto C 78 dX4_says_291 (by decide) ?_
                      exact ww_sub [2, 3, 4, 5, 6, 7, 8, 9, 10, 0] rfl (ih _ _ _ h)
                    · refine ww_iinc C 9 (-1 : Int32) (by decide) (fun v200 => [(8, .int v200), (10, .int v150), (0, .ref (ad b)), (1, .int a1), (2, .int a2), (3, .int a3), (4, .int a4), (5, .int a5), (6, .int a6), (7, .int a7), (9, .int x9)]) dX4_says_255 rfl (by decide) (fun _ => rfl) h 258 rfl (fun v200 h => ?_)
                      refine ww_aload_n C 2 dX4_says_258 rfl rfl 259 rfl ?_
                      refine ww_getS C cl_X4 (obText hb hn) 5 (by decide) rfl (b + 4) (so_text hb 5 4 (by decide)) w_300 dX4_says_259 262 rfl ?_
                      refine ww_iload C 0 dX4_says_262 rfl 264 rfl ?_
                      refine ww_iconst C (1 : Int32) dX4_says_264 (by decide) 265 rfl ?_
                      refine ww_isub C dX4_says_265 266 rfl ?_
                      refine ww_iload C 1 dX4_says_266 rfl 268 rfl ?_
                      refine ww_aload_n C 2 dX4_says_268 rfl rfl 269 rfl ?_
                      refine ww_getS C cl_X4 (obText hb hn) 5 (by decide) rfl (b + 4) (so_text hb 5 4 (by decide)) w_300 dX4_says_269 272 rfl ?_
                      refine ww_iload C 0 dX4_says_272 rfl 274 rfl ?_
                      refine ww_iconst C (1 : Int32) dX4_says_274 (by decide) 275 rfl ?_
                      refine ww_isub C dX4_says_275 276 rfl ?_
                      refine ww_iald C (iaText (q := b) hb hn 4 40 (by decide)) dX4_says_276 h 277 rfl (fun h => ?_)
                      refine ww_aload_n C 2 dX4_says_277 rfl rfl 278 rfl ?_
                      refine ww_getS C cl_X4 (obText hb hn) 5 (by decide) rfl (b + 4) (so_text hb 5 4 (by decide)) w_300 dX4_says_278 281 rfl ?_
                      refine ww_iload C 0 dX4_says_281 rfl 283 rfl ?_
                      refine ww_iald C (iaText (q := b) hb hn 4 40 (by decide)) dX4_says_283 h 284 rfl (fun h => ?_)
                      refine ww_callSi C (As := [.int v150, .int (u151.1 (b + 4) (v200 - (1 : Int32)).toNatClampNeg), .int (u151.1 (b + 4) (v200).toNatClampNeg)]) (st := [.int (v200 - (1 : Int32)), .ref (ad (b + 4))]) h (fun _ _ hF => k_X4_joined hn hF) w_103 cm_X4_joined (by decide) (by decide) rfl rfl (Nat.le_of_ble_eq_true rfl) dX4_says_284 287 rfl (fun v202 u201 h => ?_)
                      refine ww_iast C (iaText (q := b) hb hn 4 40 (by decide)) dX4_says_287 h 288 rfl (fun u203 h => ?_)
                      refine ww_iinc C 10 (1 : Int32) (by decide) (fun v204 => [(9, .int v204), (8, .int v200), (10, .int v150), (0, .ref (ad b)), (1, .int a1), (2, .int a2), (3, .int a3), (4, .int a4), (5, .int a5), (6, .int a6), (7, .int a7)]) dX4_says_288 rfl (by decide) (fun _ => rfl) h 291 rfl (fun v204 h => ?_)
                      refine ww_goto C 78 dX4_says_291 (by decide) ?_
                      exact ww_sub [3, 4, 5, 6, 7, 8, 9, 10, 1, 0] rfl (ih _ _ _ h)
                  · refine ww_iload C 9 dX4_says_222 rfl 224 rfl ?_
                    refine ww_if_le C 249 dX4_says_224 (by decide) h 227 rfl (fun h => ?_) (fun h => ?_)
                    · refine ww_iload C 9 dX4_says_249 rfl 251 rfl ?_
                      refine ww_iconst C (1 : Int32) dX4_says_251 (by decide) 252 rfl ?_
                      refine ww_icmp_le C 288 dX4_says_252 (by decide) h 255 rfl (fun h => ?_) (fun h => ?_)
                      · refine ww_iinc C 10 (1 : Int32) (by decide) (fun v205 => [(9, .int v205), (10, .int v150), (0, .ref (ad b)), (1, .int a1), (2, .int a2), (3, .int a3), (4, .int a4), (5, .int a5), (6, .int a6), (7, .int a7), (8, .int x8)]) dX4_says_288 rfl (by decide) (fun _ => rfl) h 291 rfl (fun v205 h => ?_)
                        refine ww_goto C 78 dX4_says_291 (by decide) ?_
                        exact ww_sub [2, 3, 4, 5, 6, 7, 8, 9, 10, 0] rfl (ih _ _ _ h)
                      · refine ww_iinc C 9 (-1 : Int32) (by decide) (fun v206 => [(8, .int v206), (10, .int v150), (0, .ref (ad b)), (1, .int a1), (2, .int a2), (3, .int a3), (4, .int a4), (5, .int a5), (6, .int a6), (7, .int a7), (9, .int x9)]) dX4_says_255 rfl (by decide) (fun _ => rfl) h 258 rfl (fun v206 h => ?_)
                        refine ww_aload_n C 2 dX4_says_258 rfl rfl 259 rfl ?_
                        refine ww_getS C cl_X4 (obText hb hn) 5 (by decide) rfl (b + 4) (so_text hb 5 4 (by decide)) w_300 dX4_says_259 262 rfl ?_
                        refine ww_iload C 0 dX4_says_262 rfl 264 rfl ?_
                        refine ww_iconst C (1 : Int32) dX4_says_264 (by decide) 265 rfl ?_
                        refine ww_isub C dX4_says_265 266 rfl ?_
                        refine ww_iload C 1 dX4_says_266 rfl 268 rfl ?_
                        refine ww_aload_n C 2 dX4_says_268 rfl rfl 269 rfl ?_
                        refine ww_getS C cl_X4 (obText hb hn) 5 (by decide) rfl (b + 4) (so_text hb 5 4 (by decide)) w_300 dX4_says_269 272 rfl ?_
                        refine ww_iload C 0 dX4_says_272 rfl 274 rfl ?_
                        refine ww_iconst C (1 : Int32) dX4_says_274 (by decide) 275 rfl ?_
                        refine ww_isub C dX4_says_275 276 rfl ?_
                        refine ww_iald C (iaText (q := b) hb hn 4 40 (by decide)) dX4_says_276 h 277 rfl (fun h => ?_)
                        refine ww_aload_n C 2 dX4_says_277 rfl rfl 278 rfl ?_
                        refine ww_getS C cl_X4 (obText hb hn) 5 (by decide) rfl (b + 4) (so_text hb 5 4 (by decide)) w_300 dX4_says_278 281 rfl ?_
                        refine ww_iload C 0 dX4_says_281 rfl 283 rfl ?_
                        refine ww_iald C (iaText (q := b) hb hn 4 40 (by decide)) dX4_says_283 h 284 rfl (fun h => ?_)
                        refine ww_callSi C (As := [.int v150, .int (u151.1 (b + 4) (v206 - (1 : Int32)).toNatClampNeg), .int (u151.1 (b + 4) (v206).toNatClampNeg)]) (st := [.int (v206 - (1 : Int32)), .ref (ad (b + 4))]) h (fun _ _ hF => k_X4_joined hn hF) w_103 cm_X4_joined (by decide) (by decide) rfl rfl (Nat.le_of_ble_eq_true rfl) dX4_says_284 287 rfl (fun v208 u207 h => ?_)
                        refine ww_iast C (iaText (q := b) hb hn 4 40 (by decide)) dX4_says_287 h 288 rfl (fun u209 h => ?_)
                        refine ww_iinc C 10 (1 : Int32) (by decide) (fun v210 => [(9, .int v210), (8, .int v206), (10, .int v150), (0, .ref (ad b)), (1, .int a1), (2, .int a2), (3, .int a3), (4, .int a4), (5, .int a5), (6, .int a6), (7, .int a7)]) dX4_says_288 rfl (by decide) (fun _ => rfl) h 291 rfl (fun v210 h => ?_)
                        refine ww_goto C 78 dX4_says_291 (by decide) ?_
                        exact ww_sub [3, 4, 5, 6, 7, 8, 9, 10, 1, 0] rfl (ih _ _ _ h)
                    · refine ww_aload_n C 1 dX4_says_227 rfl rfl 228 rfl ?_
                      refine ww_getS C cl_X4 (obText hb hn) 5 (by decide) rfl (b + 4) (so_text hb 5 4 (by decide)) w_300 dX4_says_228 231 rfl ?_
                      refine ww_iload C 9 dX4_says_231 rfl 233 rfl ?_
                      refine ww_iconst C (1 : Int32) dX4_says_233 (by decide) 234 rfl ?_
                      refine ww_isub C dX4_says_234 235 rfl ?_
                      refine ww_aload_n C 1 dX4_says_235 rfl rfl 236 rfl ?_
                      refine ww_getS C cl_X4 (obText hb hn) 5 (by decide) rfl (b + 4) (so_text hb 5 4 (by decide)) w_300 dX4_says_236 239 rfl ?_
                      refine ww_iload C 9 dX4_says_239 rfl 241 rfl ?_
                      refine ww_iconst C (1 : Int32) dX4_says_241 (by decide) 242 rfl ?_
                      refine ww_isub C dX4_says_242 243 rfl ?_
                      refine ww_iald C (iaText (q := b) hb hn 4 40 (by decide)) dX4_says_243 h 244 rfl (fun h => ?_)
                      refine ww_ineg C dX4_says_244 245 rfl ?_
                      refine ww_iast C (iaText (q := b) hb hn 4 40 (by decide)) dX4_says_245 h 246 rfl (fun u211 h => ?_)
                      refine ww_goto C 288 dX4_says_246 (by decide) ?_
                      refine ww_iinc C 10 (1 : Int32) (by decide) (fun v212 => [(9, .int v212), (10, .int v150), (0, .ref (ad b)), (1, .int a1), (2, .int a2), (3, .int a3), (4, .int a4), (5, .int a5), (6, .int a6), (7, .int a7), (8, .int x8)]) dX4_says_288 rfl (by decide) (fun _ => rfl) h 291 rfl (fun v212 h => ?_)
                      refine ww_goto C 78 dX4_says_291 (by decide) ?_
                      exact ww_sub [2, 3, 4, 5, 6, 7, 8, 9, 10, 0] rfl (ih _ _ _ h)
                · refine ww_aload_n C 1 dX4_says_185 rfl rfl 186 rfl ?_
                  refine ww_getS C cl_X4 (obText hb hn) 5 (by decide) rfl (b + 4) (so_text hb 5 4 (by decide)) w_300 dX4_says_186 189 rfl ?_
                  refine ww_iload C 9 dX4_says_189 rfl 191 rfl ?_
                  refine ww_iconst C (1 : Int32) dX4_says_191 (by decide) 192 rfl ?_
                  refine ww_isub C dX4_says_192 193 rfl ?_
                  refine ww_aload_n C 1 dX4_says_193 rfl rfl 194 rfl ?_
                  refine ww_getS C cl_X4 (obText hb hn) 5 (by decide) rfl (b + 4) (so_text hb 5 4 (by decide)) w_300 dX4_says_194 197 rfl ?_
                  refine ww_iload C 9 dX4_says_197 rfl 199 rfl ?_
                  refine ww_iconst C (1 : Int32) dX4_says_199 (by decide) 200 rfl ?_
                  refine ww_isub C dX4_says_200 201 rfl ?_
                  refine ww_iald C (iaText (q := b) hb hn 4 40 (by decide)) dX4_says_201 h 202 rfl (fun h => ?_)
                  refine ww_if_ne C 209 dX4_says_202 (by decide) h 205 rfl (fun h => ?_) (fun h => ?_)
                  · refine ww_iconst C (0 : Int32) dX4_says_209 (by decide) 210 rfl ?_
                    refine ww_iast C (iaText (q := b) hb hn 4 40 (by decide)) dX4_says_210 h 211 rfl (fun u213 h => ?_)
                    refine ww_goto C 288 dX4_says_211 (by decide) ?_
                    refine ww_iinc C 10 (1 : Int32) (by decide) (fun v214 => [(9, .int v214), (10, .int v150), (0, .ref (ad b)), (1, .int a1), (2, .int a2), (3, .int a3), (4, .int a4), (5, .int a5), (6, .int a6), (7, .int a7), (8, .int x8)]) dX4_says_288 rfl (by decide) (fun _ => rfl) h 291 rfl (fun v214 h => ?_)
                    refine ww_goto C 78 dX4_says_291 (by decide) ?_
                    exact ww_sub [2, 3, 4, 5, 6, 7, 8, 9, 10, 0] rfl (ih _ _ _ h)
                  · refine ww_iconst C (1 : Int32) dX4_says_205 (by decide) 206 rfl ?_
                    refine ww_goto C 210 dX4_says_206 (by decide) ?_
                    refine ww_iast C (iaText (q := b) hb hn 4 40 (by decide)) dX4_says_210 h 211 rfl (fun u215 h => ?_)
                    refine ww_goto C 288 dX4_says_211 (by decide) ?_
                    refine ww_iinc C 10 (1 : Int32) (by decide) (fun v216 => [(9, .int v216), (10, .int v150), (0, .ref (ad b)), (1, .int a1), (2, .int a2), (3, .int a3), (4, .int a4), (5, .int a5), (6, .int a6), (7, .int a7), (8, .int x8)]) dX4_says_288 rfl (by decide) (fun _ => rfl) h 291 rfl (fun v216 h => ?_)
                    refine ww_goto C 78 dX4_says_291 (by decide) ?_
                    exact ww_sub [2, 3, 4, 5, 6, 7, 8, 9, 10, 0] rfl (ih _ _ _ h)
            · refine ww_aload_n C 1 dX4_says_148 rfl rfl 149 rfl ?_
              refine ww_getS C cl_X4 (obText hb hn) 5 (by decide) rfl (b + 4) (so_text hb 5 4 (by decide)) w_300 dX4_says_149 152 rfl ?_
              refine ww_iload C 9 dX4_says_152 rfl 154 rfl ?_
              refine ww_aload_n C 1 dX4_says_154 rfl rfl 155 rfl ?_
              refine ww_getS C cl_X4 (obText hb hn) 4 (by decide) rfl (b + 3) (so_text hb 4 3 (by decide)) w_299 dX4_says_155 158 rfl ?_
              refine ww_iload C 0 dX4_says_158 rfl 160 rfl ?_
              refine ww_sipush C (266 : Int32) dX4_says_160 (by decide) 163 rfl ?_
              refine ww_isub C dX4_says_163 164 rfl ?_
              refine ww_iald C (iaText (q := b) hb hn 3 6 (by decide)) dX4_says_164 h 165 rfl (fun h => ?_)
              refine ww_iast C (iaText (q := b) hb hn 4 40 (by decide)) dX4_says_165 h 166 rfl (fun u217 h => ?_)
              refine ww_iinc C 9 (1 : Int32) (by decide) (fun v218 => [(8, .int v218), (10, .int v150), (0, .ref (ad b)), (1, .int a1), (2, .int a2), (3, .int a3), (4, .int a4), (5, .int a5), (6, .int a6), (7, .int a7), (9, .int x9)]) dX4_says_166 rfl (by decide) (fun _ => rfl) h 169 rfl (fun v218 h => ?_)
              refine ww_goto C 288 dX4_says_169 (by decide) ?_
              refine ww_iinc C 10 (1 : Int32) (by decide) (fun v219 => [(9, .int v219), (8, .int v218), (10, .int v150), (0, .ref (ad b)), (1, .int a1), (2, .int a2), (3, .int a3), (4, .int a4), (5, .int a5), (6, .int a6), (7, .int a7)]) dX4_says_288 rfl (by decide) (fun _ => rfl) h 291 rfl (fun v219 h => ?_)
              refine ww_goto C 78 dX4_says_291 (by decide) ?_
              exact ww_sub [3, 4, 5, 6, 7, 8, 9, 10, 1, 0] rfl (ih _ _ _ h)
        · refine ww_iload C 9 dX4_says_104 rfl 106 rfl ?_
          refine ww_aload_n C 1 dX4_says_106 rfl rfl 107 rfl ?_
          refine ww_getS C cl_X4 (obText hb hn) 5 (by decide) rfl (b + 4) (so_text hb 5 4 (by decide)) w_300 dX4_says_107 110 rfl ?_
          refine ww_alen C (iaText (q := b) hb hn 4 40 (by decide)) (40 : Int32) (by decide) dX4_says_110 111 rfl ?_
          refine ww_icmp_ge C 130 dX4_says_111 (by decide) h 114 rfl (fun h => ?_) (fun h => ?_)
          · refine ww_iload C 0 dX4_says_130 rfl 132 rfl ?_
            refine ww_callSi C (As := [.int v150]) (st := []) h (fun _ _ hF => k_X3_isName hn hF) w_100 cm_X3_isName (by decide) (by decide) rfl rfl (Nat.le_of_ble_eq_true rfl) dX4_says_132 135 rfl (fun v221 u220 h => ?_)
            refine ww_if_eq C 172 dX4_says_135 (by decide) h 138 rfl (fun h => ?_) (fun h => ?_)
            · refine ww_iload C 0 dX4_says_172 rfl 174 rfl ?_
              refine ww_sipush C (265 : Int32) dX4_says_174 (by decide) 177 rfl ?_
              refine ww_icmp_ne C 214 dX4_says_177 (by decide) h 180 rfl (fun h => ?_) (fun h => ?_)
              · refine ww_iload C 0 dX4_says_214 rfl 216 rfl ?_
                refine ww_sipush C (259 : Int32) dX4_says_216 (by decide) 219 rfl ?_
                refine ww_icmp_ne C 249 dX4_says_219 (by decide) h 222 rfl (fun h => ?_) (fun h => ?_)
                · refine ww_iload C 9 dX4_says_249 rfl 251 rfl ?_
                  refine ww_iconst C (1 : Int32) dX4_says_251 (by decide) 252 rfl ?_
                  refine ww_icmp_le C 288 dX4_says_252 (by decide) h 255 rfl (fun h => ?_) (fun h => ?_)
                  · refine ww_iinc C 10 (1 : Int32) (by decide) (fun v222 => [(9, .int v222), (10, .int v150), (0, .ref (ad b)), (1, .int a1), (2, .int a2), (3, .int a3), (4, .int a4), (5, .int a5), (6, .int a6), (7, .int a7), (8, .int x8)]) dX4_says_288 rfl (by decide) (fun _ => rfl) h 291 rfl (fun v222 h => ?_)
                    refine ww_goto C 78 dX4_says_291 (by decide) ?_
                    exact ww_sub [2, 3, 4, 5, 6, 7, 8, 9, 10, 0] rfl (ih _ _ _ h)
                  · refine ww_iinc C 9 (-1 : Int32) (by decide) (fun v223 => [(8, .int v223), (10, .int v150), (0, .ref (ad b)), (1, .int a1), (2, .int a2), (3, .int a3), (4, .int a4), (5, .int a5), (6, .int a6), (7, .int a7), (9, .int x9)]) dX4_says_255 rfl (by decide) (fun _ => rfl) h 258 rfl (fun v223 h => ?_)
                    refine ww_aload_n C 2 dX4_says_258 rfl rfl 259 rfl ?_
                    refine ww_getS C cl_X4 (obText hb hn) 5 (by decide) rfl (b + 4) (so_text hb 5 4 (by decide)) w_300 dX4_says_259 262 rfl ?_
                    refine ww_iload C 0 dX4_says_262 rfl 264 rfl ?_
                    refine ww_iconst C (1 : Int32) dX4_says_264 (by decide) 265 rfl ?_
                    refine ww_isub C dX4_says_265 266 rfl ?_
                    refine ww_iload C 1 dX4_says_266 rfl 268 rfl ?_
                    refine ww_aload_n C 2 dX4_says_268 rfl rfl 269 rfl ?_
                    refine ww_getS C cl_X4 (obText hb hn) 5 (by decide) rfl (b + 4) (so_text hb 5 4 (by decide)) w_300 dX4_says_269 272 rfl ?_
                    refine ww_iload C 0 dX4_says_272 rfl 274 rfl ?_
                    refine ww_iconst C (1 : Int32) dX4_says_274 (by decide) 275 rfl ?_
                    refine ww_isub C dX4_says_275 276 rfl ?_
                    refine ww_iald C (iaText (q := b) hb hn 4 40 (by decide)) dX4_says_276 h 277 rfl (fun h => ?_)
                    refine ww_aload_n C 2 dX4_says_277 rfl rfl 278 rfl ?_
                    refine ww_getS C cl_X4 (obText hb hn) 5 (by decide) rfl (b + 4) (so_text hb 5 4 (by decide)) w_300 dX4_says_278 281 rfl ?_
                    refine ww_iload C 0 dX4_says_281 rfl 283 rfl ?_
                    refine ww_iald C (iaText (q := b) hb hn 4 40 (by decide)) dX4_says_283 h 284 rfl (fun h => ?_)
                    refine ww_callSi C (As := [.int v150, .int (u220.1 (b + 4) (v223 - (1 : Int32)).toNatClampNeg), .int (u220.1 (b + 4) (v223).toNatClampNeg)]) (st := [.int (v223 - (1 : Int32)), .ref (ad (b + 4))]) h (fun _ _ hF => k_X4_joined hn hF) w_103 cm_X4_joined (by decide) (by decide) rfl rfl (Nat.le_of_ble_eq_true rfl) dX4_says_284 287 rfl (fun v225 u224 h => ?_)
                    refine ww_iast C (iaText (q := b) hb hn 4 40 (by decide)) dX4_says_287 h 288 rfl (fun u226 h => ?_)
                    refine ww_iinc C 10 (1 : Int32) (by decide) (fun v227 => [(9, .int v227), (8, .int v223), (10, .int v150), (0, .ref (ad b)), (1, .int a1), (2, .int a2), (3, .int a3), (4, .int a4), (5, .int a5), (6, .int a6), (7, .int a7)]) dX4_says_288 rfl (by decide) (fun _ => rfl) h 291 rfl (fun v227 h => ?_)
                    refine ww_goto C 78 dX4_says_291 (by decide) ?_
                    exact ww_sub [3, 4, 5, 6, 7, 8, 9, 10, 1, 0] rfl (ih _ _ _ h)
                · refine ww_iload C 9 dX4_says_222 rfl 224 rfl ?_
                  refine ww_if_le C 249 dX4_says_224 (by decide) h 227 rfl (fun h => ?_) (fun h => ?_)
                  · refine ww_iload C 9 dX4_says_249 rfl 251 rfl ?_
                    refine ww_iconst C (1 : Int32) dX4_says_251 (by decide) 252 rfl ?_
                    refine ww_icmp_le C 288 dX4_says_252 (by decide) h 255 rfl (fun h => ?_) (fun h => ?_)
                    · refine ww_iinc C 10 (1 : Int32) (by decide) (fun v228 => [(9, .int v228), (10, .int v150), (0, .ref (ad b)), (1, .int a1), (2, .int a2), (3, .int a3), (4, .int a4), (5, .int a5), (6, .int a6), (7, .int a7), (8, .int x8)]) dX4_says_288 rfl (by decide) (fun _ => rfl) h 291 rfl (fun v228 h => ?_)
                      refine ww_goto C 78 dX4_says_291 (by decide) ?_
                      exact ww_sub [2, 3, 4, 5, 6, 7, 8, 9, 10, 0] rfl (ih _ _ _ h)
                    · refine ww_iinc C 9 (-1 : Int32) (by decide) (fun v229 => [(8, .int v229), (10, .int v150), (0, .ref (ad b)), (1, .int a1), (2, .int a2), (3, .int a3), (4, .int a4), (5, .int a5), (6, .int a6), (7, .int a7), (9, .int x9)]) dX4_says_255 rfl (by decide) (fun _ => rfl) h 258 rfl (fun v229 h => ?_)
                      refine ww_aload_n C 2 dX4_says_258 rfl rfl 259 rfl ?_
                      refine ww_getS C cl_X4 (obText hb hn) 5 (by decide) rfl (b + 4) (so_text hb 5 4 (by decide)) w_300 dX4_says_259 262 rfl ?_
                      refine ww_iload C 0 dX4_says_262 rfl 264 rfl ?_
                      refine ww_iconst C (1 : Int32) dX4_says_264 (by decide) 265 rfl ?_
                      refine ww_isub C dX4_says_265 266 rfl ?_
                      refine ww_iload C 1 dX4_says_266 rfl 268 rfl ?_
                      refine ww_aload_n C 2 dX4_says_268 rfl rfl 269 rfl ?_
                      refine ww_getS C cl_X4 (obText hb hn) 5 (by decide) rfl (b + 4) (so_text hb 5 4 (by decide)) w_300 dX4_says_269 272 rfl ?_
                      refine ww_iload C 0 dX4_says_272 rfl 274 rfl ?_
                      refine ww_iconst C (1 : Int32) dX4_says_274 (by decide) 275 rfl ?_
                      refine ww_isub C dX4_says_275 276 rfl ?_
                      refine ww_iald C (iaText (q := b) hb hn 4 40 (by decide)) dX4_says_276 h 277 rfl (fun h => ?_)
                      refine ww_aload_n C 2 dX4_says_277 rfl rfl 278 rfl ?_
                      refine ww_getS C cl_X4 (obText hb hn) 5 (by decide) rfl (b + 4) (so_text hb 5 4 (by decide)) w_300 dX4_says_278 281 rfl ?_
                      refine ww_iload C 0 dX4_says_281 rfl 283 rfl ?_
                      refine ww_iald C (iaText (q := b) hb hn 4 40 (by decide)) dX4_says_283 h 284 rfl (fun h => ?_)
                      refine ww_callSi C (As := [.int v150, .int (u220.1 (b + 4) (v229 - (1 : Int32)).toNatClampNeg), .int (u220.1 (b + 4) (v229).toNatClampNeg)]) (st := [.int (v229 - (1 : Int32)), .ref (ad (b + 4))]) h (fun _ _ hF => k_X4_joined hn hF) w_103 cm_X4_joined (by decide) (by decide) rfl rfl (Nat.le_of_ble_eq_true rfl) dX4_says_284 287 rfl (fun v231 u230 h => ?_)
                      refine ww_iast C (iaText (q := b) hb hn 4 40 (by decide)) dX4_says_287 h 288 rfl (fun u232 h => ?_)
                      refine ww_iinc C 10 (1 : Int32) (by decide) (fun v233 => [(9, .int v233), (8, .int v229), (10, .int v150), (0, .ref (ad b)), (1, .int a1), (2, .int a2), (3, .int a3), (4, .int a4), (5, .int a5), (6, .int a6), (7, .int a7)]) dX4_says_288 rfl (by decide) (fun _ => rfl) h 291 rfl (fun v233 h => ?_)
                      refine ww_goto C 78 dX4_says_291 (by decide) ?_
                      exact ww_sub [3, 4, 5, 6, 7, 8, 9, 10, 1, 0] rfl (ih _ _ _ h)
                  · refine ww_aload_n C 1 dX4_says_227 rfl rfl 228 rfl ?_
                    refine ww_getS C cl_X4 (obText hb hn) 5 (by decide) rfl (b + 4) (so_text hb 5 4 (by decide)) w_300 dX4_says_228 231 rfl ?_
                    refine ww_iload C 9 dX4_says_231 rfl 233 rfl ?_
                    refine ww_iconst C (1 : Int32) dX4_says_233 (by decide) 234 rfl ?_
                    refine ww_isub C dX4_says_234 235 rfl ?_
                    refine ww_aload_n C 1 dX4_says_235 rfl rfl 236 rfl ?_
                    refine ww_getS C cl_X4 (obText hb hn) 5 (by decide) rfl (b + 4) (so_text hb 5 4 (by decide)) w_300 dX4_says_236 239 rfl ?_
                    refine ww_iload C 9 dX4_says_239 rfl 241 rfl ?_
                    refine ww_iconst C (1 : Int32) dX4_says_241 (by decide) 242 rfl ?_
                    refine ww_isub C dX4_says_242 243 rfl ?_
                    refine ww_iald C (iaText (q := b) hb hn 4 40 (by decide)) dX4_says_243 h 244 rfl (fun h => ?_)
                    refine ww_ineg C dX4_says_244 245 rfl ?_
                    refine ww_iast C (iaText (q := b) hb hn 4 40 (by decide)) dX4_says_245 h 246 rfl (fun u234 h => ?_)
                    refine ww_goto C 288 dX4_says_246 (by decide) ?_
                    refine ww_iinc C 10 (1 : Int32) (by decide) (fun v235 => [(9, .int v235), (10, .int v150), (0, .ref (ad b)), (1, .int a1), (2, .int a2), (3, .int a3), (4, .int a4), (5, .int a5), (6, .int a6), (7, .int a7), (8, .int x8)]) dX4_says_288 rfl (by decide) (fun _ => rfl) h 291 rfl (fun v235 h => ?_)
                    refine ww_goto C 78 dX4_says_291 (by decide) ?_
                    exact ww_sub [2, 3, 4, 5, 6, 7, 8, 9, 10, 0] rfl (ih _ _ _ h)
              · refine ww_iload C 9 dX4_says_180 rfl 182 rfl ?_
                refine ww_if_le C 214 dX4_says_182 (by decide) h 185 rfl (fun h => ?_) (fun h => ?_)
                · refine ww_iload C 0 dX4_says_214 rfl 216 rfl ?_
                  refine ww_sipush C (259 : Int32) dX4_says_216 (by decide) 219 rfl ?_
                  refine ww_icmp_ne C 249 dX4_says_219 (by decide) h 222 rfl (fun h => ?_) (fun h => ?_)
                  · refine ww_iload C 9 dX4_says_249 rfl 251 rfl ?_
                    refine ww_iconst C (1 : Int32) dX4_says_251 (by decide) 252 rfl ?_
                    refine ww_icmp_le C 288 dX4_says_252 (by decide) h 255 rfl (fun h => ?_) (fun h => ?_)
                    · refine ww_iinc C 10 (1 : Int32) (by decide) (fun v236 => [(9, .int v236), (10, .int v150), (0, .ref (ad b)), (1, .int a1), (2, .int a2), (3, .int a3), (4, .int a4), (5, .int a5), (6, .int a6), (7, .int a7), (8, .int x8)]) dX4_says_288 rfl (by decide) (fun _ => rfl) h 291 rfl (fun v236 h => ?_)
                      refine ww_goto C 78 dX4_says_291 (by decide) ?_
                      exact ww_sub [2, 3, 4, 5, 6, 7, 8, 9, 10, 0] rfl (ih _ _ _ h)
                    · refine ww_iinc C 9 (-1 : Int32) (by decide) (fun v237 => [(8, .int v237), (10, .int v150), (0, .ref (ad b)), (1, .int a1), (2, .int a2), (3, .int a3), (4, .int a4), (5, .int a5), (6, .int a6), (7, .int a7), (9, .int x9)]) dX4_says_255 rfl (by decide) (fun _ => rfl) h 258 rfl (fun v237 h => ?_)
                      refine ww_aload_n C 2 dX4_says_258 rfl rfl 259 rfl ?_
                      refine ww_getS C cl_X4 (obText hb hn) 5 (by decide) rfl (b + 4) (so_text hb 5 4 (by decide)) w_300 dX4_says_259 262 rfl ?_
                      refine ww_iload C 0 dX4_says_262 rfl 264 rfl ?_
                      refine ww_iconst C (1 : Int32) dX4_says_264 (by decide) 265 rfl ?_
                      refine ww_isub C dX4_says_265 266 rfl ?_
                      refine ww_iload C 1 dX4_says_266 rfl 268 rfl ?_
                      refine ww_aload_n C 2 dX4_says_268 rfl rfl 269 rfl ?_
                      refine ww_getS C cl_X4 (obText hb hn) 5 (by decide) rfl (b + 4) (so_text hb 5 4 (by decide)) w_300 dX4_says_269 272 rfl ?_
                      refine ww_iload C 0 dX4_says_272 rfl 274 rfl ?_
                      refine ww_iconst C (1 : Int32) dX4_says_274 (by decide) 275 rfl ?_
                      refine ww_isub C dX4_says_275 276 rfl ?_
                      refine ww_iald C (iaText (q := b) hb hn 4 40 (by decide)) dX4_says_276 h 277 rfl (fun h => ?_)
                      refine ww_aload_n C 2 dX4_says_277 rfl rfl 278 rfl ?_
                      refine ww_getS C cl_X4 (obText hb hn) 5 (by decide) rfl (b + 4) (so_text hb 5 4 (by decide)) w_300 dX4_says_278 281 rfl ?_
                      refine ww_iload C 0 dX4_says_281 rfl 283 rfl ?_
                      refine ww_iald C (iaText (q := b) hb hn 4 40 (by decide)) dX4_says_283 h 284 rfl (fun h => ?_)
                      refine ww_callSi C (As := [.int v150, .int (u220.1 (b + 4) (v237 - (1 : Int32)).toNatClampNeg), .int (u220.1 (b + 4) (v237).toNatClampNeg)]) (st := [.int (v237 - (1 : Int32)), .ref (ad (b + 4))]) h (fun _ _ hF => k_X4_joined hn hF) w_103 cm_X4_joined (by decide) (by decide) rfl rfl (Nat.le_of_ble_eq_true rfl) dX4_says_284 287 rfl (fun v239 u238 h => ?_)
                      refine ww_iast C (iaText (q := b) hb hn 4 40 (by decide)) dX4_says_287 h 288 rfl (fun u240 h => ?_)
                      refine ww_iinc C 10 (1 : Int32) (by decide) (fun v241 => [(9, .int v241), (8, .int v237), (10, .int v150), (0, .ref (ad b)), (1, .int a1), (2, .int a2), (3, .int a3), (4, .int a4), (5, .int a5), (6, .int a6), (7, .int a7)]) dX4_says_288 rfl (by decide) (fun _ => rfl) h 291 rfl (fun v241 h => ?_)
                      refine ww_goto C 78 dX4_says_291 (by decide) ?_
                      exact ww_sub [3, 4, 5, 6, 7, 8, 9, 10, 1, 0] rfl (ih _ _ _ h)
                  · refine ww_iload C 9 dX4_says_222 rfl 224 rfl ?_
                    refine ww_if_le C 249 dX4_says_224 (by decide) h 227 rfl (fun h => ?_) (fun h => ?_)
                    · refine ww_iload C 9 dX4_says_249 rfl 251 rfl ?_
                      refine ww_iconst C (1 : Int32) dX4_says_251 (by decide) 252 rfl ?_
                      refine ww_icmp_le C 288 dX4_says_252 (by decide) h 255 rfl (fun h => ?_) (fun h => ?_)
                      · refine ww_iinc C 10 (1 : Int32) (by decide) (fun v242 => [(9, .int v242), (10, .int v150), (0, .ref (ad b)), (1, .int a1), (2, .int a2), (3, .int a3), (4, .int a4), (5, .int a5), (6, .int a6), (7, .int a7), (8, .int x8)]) dX4_says_288 rfl (by decide) (fun _ => rfl) h 291 rfl (fun v242 h => ?_)
                        refine ww_goto C 78 dX4_says_291 (by decide) ?_
                        exact ww_sub [2, 3, 4, 5, 6, 7, 8, 9, 10, 0] rfl (ih _ _ _ h)
                      · refine ww_iinc C 9 (-1 : Int32) (by decide) (fun v243 => [(8, .int v243), (10, .int v150), (0, .ref (ad b)), (1, .int a1), (2, .int a2), (3, .int a3), (4, .int a4), (5, .int a5), (6, .int a6), (7, .int a7), (9, .int x9)]) dX4_says_255 rfl (by decide) (fun _ => rfl) h 258 rfl (fun v243 h => ?_)
                        refine ww_aload_n C 2 dX4_says_258 rfl rfl 259 rfl ?_
                        refine ww_getS C cl_X4 (obText hb hn) 5 (by decide) rfl (b + 4) (so_text hb 5 4 (by decide)) w_300 dX4_says_259 262 rfl ?_
                        refine ww_iload C 0 dX4_says_262 rfl 264 rfl ?_
                        refine ww_iconst C (1 : Int32) dX4_says_264 (by decide) 265 rfl ?_
                        refine ww_isub C dX4_says_265 266 rfl ?_
                        refine ww_iload C 1 dX4_says_266 rfl 268 rfl ?_
                        refine ww_aload_n C 2 dX4_says_268 rfl rfl 269 rfl ?_
                        refine ww_getS C cl_X4 (obText hb hn) 5 (by decide) rfl (b + 4) (so_text hb 5 4 (by decide)) w_300 dX4_says_269 272 rfl ?_
                        refine ww_iload C 0 dX4_says_272 rfl 274 rfl ?_
                        refine ww_iconst C (1 : Int32) dX4_says_274 (by decide) 275 rfl ?_
                        refine ww_isub C dX4_says_275 276 rfl ?_
                        refine ww_iald C (iaText (q := b) hb hn 4 40 (by decide)) dX4_says_276 h 277 rfl (fun h => ?_)
                        refine ww_aload_n C 2 dX4_says_277 rfl rfl 278 rfl ?_
                        refine ww_getS C cl_X4 (obText hb hn) 5 (by decide) rfl (b + 4) (so_text hb 5 4 (by decide)) w_300 dX4_says_278 281 rfl ?_
                        refine ww_iload C 0 dX4_says_281 rfl 283 rfl ?_
                        refine ww_iald C (iaText (q := b) hb hn 4 40 (by decide)) dX4_says_283 h 284 rfl (fun h => ?_)
                        refine ww_callSi C (As := [.int v150, .int (u220.1 (b + 4) (v243 - (1 : Int32)).toNatClampNeg), .int (u220.1 (b + 4) (v243).toNatClampNeg)]) (st := [.int (v243 - (1 : Int32)), .ref (ad (b + 4))]) h (fun _ _ hF => k_X4_joined hn hF) w_103 cm_X4_joined (by decide) (by decide) rfl rfl (Nat.le_of_ble_eq_true rfl) dX4_says_284 287 rfl (fun v245 u244 h => ?_)
                        refine ww_iast C (iaText (q := b) hb hn 4 40 (by decide)) dX4_says_287 h 288 rfl (fun u246 h => ?_)
                        refine ww_iinc C 10 (1 : Int32) (by decide) (fun v247 => [(9, .int v247), (8, .int v243), (10, .int v150), (0, .ref (ad b)), (1, .int a1), (2, .int a2), (3, .int a3), (4, .int a4), (5, .int a5), (6, .int a6), (7, .int a7)]) dX4_says_288 rfl (by decide) (fun _ => rfl) h 291 rfl (fun v247 h => ?_)
                        refine ww_goto C 78 dX4_says_291 (by decide) ?_
                        exact ww_sub [3, 4, 5, 6, 7, 8, 9, 10, 1, 0] rfl (ih _ _ _ h)
                    · refine ww_aload_n C 1 dX4_says_227 rfl rfl 228 rfl ?_
                      refine ww_getS C cl_X4 (obText hb hn) 5 (by decide) rfl (b + 4) (so_text hb 5 4 (by decide)) w_300 dX4_says_228 231 rfl ?_
                      refine ww_iload C 9 dX4_says_231 rfl 233 rfl ?_
                      refine ww_iconst C (1 : Int32) dX4_says_233 (by decide) 234 rfl ?_
                      refine ww_isub C dX4_says_234 235 rfl ?_
                      refine ww_aload_n C 1 dX4_says_235 rfl rfl 236 rfl ?_
                      refine ww_getS C cl_X4 (obText hb hn) 5 (by decide) rfl (b + 4) (so_text hb 5 4 (by decide)) w_300 dX4_says_236 239 rfl ?_
                      refine ww_iload C 9 dX4_says_239 rfl 241 rfl ?_
                      refine ww_iconst C (1 : Int32) dX4_says_241 (by decide) 242 rfl ?_
                      refine ww_isub C dX4_says_242 243 rfl ?_
                      refine ww_iald C (iaText (q := b) hb hn 4 40 (by decide)) dX4_says_243 h 244 rfl (fun h => ?_)
                      refine ww_ineg C dX4_says_244 245 rfl ?_
                      refine ww_iast C (iaText (q := b) hb hn 4 40 (by decide)) dX4_says_245 h 246 rfl (fun u248 h => ?_)
                      refine ww_goto C 288 dX4_says_246 (by decide) ?_
                      refine ww_iinc C 10 (1 : Int32) (by decide) (fun v249 => [(9, .int v249), (10, .int v150), (0, .ref (ad b)), (1, .int a1), (2, .int a2), (3, .int a3), (4, .int a4), (5, .int a5), (6, .int a6), (7, .int a7), (8, .int x8)]) dX4_says_288 rfl (by decide) (fun _ => rfl) h 291 rfl (fun v249 h => ?_)
                      refine ww_goto C 78 dX4_says_291 (by decide) ?_
                      exact ww_sub [2, 3, 4, 5, 6, 7, 8, 9, 10, 0] rfl (ih _ _ _ h)
                · refine ww_aload_n C 1 dX4_says_185 rfl rfl 186 rfl ?_
                  refine ww_getS C cl_X4 (obText hb hn) 5 (by decide) rfl (b + 4) (so_text hb 5 4 (by decide)) w_300 dX4_says_186 189 rfl ?_
                  refine ww_iload C 9 dX4_says_189 rfl 191 rfl ?_
                  refine ww_iconst C (1 : Int32) dX4_says_191 (by decide) 192 rfl ?_
                  refine ww_isub C dX4_says_192 193 rfl ?_
                  refine ww_aload_n C 1 dX4_says_193 rfl rfl 194 rfl ?_
                  refine ww_getS C cl_X4 (obText hb hn) 5 (by decide) rfl (b + 4) (so_text hb 5 4 (by decide)) w_300 dX4_says_194 197 rfl ?_
                  refine ww_iload C 9 dX4_says_197 rfl 199 rfl ?_
                  refine ww_iconst C (1 : Int32) dX4_says_199 (by decide) 200 rfl ?_
                  refine ww_isub C dX4_says_200 201 rfl ?_
                  refine ww_iald C (iaText (q := b) hb hn 4 40 (by decide)) dX4_says_201 h 202 rfl (fun h => ?_)
                  refine ww_if_ne C 209 dX4_says_202 (by decide) h 205 rfl (fun h => ?_) (fun h => ?_)
                  · refine ww_iconst C (0 : Int32) dX4_says_209 (by decide) 210 rfl ?_
                    refine ww_iast C (iaText (q := b) hb hn 4 40 (by decide)) dX4_says_210 h 211 rfl (fun u250 h => ?_)
                    refine ww_goto C 288 dX4_says_211 (by decide) ?_
                    refine ww_iinc C 10 (1 : Int32) (by decide) (fun v251 => [(9, .int v251), (10, .int v150), (0, .ref (ad b)), (1, .int a1), (2, .int a2), (3, .int a3), (4, .int a4), (5, .int a5), (6, .int a6), (7, .int a7), (8, .int x8)]) dX4_says_288 rfl (by decide) (fun _ => rfl) h 291 rfl (fun v251 h => ?_)
                    refine ww_goto C 78 dX4_says_291 (by decide) ?_
                    exact ww_sub [2, 3, 4, 5, 6, 7, 8, 9, 10, 0] rfl (ih _ _ _ h)
                  · refine ww_iconst C (1 : Int32) dX4_says_205 (by decide) 206 rfl ?_
                    refine ww_goto C 210 dX4_says_206 (by decide) ?_
                    refine ww_iast C (iaText (q := b) hb hn 4 40 (by decide)) dX4_says_210 h 211 rfl (fun u252 h => ?_)
                    refine ww_goto C 288 dX4_says_211 (by decide) ?_
                    refine ww_iinc C 10 (1 : Int32) (by decide) (fun v253 => [(9, .int v253), (10, .int v150), (0, .ref (ad b)), (1, .int a1), (2, .int a2), (3, .int a3), (4, .int a4), (5, .int a5), (6, .int a6), (7, .int a7), (8, .int x8)]) dX4_says_288 rfl (by decide) (fun _ => rfl) h 291 rfl (fun v253 h => ?_)
                    refine ww_goto C 78 dX4_says_291 (by decide) ?_
                    exact ww_sub [2, 3, 4, 5, 6, 7, 8, 9, 10, 0] rfl (ih _ _ _ h)
            · refine ww_iload C 9 dX4_says_138 rfl 140 rfl ?_
              refine ww_aload_n C 1 dX4_says_140 rfl rfl 141 rfl ?_
              refine ww_getS C cl_X4 (obText hb hn) 5 (by decide) rfl (b + 4) (so_text hb 5 4 (by decide)) w_300 dX4_says_141 144 rfl ?_
              refine ww_alen C (iaText (q := b) hb hn 4 40 (by decide)) (40 : Int32) (by decide) dX4_says_144 145 rfl ?_
              refine ww_icmp_ge C 172 dX4_says_145 (by decide) h 148 rfl (fun h => ?_) (fun h => ?_)
              · refine ww_iload C 0 dX4_says_172 rfl 174 rfl ?_
                refine ww_sipush C (265 : Int32) dX4_says_174 (by decide) 177 rfl ?_
                refine ww_icmp_ne C 214 dX4_says_177 (by decide) h 180 rfl (fun h => ?_) (fun h => ?_)
                · refine ww_iload C 0 dX4_says_214 rfl 216 rfl ?_
                  refine ww_sipush C (259 : Int32) dX4_says_216 (by decide) 219 rfl ?_
                  refine ww_icmp_ne C 249 dX4_says_219 (by decide) h 222 rfl (fun h => ?_) (fun h => ?_)
                  · refine ww_iload C 9 dX4_says_249 rfl 251 rfl ?_
                    refine ww_iconst C (1 : Int32) dX4_says_251 (by decide) 252 rfl ?_
                    refine ww_icmp_le C 288 dX4_says_252 (by decide) h 255 rfl (fun h => ?_) (fun h => ?_)
                    · refine ww_iinc C 10 (1 : Int32) (by decide) (fun v254 => [(9, .int v254), (10, .int v150), (0, .ref (ad b)), (1, .int a1), (2, .int a2), (3, .int a3), (4, .int a4), (5, .int a5), (6, .int a6), (7, .int a7), (8, .int x8)]) dX4_says_288 rfl (by decide) (fun _ => rfl) h 291 rfl (fun v254 h => ?_)
                      refine ww_goto C 78 dX4_says_291 (by decide) ?_
                      exact ww_sub [2, 3, 4, 5, 6, 7, 8, 9, 10, 0] rfl (ih _ _ _ h)
                    · refine ww_iinc C 9 (-1 : Int32) (by decide) (fun v255 => [(8, .int v255), (10, .int v150), (0, .ref (ad b)), (1, .int a1), (2, .int a2), (3, .int a3), (4, .int a4), (5, .int a5), (6, .int a6), (7, .int a7), (9, .int x9)]) dX4_says_255 rfl (by decide) (fun _ => rfl) h 258 rfl (fun v255 h => ?_)
                      refine ww_aload_n C 2 dX4_says_258 rfl rfl 259 rfl ?_
                      refine ww_getS C cl_X4 (obText hb hn) 5 (by decide) rfl (b + 4) (so_text hb 5 4 (by decide)) w_300 dX4_says_259 262 rfl ?_
                      refine ww_iload C 0 dX4_says_262 rfl 264 rfl ?_
                      refine ww_iconst C (1 : Int32) dX4_says_264 (by decide) 265 rfl ?_
                      refine ww_isub C dX4_says_265 266 rfl ?_
                      refine ww_iload C 1 dX4_says_266 rfl 268 rfl ?_
                      refine ww_aload_n C 2 dX4_says_268 rfl rfl 269 rfl ?_
                      refine ww_getS C cl_X4 (obText hb hn) 5 (by decide) rfl (b + 4) (so_text hb 5 4 (by decide)) w_300 dX4_says_269 272 rfl ?_
                      refine ww_iload C 0 dX4_says_272 rfl 274 rfl ?_
                      refine ww_iconst C (1 : Int32) dX4_says_274 (by decide) 275 rfl ?_
                      refine ww_isub C dX4_says_275 276 rfl ?_
                      refine ww_iald C (iaText (q := b) hb hn 4 40 (by decide)) dX4_says_276 h 277 rfl (fun h => ?_)
                      refine ww_aload_n C 2 dX4_says_277 rfl rfl 278 rfl ?_
                      refine ww_getS C cl_X4 (obText hb hn) 5 (by decide) rfl (b + 4) (so_text hb 5 4 (by decide)) w_300 dX4_says_278 281 rfl ?_
                      refine ww_iload C 0 dX4_says_281 rfl 283 rfl ?_
                      refine ww_iald C (iaText (q := b) hb hn 4 40 (by decide)) dX4_says_283 h 284 rfl (fun h => ?_)
                      refine ww_callSi C (As := [.int v150, .int (u220.1 (b + 4) (v255 - (1 : Int32)).toNatClampNeg), .int (u220.1 (b + 4) (v255).toNatClampNeg)]) (st := [.int (v255 - (1 : Int32)), .ref (ad (b + 4))]) h (fun _ _ hF => k_X4_joined hn hF) w_103 cm_X4_joined (by decide) (by decide) rfl rfl (Nat.le_of_ble_eq_true rfl) dX4_says_284 287 rfl (fun v257 u256 h => ?_)
                      refine ww_iast C (iaText (q := b) hb hn 4 40 (by decide)) dX4_says_287 h 288 rfl (fun u258 h => ?_)
                      refine ww_iinc C 10 (1 : Int32) (by decide) (fun v259 => [(9, .int v259), (8, .int v255), (10, .int v150), (0, .ref (ad b)), (1, .int a1), (2, .int a2), (3, .int a3), (4, .int a4), (5, .int a5), (6, .int a6), (7, .int a7)]) dX4_says_288 rfl (by decide) (fun _ => rfl) h 291 rfl (fun v259 h => ?_)
                      refine ww_goto C 78 dX4_says_291 (by decide) ?_
                      exact ww_sub [3, 4, 5, 6, 7, 8, 9, 10, 1, 0] rfl (ih _ _ _ h)
                  · refine ww_iload C 9 dX4_says_222 rfl 224 rfl ?_
                    refine ww_if_le C 249 dX4_says_224 (by decide) h 227 rfl (fun h => ?_) (fun h => ?_)
                    · refine ww_iload C 9 dX4_says_249 rfl 251 rfl ?_
                      refine ww_iconst C (1 : Int32) dX4_says_251 (by decide) 252 rfl ?_
                      refine ww_icmp_le C 288 dX4_says_252 (by decide) h 255 rfl (fun h => ?_) (fun h => ?_)
                      · refine ww_iinc C 10 (1 : Int32) (by decide) (fun v260 => [(9, .int v260), (10, .int v150), (0, .ref (ad b)), (1, .int a1), (2, .int a2), (3, .int a3), (4, .int a4), (5, .int a5), (6, .int a6), (7, .int a7), (8, .int x8)]) dX4_says_288 rfl (by decide) (fun _ => rfl) h 291 rfl (fun v260 h => ?_)
                        refine ww_goto C 78 dX4_says_291 (by decide) ?_
                        exact ww_sub [2, 3, 4, 5, 6, 7, 8, 9, 10, 0] rfl (ih _ _ _ h)
                      · refine ww_iinc C 9 (-1 : Int32) (by decide) (fun v261 => [(8, .int v261), (10, .int v150), (0, .ref (ad b)), (1, .int a1), (2, .int a2), (3, .int a3), (4, .int a4), (5, .int a5), (6, .int a6), (7, .int a7), (9, .int x9)]) dX4_says_255 rfl (by decide) (fun _ => rfl) h 258 rfl (fun v261 h => ?_)
                        refine ww_aload_n C 2 dX4_says_258 rfl rfl 259 rfl ?_
                        refine ww_getS C cl_X4 (obText hb hn) 5 (by decide) rfl (b + 4) (so_text hb 5 4 (by decide)) w_300 dX4_says_259 262 rfl ?_
                        refine ww_iload C 0 dX4_says_262 rfl 264 rfl ?_
                        refine ww_iconst C (1 : Int32) dX4_says_264 (by decide) 265 rfl ?_
                        refine ww_isub C dX4_says_265 266 rfl ?_
                        refine ww_iload C 1 dX4_says_266 rfl 268 rfl ?_
                        refine ww_aload_n C 2 dX4_says_268 rfl rfl 269 rfl ?_
                        refine ww_getS C cl_X4 (obText hb hn) 5 (by decide) rfl (b + 4) (so_text hb 5 4 (by decide)) w_300 dX4_says_269 272 rfl ?_
                        refine ww_iload C 0 dX4_says_272 rfl 274 rfl ?_
                        refine ww_iconst C (1 : Int32) dX4_says_274 (by decide) 275 rfl ?_
                        refine ww_isub C dX4_says_275 276 rfl ?_
                        refine ww_iald C (iaText (q := b) hb hn 4 40 (by decide)) dX4_says_276 h 277 rfl (fun h => ?_)
                        refine ww_aload_n C 2 dX4_says_277 rfl rfl 278 rfl ?_
                        refine ww_getS C cl_X4 (obText hb hn) 5 (by decide) rfl (b + 4) (so_text hb 5 4 (by decide)) w_300 dX4_says_278 281 rfl ?_
                        refine ww_iload C 0 dX4_says_281 rfl 283 rfl ?_
                        refine ww_iald C (iaText (q := b) hb hn 4 40 (by decide)) dX4_says_283 h 284 rfl (fun h => ?_)
                        refine ww_callSi C (As := [.int v150, .int (u220.1 (b + 4) (v261 - (1 : Int32)).toNatClampNeg), .int (u220.1 (b + 4) (v261).toNatClampNeg)]) (st := [.int (v261 - (1 : Int32)), .ref (ad (b + 4))]) h (fun _ _ hF => k_X4_joined hn hF) w_103 cm_X4_joined (by decide) (by decide) rfl rfl (Nat.le_of_ble_eq_true rfl) dX4_says_284 287 rfl (fun v263 u262 h => ?_)
                        refine ww_iast C (iaText (q := b) hb hn 4 40 (by decide)) dX4_says_287 h 288 rfl (fun u264 h => ?_)
                        refine ww_iinc C 10 (1 : Int32) (by decide) (fun v265 => [(9, .int v265), (8, .int v261), (10, .int v150), (0, .ref (ad b)), (1, .int a1), (2, .int a2), (3, .int a3), (4, .int a4), (5, .int a5), (6, .int a6), (7, .int a7)]) dX4_says_288 rfl (by decide) (fun _ => rfl) h 291 rfl (fun v265 h => ?_)
                        refine ww_goto C 78 dX4_says_291 (by decide) ?_
                        exact ww_sub [3, 4, 5, 6, 7, 8, 9, 10, 1, 0] rfl (ih _ _ _ h)
                    · refine ww_aload_n C 1 dX4_says_227 rfl rfl 228 rfl ?_
                      refine ww_getS C cl_X4 (obText hb hn) 5 (by decide) rfl (b + 4) (so_text hb 5 4 (by decide)) w_300 dX4_says_228 231 rfl ?_
                      refine ww_iload C 9 dX4_says_231 rfl 233 rfl ?_
                      refine ww_iconst C (1 : Int32) dX4_says_233 (by decide) 234 rfl ?_
                      refine ww_isub C dX4_says_234 235 rfl ?_
                      refine ww_aload_n C 1 dX4_says_235 rfl rfl 236 rfl ?_
                      refine ww_getS C cl_X4 (obText hb hn) 5 (by decide) rfl (b + 4) (so_text hb 5 4 (by decide)) w_300 dX4_says_236 239 rfl ?_
                      refine ww_iload C 9 dX4_says_239 rfl 241 rfl ?_
                      refine ww_iconst C (1 : Int32) dX4_says_241 (by decide) 242 rfl ?_
                      refine ww_isub C dX4_says_242 243 rfl ?_
                      refine ww_iald C (iaText (q := b) hb hn 4 40 (by decide)) dX4_says_243 h 244 rfl (fun h => ?_)
                      refine ww_ineg C dX4_says_244 245 rfl ?_
                      refine ww_iast C (iaText (q := b) hb hn 4 40 (by decide)) dX4_says_245 h 246 rfl (fun u266 h => ?_)
                      refine ww_goto C 288 dX4_says_246 (by decide) ?_
                      refine ww_iinc C 10 (1 : Int32) (by decide) (fun v267 => [(9, .int v267), (10, .int v150), (0, .ref (ad b)), (1, .int a1), (2, .int a2), (3, .int a3), (4, .int a4), (5, .int a5), (6, .int a6), (7, .int a7), (8, .int x8)]) dX4_says_288 rfl (by decide) (fun _ => rfl) h 291 rfl (fun v267 h => ?_)
                      refine ww_goto C 78 dX4_says_291 (by decide) ?_
                      exact ww_sub [2, 3, 4, 5, 6, 7, 8, 9, 10, 0] rfl (ih _ _ _ h)
                · refine ww_iload C 9 dX4_says_180 rfl 182 rfl ?_
                  refine ww_if_le C 214 dX4_says_182 (by decide) h 185 rfl (fun h => ?_) (fun h => ?_)
                  · refine ww_iload C 0 dX4_says_214 rfl 216 rfl ?_
                    refine ww_sipush C (259 : Int32) dX4_says_216 (by decide) 219 rfl ?_
                    refine ww_icmp_ne C 249 dX4_says_219 (by decide) h 222 rfl (fun h => ?_) (fun h => ?_)
                    · refine ww_iload C 9 dX4_says_249 rfl 251 rfl ?_
                      refine ww_iconst C (1 : Int32) dX4_says_251 (by decide) 252 rfl ?_
                      refine ww_icmp_le C 288 dX4_says_252 (by decide) h 255 rfl (fun h => ?_) (fun h => ?_)
                      · refine ww_iinc C 10 (1 : Int32) (by decide) (fun v268 => [(9, .int v268), (10, .int v150), (0, .ref (ad b)), (1, .int a1), (2, .int a2), (3, .int a3), (4, .int a4), (5, .int a5), (6, .int a6), (7, .int a7), (8, .int x8)]) dX4_says_288 rfl (by decide) (fun _ => rfl) h 291 rfl (fun v268 h => ?_)
                        refine ww_goto C 78 dX4_says_291 (by decide) ?_
                        exact ww_sub [2, 3, 4, 5, 6, 7, 8, 9, 10, 0] rfl (ih _ _ _ h)
                      · refine ww_iinc C 9 (-1 : Int32) (by decide) (fun v269 => [(8, .int v269), (10, .int v150), (0, .ref (ad b)), (1, .int a1), (2, .int a2), (3, .int a3), (4, .int a4), (5, .int a5), (6, .int a6), (7, .int a7), (9, .int x9)]) dX4_says_255 rfl (by decide) (fun _ => rfl) h 258 rfl (fun v269 h => ?_)
                        refine ww_aload_n C 2 dX4_says_258 rfl rfl 259 rfl ?_
                        refine ww_getS C cl_X4 (obText hb hn) 5 (by decide) rfl (b + 4) (so_text hb 5 4 (by decide)) w_300 dX4_says_259 262 rfl ?_
                        refine ww_iload C 0 dX4_says_262 rfl 264 rfl ?_
                        refine ww_iconst C (1 : Int32) dX4_says_264 (by decide) 265 rfl ?_
                        refine ww_isub C dX4_says_265 266 rfl ?_
                        refine ww_iload C 1 dX4_says_266 rfl 268 rfl ?_
                        refine ww_aload_n C 2 dX4_says_268 rfl rfl 269 rfl ?_
                        refine ww_getS C cl_X4 (obText hb hn) 5 (by decide) rfl (b + 4) (so_text hb 5 4 (by decide)) w_300 dX4_says_269 272 rfl ?_
                        refine ww_iload C 0 dX4_says_272 rfl 274 rfl ?_
                        refine ww_iconst C (1 : Int32) dX4_says_274 (by decide) 275 rfl ?_
                        refine ww_isub C dX4_says_275 276 rfl ?_
                        refine ww_iald C (iaText (q := b) hb hn 4 40 (by decide)) dX4_says_276 h 277 rfl (fun h => ?_)
                        refine ww_aload_n C 2 dX4_says_277 rfl rfl 278 rfl ?_
                        refine ww_getS C cl_X4 (obText hb hn) 5 (by decide) rfl (b + 4) (so_text hb 5 4 (by decide)) w_300 dX4_says_278 281 rfl ?_
                        refine ww_iload C 0 dX4_says_281 rfl 283 rfl ?_
                        refine ww_iald C (iaText (q := b) hb hn 4 40 (by decide)) dX4_says_283 h 284 rfl (fun h => ?_)
                        refine ww_callSi C (As := [.int v150, .int (u220.1 (b + 4) (v269 - (1 : Int32)).toNatClampNeg), .int (u220.1 (b + 4) (v269).toNatClampNeg)]) (st := [.int (v269 - (1 : Int32)), .ref (ad (b + 4))]) h (fun _ _ hF => k_X4_joined hn hF) w_103 cm_X4_joined (by decide) (by decide) rfl rfl (Nat.le_of_ble_eq_true rfl) dX4_says_284 287 rfl (fun v271 u270 h => ?_)
                        refine ww_iast C (iaText (q := b) hb hn 4 40 (by decide)) dX4_says_287 h 288 rfl (fun u272 h => ?_)
                        refine ww_iinc C 10 (1 : Int32) (by decide) (fun v273 => [(9, .int v273), (8, .int v269), (10, .int v150), (0, .ref (ad b)), (1, .int a1), (2, .int a2), (3, .int a3), (4, .int a4), (5, .int a5), (6, .int a6), (7, .int a7)]) dX4_says_288 rfl (by decide) (fun _ => rfl) h 291 rfl (fun v273 h => ?_)
                        refine ww_goto C 78 dX4_says_291 (by decide) ?_
                        exact ww_sub [3, 4, 5, 6, 7, 8, 9, 10, 1, 0] rfl (ih _ _ _ h)
                    · refine ww_iload C 9 dX4_says_222 rfl 224 rfl ?_
                      refine ww_if_le C 249 dX4_says_224 (by decide) h 227 rfl (fun h => ?_) (fun h => ?_)
                      · refine ww_iload C 9 dX4_says_249 rfl 251 rfl ?_
                        refine ww_iconst C (1 : Int32) dX4_says_251 (by decide) 252 rfl ?_
                        refine ww_icmp_le C 288 dX4_says_252 (by decide) h 255 rfl (fun h => ?_) (fun h => ?_)
                        · refine ww_iinc C 10 (1 : Int32) (by decide) (fun v274 => [(9, .int v274), (10, .int v150), (0, .ref (ad b)), (1, .int a1), (2, .int a2), (3, .int a3), (4, .int a4), (5, .int a5), (6, .int a6), (7, .int a7), (8, .int x8)]) dX4_says_288 rfl (by decide) (fun _ => rfl) h 291 rfl (fun v274 h => ?_)
                          refine ww_goto C 78 dX4_says_291 (by decide) ?_
                          exact ww_sub [2, 3, 4, 5, 6, 7, 8, 9, 10, 0] rfl (ih _ _ _ h)
                        · refine ww_iinc C 9 (-1 : Int32) (by decide) (fun v275 => [(8, .int v275), (10, .int v150), (0, .ref (ad b)), (1, .int a1), (2, .int a2), (3, .int a3), (4, .int a4), (5, .int a5), (6, .int a6), (7, .int a7), (9, .int x9)]) dX4_says_255 rfl (by decide) (fun _ => rfl) h 258 rfl (fun v275 h => ?_)
                          refine ww_aload_n C 2 dX4_says_258 rfl rfl 259 rfl ?_
                          refine ww_getS C cl_X4 (obText hb hn) 5 (by decide) rfl (b + 4) (so_text hb 5 4 (by decide)) w_300 dX4_says_259 262 rfl ?_
                          refine ww_iload C 0 dX4_says_262 rfl 264 rfl ?_
                          refine ww_iconst C (1 : Int32) dX4_says_264 (by decide) 265 rfl ?_
                          refine ww_isub C dX4_says_265 266 rfl ?_
                          refine ww_iload C 1 dX4_says_266 rfl 268 rfl ?_
                          refine ww_aload_n C 2 dX4_says_268 rfl rfl 269 rfl ?_
                          refine ww_getS C cl_X4 (obText hb hn) 5 (by decide) rfl (b + 4) (so_text hb 5 4 (by decide)) w_300 dX4_says_269 272 rfl ?_
                          refine ww_iload C 0 dX4_says_272 rfl 274 rfl ?_
                          refine ww_iconst C (1 : Int32) dX4_says_274 (by decide) 275 rfl ?_
                          refine ww_isub C dX4_says_275 276 rfl ?_
                          refine ww_iald C (iaText (q := b) hb hn 4 40 (by decide)) dX4_says_276 h 277 rfl (fun h => ?_)
                          refine ww_aload_n C 2 dX4_says_277 rfl rfl 278 rfl ?_
                          refine ww_getS C cl_X4 (obText hb hn) 5 (by decide) rfl (b + 4) (so_text hb 5 4 (by decide)) w_300 dX4_says_278 281 rfl ?_
                          refine ww_iload C 0 dX4_says_281 rfl 283 rfl ?_
                          refine ww_iald C (iaText (q := b) hb hn 4 40 (by decide)) dX4_says_283 h 284 rfl (fun h => ?_)
                          refine ww_callSi C (As := [.int v150, .int (u220.1 (b + 4) (v275 - (1 : Int32)).toNatClampNeg), .int (u220.1 (b + 4) (v275).toNatClampNeg)]) (st := [.int (v275 - (1 : Int32)), .ref (ad (b + 4))]) h (fun _ _ hF => k_X4_joined hn hF) w_103 cm_X4_joined (by decide) (by decide) rfl rfl (Nat.le_of_ble_eq_true rfl) dX4_says_284 287 rfl (fun v277 u276 h => ?_)
                          refine ww_iast C (iaText (q := b) hb hn 4 40 (by decide)) dX4_says_287 h 288 rfl (fun u278 h => ?_)
                          refine ww_iinc C 10 (1 : Int32) (by decide) (fun v279 => [(9, .int v279), (8, .int v275), (10, .int v150), (0, .ref (ad b)), (1, .int a1), (2, .int a2), (3, .int a3), (4, .int a4), (5, .int a5), (6, .int a6), (7, .int a7)]) dX4_says_288 rfl (by decide) (fun _ => rfl) h 291 rfl (fun v279 h => ?_)
                          refine ww_goto C 78 dX4_says_291 (by decide) ?_
                          exact ww_sub [3, 4, 5, 6, 7, 8, 9, 10, 1, 0] rfl (ih _ _ _ h)
                      · refine ww_aload_n C 1 dX4_says_227 rfl rfl 228 rfl ?_
                        refine ww_getS C cl_X4 (obText hb hn) 5 (by decide) rfl (b + 4) (so_text hb 5 4 (by decide)) w_300 dX4_says_228 231 rfl ?_
                        refine ww_iload C 9 dX4_says_231 rfl 233 rfl ?_
                        refine ww_iconst C (1 : Int32) dX4_says_233 (by decide) 234 rfl ?_
                        refine ww_isub C dX4_says_234 235 rfl ?_
                        refine ww_aload_n C 1 dX4_says_235 rfl rfl 236 rfl ?_
                        refine ww_getS C cl_X4 (obText hb hn) 5 (by decide) rfl (b + 4) (so_text hb 5 4 (by decide)) w_300 dX4_says_236 239 rfl ?_
                        refine ww_iload C 9 dX4_says_239 rfl 241 rfl ?_
                        refine ww_iconst C (1 : Int32) dX4_says_241 (by decide) 242 rfl ?_
                        refine ww_isub C dX4_says_242 243 rfl ?_
                        refine ww_iald C (iaText (q := b) hb hn 4 40 (by decide)) dX4_says_243 h 244 rfl (fun h => ?_)
                        refine ww_ineg C dX4_says_244 245 rfl ?_
                        refine ww_iast C (iaText (q := b) hb hn 4 40 (by decide)) dX4_says_245 h 246 rfl (fun u280 h => ?_)
                        refine ww_goto C 288 dX4_says_246 (by decide) ?_
                        refine ww_iinc C 10 (1 : Int32) (by decide) (fun v281 => [(9, .int v281), (10, .int v150), (0, .ref (ad b)), (1, .int a1), (2, .int a2), (3, .int a3), (4, .int a4), (5, .int a5), (6, .int a6), (7, .int a7), (8, .int x8)]) dX4_says_288 rfl (by decide) (fun _ => rfl) h 291 rfl (fun v281 h => ?_)
                        refine ww_goto C 78 dX4_says_291 (by decide) ?_
                        exact ww_sub [2, 3, 4, 5, 6, 7, 8, 9, 10, 0] rfl (ih _ _ _ h)
                  · refine ww_aload_n C 1 dX4_says_185 rfl rfl 186 rfl ?_
                    refine ww_getS C cl_X4 (obText hb hn) 5 (by decide) rfl (b + 4) (so_text hb 5 4 (by decide)) w_300 dX4_says_186 189 rfl ?_
                    refine ww_iload C 9 dX4_says_189 rfl 191 rfl ?_
                    refine ww_iconst C (1 : Int32) dX4_says_191 (by decide) 192 rfl ?_
                    refine ww_isub C dX4_says_192 193 rfl ?_
                    refine ww_aload_n C 1 dX4_says_193 rfl rfl 194 rfl ?_
                    refine ww_getS C cl_X4 (obText hb hn) 5 (by decide) rfl (b + 4) (so_text hb 5 4 (by decide)) w_300 dX4_says_194 197 rfl ?_
                    refine ww_iload C 9 dX4_says_197 rfl 199 rfl ?_
                    refine ww_iconst C (1 : Int32) dX4_says_199 (by decide) 200 rfl ?_
                    refine ww_isub C dX4_says_200 201 rfl ?_
                    refine ww_iald C (iaText (q := b) hb hn 4 40 (by decide)) dX4_says_201 h 202 rfl (fun h => ?_)
                    refine ww_if_ne C 209 dX4_says_202 (by decide) h 205 rfl (fun h => ?_) (fun h => ?_)
                    · refine ww_iconst C (0 : Int32) dX4_says_209 (by decide) 210 rfl ?_
                      refine ww_iast C (iaText (q := b) hb hn 4 40 (by decide)) dX4_says_210 h 211 rfl (fun u282 h => ?_)
                      refine ww_goto C 288 dX4_says_211 (by decide) ?_
                      refine ww_iinc C 10 (1 : Int32) (by decide) (fun v283 => [(9, .int v283), (10, .int v150), (0, .ref (ad b)), (1, .int a1), (2, .int a2), (3, .int a3), (4, .int a4), (5, .int a5), (6, .int a6), (7, .int a7), (8, .int x8)]) dX4_says_288 rfl (by decide) (fun _ => rfl) h 291 rfl (fun v283 h => ?_)
                      refine ww_goto C 78 dX4_says_291 (by decide) ?_
                      exact ww_sub [2, 3, 4, 5, 6, 7, 8, 9, 10, 0] rfl (ih _ _ _ h)
                    · refine ww_iconst C (1 : Int32) dX4_says_205 (by decide) 206 rfl ?_
                      refine ww_goto C 210 dX4_says_206 (by decide) ?_
                      refine ww_iast C (iaText (q := b) hb hn 4 40 (by decide)) dX4_says_210 h 211 rfl (fun u284 h => ?_)
                      refine ww_goto C 288 dX4_says_211 (by decide) ?_
                      refine ww_iinc C 10 (1 : Int32) (by decide) (fun v285 => [(9, .int v285), (10, .int v150), (0, .ref (ad b)), (1, .int a1), (2, .int a2), (3, .int a3), (4, .int a4), (5, .int a5), (6, .int a6), (7, .int a7), (8, .int x8)]) dX4_says_288 rfl (by decide) (fun _ => rfl) h 291 rfl (fun v285 h => ?_)
                      refine ww_goto C 78 dX4_says_291 (by decide) ?_
                      exact ww_sub [2, 3, 4, 5, 6, 7, 8, 9, 10, 0] rfl (ih _ _ _ h)
              · refine ww_aload_n C 1 dX4_says_148 rfl rfl 149 rfl ?_
                refine ww_getS C cl_X4 (obText hb hn) 5 (by decide) rfl (b + 4) (so_text hb 5 4 (by decide)) w_300 dX4_says_149 152 rfl ?_
                refine ww_iload C 9 dX4_says_152 rfl 154 rfl ?_
                refine ww_aload_n C 1 dX4_says_154 rfl rfl 155 rfl ?_
                refine ww_getS C cl_X4 (obText hb hn) 4 (by decide) rfl (b + 3) (so_text hb 4 3 (by decide)) w_299 dX4_says_155 158 rfl ?_
                refine ww_iload C 0 dX4_says_158 rfl 160 rfl ?_
                refine ww_sipush C (266 : Int32) dX4_says_160 (by decide) 163 rfl ?_
                refine ww_isub C dX4_says_163 164 rfl ?_
                refine ww_iald C (iaText (q := b) hb hn 3 6 (by decide)) dX4_says_164 h 165 rfl (fun h => ?_)
                refine ww_iast C (iaText (q := b) hb hn 4 40 (by decide)) dX4_says_165 h 166 rfl (fun u286 h => ?_)
                refine ww_iinc C 9 (1 : Int32) (by decide) (fun v287 => [(8, .int v287), (10, .int v150), (0, .ref (ad b)), (1, .int a1), (2, .int a2), (3, .int a3), (4, .int a4), (5, .int a5), (6, .int a6), (7, .int a7), (9, .int x9)]) dX4_says_166 rfl (by decide) (fun _ => rfl) h 169 rfl (fun v287 h => ?_)
                refine ww_goto C 288 dX4_says_169 (by decide) ?_
                refine ww_iinc C 10 (1 : Int32) (by decide) (fun v288 => [(9, .int v288), (8, .int v287), (10, .int v150), (0, .ref (ad b)), (1, .int a1), (2, .int a2), (3, .int a3), (4, .int a4), (5, .int a5), (6, .int a6), (7, .int a7)]) dX4_says_288 rfl (by decide) (fun _ => rfl) h 291 rfl (fun v288 h => ?_)
                refine ww_goto C 78 dX4_says_291 (by decide) ?_
                exact ww_sub [3, 4, 5, 6, 7, 8, 9, 10, 1, 0] rfl (ih _ _ _ h)
          · refine ww_aload_n C 1 dX4_says_114 rfl rfl 115 rfl ?_
            refine ww_getS C cl_X4 (obText hb hn) 5 (by decide) rfl (b + 4) (so_text hb 5 4 (by decide)) w_300 dX4_says_115 118 rfl ?_
            refine ww_iload C 9 dX4_says_118 rfl 120 rfl ?_
            refine ww_iload C 0 dX4_says_120 rfl 122 rfl ?_
            refine ww_ineg C dX4_says_122 123 rfl ?_
            refine ww_iast C (iaText (q := b) hb hn 4 40 (by decide)) dX4_says_123 h 124 rfl (fun u289 h => ?_)
            refine ww_iinc C 9 (1 : Int32) (by decide) (fun v290 => [(8, .int v290), (10, .int v150), (0, .ref (ad b)), (1, .int a1), (2, .int a2), (3, .int a3), (4, .int a4), (5, .int a5), (6, .int a6), (7, .int a7), (9, .int x9)]) dX4_says_124 rfl (by decide) (fun _ => rfl) h 127 rfl (fun v290 h => ?_)
            refine ww_goto C 288 dX4_says_127 (by decide) ?_
            refine ww_iinc C 10 (1 : Int32) (by decide) (fun v291 => [(9, .int v291), (8, .int v290), (10, .int v150), (0, .ref (ad b)), (1, .int a1), (2, .int a2), (3, .int a3), (4, .int a4), (5, .int a5), (6, .int a6), (7, .int a7)]) dX4_says_288 rfl (by decide) (fun _ => rfl) h 291 rfl (fun v291 h => ?_)
            refine ww_goto C 78 dX4_says_291 (by decide) ?_
            exact ww_sub [3, 4, 5, 6, 7, 8, 9, 10, 1, 0] rfl (ih _ _ _ h)
  rw [X4_says] at h
  refine ww_aload_n C 0 dX4_says_0 rfl rfl 1 rfl ?_
  refine ww_getS C cl_X4 (obText hb hn) 4 (by decide) rfl (b + 3) (so_text hb 4 3 (by decide)) w_299 dX4_says_1 4 rfl ?_
  refine ww_iconst C (0 : Int32) dX4_says_4 (by decide) 5 rfl ?_
  refine ww_iload_n C 2 dX4_says_5 rfl rfl 6 rfl ?_
  refine ww_iast C (iaText (q := b) hb hn 3 6 (by decide)) dX4_says_6 h 7 rfl (fun u292 h => ?_)
  refine ww_aload_n C 0 dX4_says_7 rfl rfl 8 rfl ?_
  refine ww_getS C cl_X4 (obText hb hn) 4 (by decide) rfl (b + 3) (so_text hb 4 3 (by decide)) w_299 dX4_says_8 11 rfl ?_
  refine ww_iconst C (1 : Int32) dX4_says_11 (by decide) 12 rfl ?_
  refine ww_iload_n C 3 dX4_says_12 rfl rfl 13 rfl ?_
  refine ww_iast C (iaText (q := b) hb hn 3 6 (by decide)) dX4_says_13 h 14 rfl (fun u293 h => ?_)
  refine ww_aload_n C 0 dX4_says_14 rfl rfl 15 rfl ?_
  refine ww_getS C cl_X4 (obText hb hn) 4 (by decide) rfl (b + 3) (so_text hb 4 3 (by decide)) w_299 dX4_says_15 18 rfl ?_
  refine ww_iconst C (2 : Int32) dX4_says_18 (by decide) 19 rfl ?_
  refine ww_iload C 4 dX4_says_19 rfl 21 rfl ?_
  refine ww_iast C (iaText (q := b) hb hn 3 6 (by decide)) dX4_says_21 h 22 rfl (fun u294 h => ?_)
  refine ww_aload_n C 0 dX4_says_22 rfl rfl 23 rfl ?_
  refine ww_getS C cl_X4 (obText hb hn) 4 (by decide) rfl (b + 3) (so_text hb 4 3 (by decide)) w_299 dX4_says_23 26 rfl ?_
  refine ww_iconst C (3 : Int32) dX4_says_26 (by decide) 27 rfl ?_
  refine ww_iload C 5 dX4_says_27 rfl 29 rfl ?_
  refine ww_iast C (iaText (q := b) hb hn 3 6 (by decide)) dX4_says_29 h 30 rfl (fun u295 h => ?_)
  refine ww_aload_n C 0 dX4_says_30 rfl rfl 31 rfl ?_
  refine ww_getS C cl_X4 (obText hb hn) 4 (by decide) rfl (b + 3) (so_text hb 4 3 (by decide)) w_299 dX4_says_31 34 rfl ?_
  refine ww_iconst C (4 : Int32) dX4_says_34 (by decide) 35 rfl ?_
  refine ww_iload C 6 dX4_says_35 rfl 37 rfl ?_
  refine ww_iast C (iaText (q := b) hb hn 3 6 (by decide)) dX4_says_37 h 38 rfl (fun u296 h => ?_)
  refine ww_aload_n C 0 dX4_says_38 rfl rfl 39 rfl ?_
  refine ww_getS C cl_X4 (obText hb hn) 4 (by decide) rfl (b + 3) (so_text hb 4 3 (by decide)) w_299 dX4_says_39 42 rfl ?_
  refine ww_iconst C (5 : Int32) dX4_says_42 (by decide) 43 rfl ?_
  refine ww_iload C 7 dX4_says_43 rfl 45 rfl ?_
  refine ww_iast C (iaText (q := b) hb hn 3 6 (by decide)) dX4_says_45 h 46 rfl (fun u297 h => ?_)
  refine ww_iload_n C 1 dX4_says_46 rfl rfl 47 rfl ?_
  refine ww_if_lt C 55 dX4_says_47 (by decide) h 50 rfl (fun h => ?_) (fun h => ?_)
  · refine ww_iconst C (0 : Int32) dX4_says_55 (by decide) 56 rfl ?_
    exact ww_iret C dX4_says_56 hr h
  · refine ww_iload_n C 1 dX4_says_50 rfl rfl 51 rfl ?_
    refine ww_iconst C (2 : Int32) dX4_says_51 (by decide) 52 rfl ?_
    refine ww_icmp_le C 57 dX4_says_52 (by decide) h 55 rfl (fun h => ?_) (fun h => ?_)
    · refine ww_iconst C (0 : Int32) dX4_says_57 (by decide) 58 rfl ?_
      refine ww_istore C [(8, .int (0 : Int32)), (0, .ref (ad b)), (1, .int a1), (2, .int a2), (3, .int a3), (4, .int a4), (5, .int a5), (6, .int a6), (7, .int a7)] dX4_says_58 (by decide) rfl 60 rfl ?_
      refine ww_iload_n C 2 dX4_says_60 rfl rfl 61 rfl ?_
      refine ww_if_ne C 68 dX4_says_61 (by decide) h 64 rfl (fun h => ?_) (fun h => ?_)
      · refine ww_aload_n C 1 dX4_says_68 rfl rfl 69 rfl ?_
        refine ww_getS C cl_X4 (obText hb hn) 3 (by decide) rfl (b + 2) (so_text hb 3 2 (by decide)) w_298 dX4_says_69 72 rfl ?_
        refine ww_iload_n C 2 dX4_says_72 rfl rfl 73 rfl ?_
        refine ww_iconst C (1 : Int32) dX4_says_73 (by decide) 74 rfl ?_
        refine ww_isub C dX4_says_74 75 rfl ?_
        refine ww_iald C (iaText (q := b) hb hn 2 3 (by decide)) dX4_says_75 h 76 rfl (fun h => ?_)
        refine ww_bi h (fun v298 h => ?_)
        refine ww_istore C [(9, .int v298), (8, .int (0 : Int32)), (0, .ref (ad b)), (1, .int a1), (2, .int a2), (3, .int a3), (4, .int a4), (5, .int a5), (6, .int a6), (7, .int a7)] dX4_says_76 (by decide) rfl 78 rfl ?_
        exact ww_sub [2, 3, 4, 5, 6, 7, 8, 9, 1, 0] rfl (L78h N _ _ _ h)
      · refine ww_iconst C (0 : Int32) dX4_says_64 (by decide) 65 rfl ?_
        refine ww_goto C 76 dX4_says_65 (by decide) ?_
        refine ww_istore C [(9, .int (0 : Int32)), (8, .int (0 : Int32)), (0, .ref (ad b)), (1, .int a1), (2, .int a2), (3, .int a3), (4, .int a4), (5, .int a5), (6, .int a6), (7, .int a7)] dX4_says_76 (by decide) rfl 78 rfl ?_
        exact ww_sub [2, 3, 4, 5, 6, 7, 8, 9, 1, 0] rfl (L78h N _ _ _ h)
    · refine ww_iconst C (0 : Int32) dX4_says_55 (by decide) 56 rfl ?_
      exact ww_iret C dX4_says_56 hr h

