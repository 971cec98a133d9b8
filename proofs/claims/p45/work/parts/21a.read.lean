/-! THE SCRIPT READ; a String that was made, read by length and charAt -/
theorem i32_lep {a b : Nat} (h1 : a ≤ b) (h : b < 2147483648) : i32 a ≤ i32 b := by rw [i32_le (by omega) h]; exact h1
theorem i32_nlep {a b : Nat} (h1 : a < b) (h : b < 2147483648) : ¬ i32 b ≤ i32 a := by rw [i32_le h (by omega)]; omega
theorem and255' : ∀ c, c < 128 → i32 c &&& 255 = i32 c ∧ ((i32 c).toUInt32 % 65536).toInt32 = i32 c := by decide +kernel
theorem and255 {x : Int32} (h : x = i32 x.toNatClampNeg ∧ x.toNatClampNeg < 128) : x &&& (255 : Int32) = x := by
  have := (and255' _ h.2).1
  rw [← h.1] at this; exact this
theorem c16 {x : Int32} (h : x = i32 x.toNatClampNeg ∧ x.toNatClampNeg < 128) : (x.toUInt32 % 65536).toInt32 = x := by
  have := (and255' _ h.2).2
  rw [← h.1] at this; exact this
theorem nar_ch' : ∀ c, c < 128 → narrow .char (.int (i32 c)) = .int (i32 c) := by decide +kernel
theorem nar_ch {x : Int32} (h : x = i32 x.toNatClampNeg ∧ x.toNatClampNeg < 128) : narrow .char (.int x) = .int x := by
  rw [h.1]; exact nar_ch' _ h.2
theorem zw_343 : Cond.methodLink RJ0 492 yJ0_isLatin1_aae02 ∈ TT := TT_of (i := 343) (by decide +kernel) rfl
theorem zw_347 : Cond.methodLink RJ0 495 yJ1_charAt_3b067 ∈ TT := TT_of (i := 347) (by decide +kernel) rfl
theorem zw_350 : Cond.methodLink RJ1 9 yJ0_checkIndex_df160 ∈ TT := TT_of (i := 350) (by decide +kernel) rfl
theorem zw_353 : Cond.fieldLink RJ0 1053 "jdk/internal/util/Preconditions" "SIOOBE_FORMATTER" "Ljava/util/function/BiFunction;" ∈ TT := TT_of (i := 353) (by decide +kernel) rfl
theorem zw_355 : Cond.methodLink RJ0 1059 yJ3_checkIndex_8e157 ∈ TT := TT_of (i := 355) (by decide +kernel) rfl
theorem zc_V_J0_coder_7d493 : CV "java/lang/String" yJ0_coder_7d493 cJ0_coder_7d493 1 (some .byte) 0 := ⟨TT_of (i := 334) (by decide +kernel) rfl, TT_of (i := 335) (by decide +kernel) rfl, TT_of (i := 22) (by decide +kernel) rfl, TT_of (i := 336) (by decide +kernel) rfl, by decide +kernel⟩
theorem zc_S_J3_checkIndex_8e157 : CS yJ3_checkIndex_8e157 cJ3_checkIndex_8e157 3 (some .int) 3 := ⟨TT_of (i := 356) (by decide +kernel) rfl, TT_of (i := 24) (by decide +kernel) rfl, TT_of (i := 357) (by decide +kernel) rfl, by decide +kernel⟩
theorem zc_S_J0_checkIndex_df160 : CS yJ0_checkIndex_df160 cJ0_checkIndex_df160 2 none 2 := ⟨TT_of (i := 351) (by decide +kernel) rfl, TT_of (i := 22) (by decide +kernel) rfl, TT_of (i := 352) (by decide +kernel) rfl, by decide +kernel⟩
theorem zc_V_J0_isLatin1_aae02 : CV "java/lang/String" yJ0_isLatin1_aae02 cJ0_isLatin1_aae02 1 (some .boolean) 0 := ⟨TT_of (i := 344) (by decide +kernel) rfl, TT_of (i := 345) (by decide +kernel) rfl, TT_of (i := 22) (by decide +kernel) rfl, TT_of (i := 346) (by decide +kernel) rfl, by decide +kernel⟩
theorem zc_S_J1_charAt_3b067 : CS yJ1_charAt_3b067 cJ1_charAt_3b067 2 (some .char) 2 := ⟨TT_of (i := 348) (by decide +kernel) rfl, TT_of (i := 23) (by decide +kernel) rfl, TT_of (i := 349) (by decide +kernel) rfl, by decide +kernel⟩
set_option maxRecDepth 100000 in
set_option maxHeartbeats 4000000 in
theorem c_at {l : Launch} {D : va_G} {tys : List (ClassId × FieldType)} {cB : ClassId} (ht4 : tys[4]? = some (cB, .byte)) {sa : SA} (k : Nat) (hk : k < 1000) (hL : sa.2.2.1 ≤ 260) : CEi l yL_at (wsm yL_at cL_at 2 (some .int)) 1 0 0 D tys sa [] [.ref (sa.1 3), .int (i32 k)] (fun u : Unit => if k < sa.2.2.1 then sa.2.2.2 k else 0) (fun u : Unit => []) := by
  refine ce_of (fun A => QEi D (fun u : Unit => if k < sa.2.2.1 then sa.2.2.2 k else 0) (fun u : Unit => []) A) RL rfl (by decide +kernel) (Nat.le_of_ble_eq_true rfl) rfl ?_
  intro p0 e0 R0 s0_ m0_ args0 below0 meth0 c0_ A0 C hRc hRs hin hr
  by_cases h : k < sa.2.2.1
  · skip
    refine vv_iload_n C 1 dL_at_0 rfl rfl 1 rfl ?_
    refine vv_aload_n C 0 dL_at_1 rfl rfl 2 rfl ?_
    refine vx_slen C (Int32.ofNat sa.2.2.1) rfl dL_at_2 3 rfl ?_
    refine vx_icmp_geF C 12 dL_at_3 (by decide) (i32_nlep (a := k) (b := sa.2.2.1) h (by omega)) 6 rfl ?_
    refine vv_aload_n C 0 dL_at_6 rfl rfl 7 rfl ?_
    refine vv_iload_n C 1 dL_at_7 rfl rfl 8 rfl ?_
    refine vx_sld C (i32_in h (by omega)) (sa.2.2.2 k) (by rw [i32_tn (by omega)]) dL_at_8 9 rfl ?_
    refine vv_goto C 13 dL_at_9 (by decide) ?_
    exact vx_iret C () (if_pos h).symm rfl (by omega) (by omega) dL_at_13 hr
  · skip
    refine vv_iload_n C 1 dL_at_0 rfl rfl 1 rfl ?_
    refine vv_aload_n C 0 dL_at_1 rfl rfl 2 rfl ?_
    refine vx_slen C (Int32.ofNat sa.2.2.1) rfl dL_at_2 3 rfl ?_
    refine vx_icmp_geT C 12 dL_at_3 (by decide) (i32_lep (a := sa.2.2.1) (b := k) (by omega) (by omega)) ?_
    refine vv_iconst C (0 : Int32) dL_at_12 (by decide) 13 rfl ?_
    exact vx_iret C () (if_neg h).symm rfl (by omega) (by omega) dL_at_13 hr

set_option maxRecDepth 100000 in
set_option maxHeartbeats 4000000 in
theorem c_coderW {l : Launch} {D : va_G} {tys : List (ClassId × FieldType)} {cB : ClassId} (ht4 : tys[4]? = some (cB, .byte)) {sa : SA} (t v : Nat) : CEi l yJ0_coder_7d493 (wsm yJ0_coder_7d493 cJ0_coder_7d493 1 (some .byte)) 1 0 0 D tys sa [(t, .inr (0, [.ref v, .int 0, .int 0, .int 0]))] [.ref t] (fun u : Unit => (0 : Int32)) (fun u : Unit => [(t, .inr (0, [.ref v, .int 0, .int 0, .int 0]))]) := by
  refine ce_of (fun A => QEi D (fun u : Unit => (0 : Int32)) (fun u : Unit => [(t, .inr (0, [.ref v, .int 0, .int 0, .int 0]))]) A) RJ0 rfl (by decide +kernel) (Nat.le_of_ble_eq_true rfl) rfl ?_
  intro p0 e0 R0 s0_ m0_ args0 below0 meth0 c0_ A0 C hRc hRs hin hr
  refine vx_comp C zw_337 dJ0_coder_7d493_0 3 rfl ?_
  refine vx_if_eqF C 13 dJ0_coder_7d493_3 (by decide) (by decide) 6 rfl ?_
  refine vv_aload_n C 0 dJ0_coder_7d493_6 rfl rfl 7 rfl ?_
  refine vv_get C clw_J0 0 rfl 1 (by decide) zw_790 (.int 0) rfl dJ0_coder_7d493_7 10 rfl ?_
  refine vv_goto C 14 dJ0_coder_7d493_10 (by decide) ?_
  exact vx_zret C () rfl rfl (by omega) (by omega) dJ0_coder_7d493_14 hr (by first | rfl | exact nar_ch hf)

set_option maxRecDepth 100000 in
set_option maxHeartbeats 4000000 in
theorem c_isLW {l : Launch} {D : va_G} {tys : List (ClassId × FieldType)} {cB : ClassId} (ht4 : tys[4]? = some (cB, .byte)) {sa : SA} (t v : Nat) : CEi l yJ0_isLatin1_aae02 (wsm yJ0_isLatin1_aae02 cJ0_isLatin1_aae02 1 (some .boolean)) 1 0 0 D tys sa [(t, .inr (0, [.ref v, .int 0, .int 0, .int 0]))] [.ref t] (fun u : Unit => (1 : Int32)) (fun u : Unit => [(t, .inr (0, [.ref v, .int 0, .int 0, .int 0]))]) := by
  refine ce_of (fun A => QEi D (fun u : Unit => (1 : Int32)) (fun u : Unit => [(t, .inr (0, [.ref v, .int 0, .int 0, .int 0]))]) A) RJ0 rfl (by decide +kernel) (Nat.le_of_ble_eq_true rfl) rfl ?_
  intro p0 e0 R0 s0_ m0_ args0 below0 meth0 c0_ A0 C hRc hRs hin hr
  refine vx_comp C zw_337 dJ0_isLatin1_aae02_0 3 rfl ?_
  refine vx_if_eqF C 17 dJ0_isLatin1_aae02_3 (by decide) (by decide) 6 rfl ?_
  refine vv_aload_n C 0 dJ0_isLatin1_aae02_6 rfl rfl 7 rfl ?_
  refine vv_get C clw_J0 0 rfl 1 (by decide) zw_790 (.int 0) rfl dJ0_isLatin1_aae02_7 10 rfl ?_
  refine vx_if_neF C 17 dJ0_isLatin1_aae02_10 (by decide) (fun h => h rfl) 13 rfl ?_
  refine vv_iconst C (1 : Int32) dJ0_isLatin1_aae02_13 (by decide) 14 rfl ?_
  refine vv_goto C 18 dJ0_isLatin1_aae02_14 (by decide) ?_
  exact vx_zret C () rfl rfl (by omega) (by omega) dJ0_isLatin1_aae02_18 hr (by first | rfl | exact nar_ch hf)

set_option maxRecDepth 100000 in
set_option maxHeartbeats 4000000 in
theorem c_lenW {l : Launch} {D : va_G} {tys : List (ClassId × FieldType)} {cB : ClassId} (ht4 : tys[4]? = some (cB, .byte)) {sa : SA} (t v n : Nat) (f : Nat → Int32) : CEi l yJ0_length_8abf5 (wsm yJ0_length_8abf5 cJ0_length_8abf5 1 (some .int)) 2 0 0 D tys sa [(t, .inr (0, [.ref v, .int 0, .int 0, .int 0])), (v, .inl (cB, n, .inl f))] [.ref t] (fun u : Unit => i32 n) (fun u : Unit => [(t, .inr (0, [.ref v, .int 0, .int 0, .int 0])), (v, .inl (cB, n, .inl f))]) := by
  refine ce_of (fun A => QEi D (fun u : Unit => i32 n) (fun u : Unit => [(t, .inr (0, [.ref v, .int 0, .int 0, .int 0])), (v, .inl (cB, n, .inl f))]) A) RJ0 rfl (by decide +kernel) (Nat.le_of_ble_eq_true rfl) rfl ?_
  intro p0 e0 R0 s0_ m0_ args0 below0 meth0 c0_ A0 C hRc hRs hin hr
  refine vv_aload_n C 0 dJ0_length_8abf5_0 rfl rfl 1 rfl ?_
  refine vv_get C clw_J0 0 rfl 0 (by decide) zw_789 (.ref v) rfl dJ0_length_8abf5_1 4 rfl ?_
  refine vx_alen C 1 4 ht4 rfl (Int32.ofNat n) rfl dJ0_length_8abf5_4 5 rfl ?_
  refine vv_aload_n C 0 dJ0_length_8abf5_5 rfl rfl 6 rfl ?_
  refine vx_callVi C (As := []) (st := [.int (Int32.ofNat n)]) [0] [1] [(t, .inr (0, [.ref v, .int 0, .int 0, .int 0]))] [(v, .inl (cB, n, .inl f))] rfl rfl (by decide) (by decide) (by decide) 0 clw_J0.1 0 rfl (c_coderW ht4 t v) zw_333 zc_V_J0_coder_7d493 (by decide) (by decide) rfl rfl (Nat.le_of_ble_eq_true rfl) (by rw [hRc]; first | omega | exact Nat.le_of_ble_eq_true rfl) (by rw [hRs]; first | omega | exact Nat.le_of_ble_eq_true rfl) dJ0_length_8abf5_6 (0) (0) rfl rfl 9 rfl (fun _ => ?_)
  refine vv_ws (ws2 := [(v, .inl (cB, n, .inl f)), (t, .inr (0, [.ref v, .int 0, .int 0, .int 0]))]) rfl ?_
  refine vx_ishr C dJ0_length_8abf5_9 10 rfl ?_
  rw [show ((Int32.ofNat n) >>> ((0 : Int32) &&& 31)) = i32 n from sb_shr0 _]
  refine vv_world C [(t, .inr (0, [.ref v, .int 0, .int 0, .int 0])), (v, .inl (cB, n, .inl f))] [1, 0] (by decide) rfl ?_
  exact vx_iret C () rfl rfl (by omega) (by omega) dJ0_length_8abf5_10 hr

set_option maxRecDepth 100000 in
set_option maxHeartbeats 4000000 in
theorem c_ck3n {l : Launch} {D : va_G} {tys : List (ClassId × FieldType)} {cB : ClassId} (ht4 : tys[4]? = some (cB, .byte)) {sa : SA} (qf : Nat) (x y : Int32) (h0 : ¬ x < 0) (h1 : x < y) : CEi l yJ3_checkIndex_8e157 (wsm yJ3_checkIndex_8e157 cJ3_checkIndex_8e157 3 (some .int)) 1 0 0 D tys sa [] [.int x, .int y, .null] (fun u : Unit => x) (fun u : Unit => []) := by
  refine ce_of (fun A => QEi D (fun u : Unit => x) (fun u : Unit => []) A) RJ3 rfl (by decide +kernel) (Nat.le_of_ble_eq_true rfl) rfl ?_
  intro p0 e0 R0 s0_ m0_ args0 below0 meth0 c0_ A0 C hRc hRs hin hr
  refine vv_iload_n C 0 dJ3_checkIndex_8e157_0 rfl rfl 1 rfl ?_
  refine vx_if_ltF C 9 dJ3_checkIndex_8e157_1 (by decide) h0 4 rfl ?_
  refine vv_iload_n C 0 dJ3_checkIndex_8e157_4 rfl rfl 5 rfl ?_
  refine vv_iload_n C 1 dJ3_checkIndex_8e157_5 rfl rfl 6 rfl ?_
  refine vx_icmp_ltT C 16 dJ3_checkIndex_8e157_6 (by decide) h1 ?_
  refine vv_iload_n C 0 dJ3_checkIndex_8e157_16 rfl rfl 17 rfl ?_
  exact vx_iret C () rfl rfl (by omega) (by omega) dJ3_checkIndex_8e157_17 hr

set_option maxRecDepth 100000 in
set_option maxHeartbeats 4000000 in
theorem c_ck3r {l : Launch} {D : va_G} {tys : List (ClassId × FieldType)} {cB : ClassId} (ht4 : tys[4]? = some (cB, .byte)) {sa : SA} (qf : Nat) (x y : Int32) (h0 : ¬ x < 0) (h1 : x < y) : CEi l yJ3_checkIndex_8e157 (wsm yJ3_checkIndex_8e157 cJ3_checkIndex_8e157 3 (some .int)) 1 0 0 D tys sa [] [.int x, .int y, .ref qf] (fun u : Unit => x) (fun u : Unit => []) := by
  refine ce_of (fun A => QEi D (fun u : Unit => x) (fun u : Unit => []) A) RJ3 rfl (by decide +kernel) (Nat.le_of_ble_eq_true rfl) rfl ?_
  intro p0 e0 R0 s0_ m0_ args0 below0 meth0 c0_ A0 C hRc hRs hin hr
  refine vv_iload_n C 0 dJ3_checkIndex_8e157_0 rfl rfl 1 rfl ?_
  refine vx_if_ltF C 9 dJ3_checkIndex_8e157_1 (by decide) h0 4 rfl ?_
  refine vv_iload_n C 0 dJ3_checkIndex_8e157_4 rfl rfl 5 rfl ?_
  refine vv_iload_n C 1 dJ3_checkIndex_8e157_5 rfl rfl 6 rfl ?_
  refine vx_icmp_ltT C 16 dJ3_checkIndex_8e157_6 (by decide) h1 ?_
  refine vv_iload_n C 0 dJ3_checkIndex_8e157_16 rfl rfl 17 rfl ?_
  exact vx_iret C () rfl rfl (by omega) (by omega) dJ3_checkIndex_8e157_17 hr

set_option maxRecDepth 100000 in
set_option maxHeartbeats 4000000 in
theorem c_ck0 {l : Launch} {D : va_G} {tys : List (ClassId × FieldType)} {cB : ClassId} (ht4 : tys[4]? = some (cB, .byte)) {sa : SA} (x y : Int32) (h0 : ¬ x < 0) (h1 : x < y) : CI l yJ0_checkIndex_df160 (wsm yJ0_checkIndex_df160 cJ0_checkIndex_df160 2 none) 2 0 0 D tys sa [] [.int x, .int y] (fun u : Unit => []) := by
  refine ce_of (fun A => QEv D (fun u : Unit => []) A) RJ0 rfl (by decide +kernel) (Nat.le_of_ble_eq_true rfl) rfl ?_
  intro p0 e0 R0 s0_ m0_ args0 below0 meth0 c0_ A0 C hRc hRs hin hr
  refine vv_iload_n C 0 dJ0_checkIndex_df160_0 rfl rfl 1 rfl ?_
  refine vv_iload_n C 1 dJ0_checkIndex_df160_1 rfl rfl 2 rfl ?_
  refine vx_fmt C zw_353 dJ0_checkIndex_df160_2 5 rfl (fun v hv => ?_)
  rcases hv with rfl | ⟨qf, rfl⟩
  · refine vx_callSi C (As := [.int x, .int y, .null]) (st := []) [] [] [] [] rfl rfl (by decide) (by decide) (by decide) (c_ck3n ht4 0 x y h0 h1) zw_355 zc_S_J3_checkIndex_8e157 (by decide) (by decide) rfl rfl (Nat.le_of_ble_eq_true rfl) (by rw [hRc]; omega) (by rw [hRs]; omega) dJ0_checkIndex_df160_5 (0 + 0) (0 + 0) rfl rfl 8 rfl (fun _ => ?_)
    refine vv_pop C dJ0_checkIndex_df160_8 rfl 9 rfl ?_
    exact vx_vret C () rfl (by omega) (by omega) dJ0_checkIndex_df160_9 hr
  · refine vx_callSi C (As := [.int x, .int y, .ref qf]) (st := []) [] [] [] [] rfl rfl (by decide) (by decide) (by decide) (c_ck3r ht4 qf x y h0 h1) zw_355 zc_S_J3_checkIndex_8e157 (by decide) (by decide) rfl rfl (Nat.le_of_ble_eq_true rfl) (by rw [hRc]; omega) (by rw [hRs]; omega) dJ0_checkIndex_df160_5 (0 + 0) (0 + 0) rfl rfl 8 rfl (fun _ => ?_)
    refine vv_pop C dJ0_checkIndex_df160_8 rfl 9 rfl ?_
    exact vx_vret C () rfl (by omega) (by omega) dJ0_checkIndex_df160_9 hr

set_option maxRecDepth 100000 in
set_option maxHeartbeats 4000000 in
theorem c_ch1W {l : Launch} {D : va_G} {tys : List (ClassId × FieldType)} {cB : ClassId} (ht4 : tys[4]? = some (cB, .byte)) {sa : SA} (v n k : Nat) (f : Nat → Int32) (hk : k < n) (hn : n ≤ 1000) (hf : f k = i32 (f k).toNatClampNeg ∧ (f k).toNatClampNeg < 128) : CEi l yJ1_charAt_3b067 (wsm yJ1_charAt_3b067 cJ1_charAt_3b067 2 (some .char)) 3 0 0 D tys sa [(v, .inl (cB, n, .inl f))] [.ref v, .int (i32 k)] (fun u : Unit => f k) (fun u : Unit => [(v, .inl (cB, n, .inl f))]) := by
  refine ce_of (fun A => QEi D (fun u : Unit => f k) (fun u : Unit => [(v, .inl (cB, n, .inl f))]) A) RJ1 rfl (by decide +kernel) (Nat.le_of_ble_eq_true rfl) rfl ?_
  intro p0 e0 R0 s0_ m0_ args0 below0 meth0 c0_ A0 C hRc hRs hin hr
  refine vv_iload_n C 1 dJ1_charAt_3b067_0 rfl rfl 1 rfl ?_
  refine vv_aload_n C 0 dJ1_charAt_3b067_1 rfl rfl 2 rfl ?_
  refine vx_alen C 0 4 ht4 rfl (Int32.ofNat n) rfl dJ1_charAt_3b067_2 3 rfl ?_
  refine vx_callSv C (As := [.int (i32 k), .int (Int32.ofNat n)]) (st := []) [] [0] [] [(v, .inl (cB, n, .inl f))] rfl rfl (by decide) (by decide) (by decide) (c_ck0 ht4 (i32 k) (Int32.ofNat n) (i32_nn (by omega)) (i32_ltp (a := k) (b := n) hk (by omega))) zw_350 zc_S_J0_checkIndex_df160 (by decide) (by decide) rfl rfl (Nat.le_of_ble_eq_true rfl) (by rw [hRc]; first | omega | exact Nat.le_of_ble_eq_true rfl) (by rw [hRs]; first | omega | exact Nat.le_of_ble_eq_true rfl) dJ1_charAt_3b067_3 (0) (0) rfl rfl 6 rfl (fun _ => ?_)
  refine vv_ws (ws2 := [(v, .inl (cB, n, .inl f))]) rfl ?_
  refine vv_aload_n C 0 dJ1_charAt_3b067_6 rfl rfl 7 rfl ?_
  refine vv_iload_n C 1 dJ1_charAt_3b067_7 rfl rfl 8 rfl ?_
  refine vx_bald C 0 4 ht4 rfl (i32_in hk (by omega)) (f k) (by rw [i32_tn (by omega)]) dJ1_charAt_3b067_8 9 rfl ?_
  refine vv_sipush C (255 : Int32) dJ1_charAt_3b067_9 (by decide) 12 rfl ?_
  refine vx_iand C dJ1_charAt_3b067_12 13 rfl ?_
  rw [show ((f k) &&& (255 : Int32)) = f k from (and255 hf)]
  refine vx_i2c C dJ1_charAt_3b067_13 14 rfl ?_
  rw [show ((f k).toUInt32 % 65536).toInt32 = f k from (c16 hf)]
  exact vx_zret C () rfl rfl (by omega) (by omega) dJ1_charAt_3b067_14 hr (by first | rfl | exact nar_ch hf)

set_option maxRecDepth 100000 in
set_option maxHeartbeats 4000000 in
theorem c_chrW {l : Launch} {D : va_G} {tys : List (ClassId × FieldType)} {cB : ClassId} (ht4 : tys[4]? = some (cB, .byte)) {sa : SA} (t v n k : Nat) (f : Nat → Int32) (hk : k < n) (hn : n ≤ 1000) (hf : f k = i32 (f k).toNatClampNeg ∧ (f k).toNatClampNeg < 128) : CEi l yJ0_charAt_5068e (wsm yJ0_charAt_5068e cJ0_charAt_5068e 2 (some .char)) 4 0 0 D tys sa [(t, .inr (0, [.ref v, .int 0, .int 0, .int 0])), (v, .inl (cB, n, .inl f))] [.ref t, .int (i32 k)] (fun u : Unit => f k) (fun u : Unit => [(t, .inr (0, [.ref v, .int 0, .int 0, .int 0])), (v, .inl (cB, n, .inl f))]) := by
  refine ce_of (fun A => QEi D (fun u : Unit => f k) (fun u : Unit => [(t, .inr (0, [.ref v, .int 0, .int 0, .int 0])), (v, .inl (cB, n, .inl f))]) A) RJ0 rfl (by decide +kernel) (Nat.le_of_ble_eq_true rfl) rfl ?_
  intro p0 e0 R0 s0_ m0_ args0 below0 meth0 c0_ A0 C hRc hRs hin hr
  refine vv_aload_n C 0 dJ0_charAt_5068e_0 rfl rfl 1 rfl ?_
  refine vx_callVi C (As := []) (st := []) [0] [1] [(t, .inr (0, [.ref v, .int 0, .int 0, .int 0]))] [(v, .inl (cB, n, .inl f))] rfl rfl (by decide) (by decide) (by decide) 0 clw_J0.1 0 rfl (c_isLW ht4 t v) zw_343 zc_V_J0_isLatin1_aae02 (by decide) (by decide) rfl rfl (Nat.le_of_ble_eq_true rfl) (by rw [hRc]; first | omega | exact Nat.le_of_ble_eq_true rfl) (by rw [hRs]; first | omega | exact Nat.le_of_ble_eq_true rfl) dJ0_charAt_5068e_1 (0) (0) rfl rfl 4 rfl (fun _ => ?_)
  refine vv_ws (ws2 := [(v, .inl (cB, n, .inl f)), (t, .inr (0, [.ref v, .int 0, .int 0, .int 0]))]) rfl ?_
  refine vx_if_eqF C 16 dJ0_charAt_5068e_4 (by decide) (by decide) 7 rfl ?_
  refine vv_aload_n C 0 dJ0_charAt_5068e_7 rfl rfl 8 rfl ?_
  refine vv_get C clw_J0 1 rfl 0 (by decide) zw_789 (.ref v) rfl dJ0_charAt_5068e_8 11 rfl ?_
  refine vv_iload_n C 1 dJ0_charAt_5068e_11 rfl rfl 12 rfl ?_
  refine vx_callSi C (As := [.ref v, .int (i32 k)]) (st := []) [0] [1] [(v, .inl (cB, n, .inl f))] [(t, .inr (0, [.ref v, .int 0, .int 0, .int 0]))] rfl rfl (by decide) (by decide) (by decide) (c_ch1W ht4 v n k f hk hn hf) zw_347 zc_S_J1_charAt_3b067 (by decide) (by decide) rfl rfl (Nat.le_of_ble_eq_true rfl) (by rw [hRc]; first | omega | exact Nat.le_of_ble_eq_true rfl) (by rw [hRs]; first | omega | exact Nat.le_of_ble_eq_true rfl) dJ0_charAt_5068e_12 (0) (0) rfl rfl 15 rfl (fun _ => ?_)
  refine vv_ws (ws2 := [(t, .inr (0, [.ref v, .int 0, .int 0, .int 0])), (v, .inl (cB, n, .inl f))]) rfl ?_
  exact vx_zret C () rfl rfl (by omega) (by omega) dJ0_charAt_5068e_15 hr (by first | rfl | exact nar_ch hf)
