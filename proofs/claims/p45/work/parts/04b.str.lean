/-! String.length, String.charAt over the texts -/
theorem z_fc : Cond.fieldLink RJ0 38 "java/lang/String" "COMPACT_STRINGS" "Z" ∈ TT := TT_of (i := 337) (by decide +kernel) rfl
theorem z_fk : Cond.fieldLink RJ0 15 "java/lang/String" "coder" "B" ∈ TT := TT_of (i := 790) (by decide +kernel) rfl
theorem z_fv : Cond.fieldLink RJ0 9 "java/lang/String" "value" "[B" ∈ TT := TT_of (i := 789) (by decide +kernel) rfl
theorem z_fs : Cond.fieldLink RJ0 1053 "jdk/internal/util/Preconditions" "SIOOBE_FORMATTER" "Ljava/util/function/BiFunction;" ∈ TT := TT_of (i := 353) (by decide +kernel) rfl
theorem z_m1 : Cond.methodLink RJ0 335 yJ0_coder_7d493 ∈ TT := TT_of (i := 333) (by decide +kernel) rfl
theorem z_m2 : Cond.methodLink RJ0 492 yJ0_isLatin1_aae02 ∈ TT := TT_of (i := 343) (by decide +kernel) rfl
theorem z_m3 : Cond.methodLink RJ0 495 yJ1_charAt_3b067 ∈ TT := TT_of (i := 347) (by decide +kernel) rfl
theorem z_m4 : Cond.methodLink RJ1 9 yJ0_checkIndex_df160 ∈ TT := TT_of (i := 350) (by decide +kernel) rfl
theorem z_m5 : Cond.methodLink RJ0 1059 yJ3_checkIndex_8e157 ∈ TT := TT_of (i := 355) (by decide +kernel) rfl
theorem z_coder : CV "java/lang/String" yJ0_coder_7d493 cJ0_coder_7d493 1 (some .byte) 0 := ⟨TT_of (i := 334) (by decide +kernel) rfl, TT_of (i := 335) (by decide +kernel) rfl, TT_of (i := 22) (by decide +kernel) rfl, TT_of (i := 336) (by decide +kernel) rfl, by decide +kernel⟩
theorem z_isL : CV "java/lang/String" yJ0_isLatin1_aae02 cJ0_isLatin1_aae02 1 (some .boolean) 0 := ⟨TT_of (i := 344) (by decide +kernel) rfl, TT_of (i := 345) (by decide +kernel) rfl, TT_of (i := 22) (by decide +kernel) rfl, TT_of (i := 346) (by decide +kernel) rfl, by decide +kernel⟩
theorem z_len : CV "java/lang/String" yJ0_length_8abf5 cJ0_length_8abf5 1 (some .int) 0 := ⟨TT_of (i := 330) (by decide +kernel) rfl, TT_of (i := 331) (by decide +kernel) rfl, TT_of (i := 22) (by decide +kernel) rfl, TT_of (i := 332) (by decide +kernel) rfl, by decide +kernel⟩
theorem z_chr : CV "java/lang/String" yJ0_charAt_5068e cJ0_charAt_5068e 2 (some .char) 1 := ⟨TT_of (i := 340) (by decide +kernel) rfl, TT_of (i := 341) (by decide +kernel) rfl, TT_of (i := 22) (by decide +kernel) rfl, TT_of (i := 342) (by decide +kernel) rfl, by decide +kernel⟩
theorem z_ch1 : CS yJ1_charAt_3b067 cJ1_charAt_3b067 2 (some .char) 2 := ⟨TT_of (i := 348) (by decide +kernel) rfl, TT_of (i := 23) (by decide +kernel) rfl, TT_of (i := 349) (by decide +kernel) rfl, by decide +kernel⟩
theorem z_ck0 : CS yJ0_checkIndex_df160 cJ0_checkIndex_df160 2 none 2 := ⟨TT_of (i := 351) (by decide +kernel) rfl, TT_of (i := 22) (by decide +kernel) rfl, TT_of (i := 352) (by decide +kernel) rfl, by decide +kernel⟩
theorem z_ck3 : CS yJ3_checkIndex_8e157 cJ3_checkIndex_8e157 3 (some .int) 3 := ⟨TT_of (i := 356) (by decide +kernel) rfl, TT_of (i := 24) (by decide +kernel) rfl, TT_of (i := 357) (by decide +kernel) rfl, by decide +kernel⟩
set_option maxRecDepth 100000 in
set_option maxHeartbeats 4000000 in
theorem k_coder {l : Launch} {D : va_G} {Y : Lay} {ad : Nat → Nat} {cA : Nat → ClassId} {tys : List (ClassId × FieldType)} {n : Nat} {sa : SA} {g : Mem} (i : Nat) (hi : i < sa.2.1.length) : CTi l yJ0_coder_7d493 (wsm yJ0_coder_7d493 cJ0_coder_7d493 1 (some .byte)) 1 D Y ad cA tys n sa g [.ref (sa.1 (10 + 2 * i))] 0 g := by
  refine ct_of RJ0 rfl (by decide +kernel) (Nat.le_of_ble_eq_true rfl) rfl (fun sz => PBi D Y ad cA n (0) g sz) ?_
  intro p e R s m args below meth c C hr
  refine ww_gets2 C z_fc dJ0_coder_7d493_0 3 rfl ?_
  refine ww_if_eq C 13 dJ0_coder_7d493_3 (by decide) (h := (by first | rfl | decide : (if (1 : Int32) = 0 then none else some ()) = some ())) 6 rfl (fun h => by cases h) (fun _ => ?_)
  refine ww_aload_n C 0 dJ0_coder_7d493_6 rfl rfl 7 rfl ?_
  refine ww_scod C i hi z_fk dJ0_coder_7d493_7 10 rfl ?_
  refine ww_goto C 14 dJ0_coder_7d493_10 (by decide) ?_
  exact ww_zret C dJ0_coder_7d493_14 hr rfl rfl

set_option maxRecDepth 100000 in
set_option maxHeartbeats 4000000 in
theorem k_isL {l : Launch} {D : va_G} {Y : Lay} {ad : Nat → Nat} {cA : Nat → ClassId} {tys : List (ClassId × FieldType)} {n : Nat} {sa : SA} {g : Mem} (i : Nat) (hi : i < sa.2.1.length) : CTi l yJ0_isLatin1_aae02 (wsm yJ0_isLatin1_aae02 cJ0_isLatin1_aae02 1 (some .boolean)) 1 D Y ad cA tys n sa g [.ref (sa.1 (10 + 2 * i))] 1 g := by
  refine ct_of RJ0 rfl (by decide +kernel) (Nat.le_of_ble_eq_true rfl) rfl (fun sz => PBi D Y ad cA n (1) g sz) ?_
  intro p e R s m args below meth c C hr
  refine ww_gets2 C z_fc dJ0_isLatin1_aae02_0 3 rfl ?_
  refine ww_if_eq C 17 dJ0_isLatin1_aae02_3 (by decide) (h := (by first | rfl | decide : (if (1 : Int32) = 0 then none else some ()) = some ())) 6 rfl (fun h => by cases h) (fun _ => ?_)
  refine ww_aload_n C 0 dJ0_isLatin1_aae02_6 rfl rfl 7 rfl ?_
  refine ww_scod C i hi z_fk dJ0_isLatin1_aae02_7 10 rfl ?_
  refine ww_if_ne C 17 dJ0_isLatin1_aae02_10 (by decide) (h := (by first | rfl | decide : (if ¬ (0 : Int32) = 0 then none else some ()) = some ())) 13 rfl (fun h => by cases h) (fun _ => ?_)
  refine ww_iconst C (1 : Int32) dJ0_isLatin1_aae02_13 (by decide) 14 rfl ?_
  refine ww_goto C 18 dJ0_isLatin1_aae02_14 (by decide) ?_
  exact ww_zret C dJ0_isLatin1_aae02_18 hr rfl rfl

set_option maxRecDepth 100000 in
set_option maxHeartbeats 4000000 in
theorem k_ck3 {l : Launch} {D : va_G} {Y : Lay} {ad : Nat → Nat} {cA : Nat → ClassId} {tys : List (ClassId × FieldType)} {n : Nat} {sa : SA} {g : Mem} {x y : Int32} (h0 : ¬ x < 0) (h1 : x < y) {v : Value} (hv : v = .null ∨ ∃ q, v = .ref q) : CTi l yJ3_checkIndex_8e157 (wsm yJ3_checkIndex_8e157 cJ3_checkIndex_8e157 3 (some .int)) 1 D Y ad cA tys n sa g [.int x, .int y, v] x g := by
  rcases hv with rfl | ⟨q, rfl⟩
  all_goals
    refine ct_of RJ3 rfl (by decide +kernel) (Nat.le_of_ble_eq_true rfl) rfl (fun sz => PBi D Y ad cA n (x) g sz) ?_
    intro p e R s m args below meth c C hr
    refine ww_iload_n C 0 dJ3_checkIndex_8e157_0 rfl rfl 1 rfl ?_
    refine ww_if_lt C 9 dJ3_checkIndex_8e157_1 (by decide) (h := (by rw [if_neg h0] : (if x < 0 then none else some ()) = some ())) 4 rfl (fun h => by cases h) (fun _ => ?_)
    refine ww_iload_n C 0 dJ3_checkIndex_8e157_4 rfl rfl 5 rfl ?_
    refine ww_iload_n C 1 dJ3_checkIndex_8e157_5 rfl rfl 6 rfl ?_
    refine ww_icmp_lt C 16 dJ3_checkIndex_8e157_6 (by decide) (h := (by rw [if_pos h1] : (if x < y then some () else none) = some ())) 9 rfl (fun _ => ?_) (fun h => by cases h)
    refine ww_iload_n C 0 dJ3_checkIndex_8e157_16 rfl rfl 17 rfl ?_
    exact ww_iret C dJ3_checkIndex_8e157_17 hr rfl

set_option maxRecDepth 100000 in
set_option maxHeartbeats 4000000 in
theorem k_ck0 {l : Launch} {D : va_G} {Y : Lay} {ad : Nat → Nat} {cA : Nat → ClassId} {tys : List (ClassId × FieldType)} {n : Nat} {sa : SA} {g : Mem} {x y : Int32} (h0 : ¬ x < 0) (h1 : x < y) : CTv l yJ0_checkIndex_df160 (wsm yJ0_checkIndex_df160 cJ0_checkIndex_df160 2 none) 2 D Y ad cA tys n sa g [.int x, .int y] g := by
  refine ct_of RJ0 rfl (by decide +kernel) (Nat.le_of_ble_eq_true rfl) rfl (fun sz => PBv D Y ad cA n g sz) ?_
  intro p e R s m args below meth c C hr
  refine ww_iload_n C 0 dJ0_checkIndex_df160_0 rfl rfl 1 rfl ?_
  refine ww_iload_n C 1 dJ0_checkIndex_df160_1 rfl rfl 2 rfl ?_
  refine ww_gets3 C z_fs dJ0_checkIndex_df160_2 5 rfl (fun v hv => ?_)
  refine ww_callDi C (As := [.int x, .int y, v]) (st := []) x (k_ck3 h0 h1 hv) z_m5 z_ck3 (by decide) (by decide) rfl rfl (Nat.le_of_ble_eq_true rfl) dJ0_checkIndex_df160_5 8 rfl ?_
  refine ww_pop C dJ0_checkIndex_df160_8 rfl 9 rfl ?_
  exact ww_vret (r := 0) C dJ0_checkIndex_df160_9 hr rfl

theorem vp_lt {x : Int32} {L : Nat} (h : vp_in x L) (hL : L < 2 ^ 31) : ¬ x < 0 ∧ x < Int32.ofNat L := by
  obtain ⟨j, hj, rfl⟩ := vp_in_of h hL
  exact ⟨nI_pos (by omega), nI_lt hj hL⟩
theorem lenS {sa : SA} (i : Nat) : (sa.2.1.map List.length).getD i 0 = (sa.2.1.getD i []).length := by
  by_cases h : i < sa.2.1.length
  · simp [List.getD_eq_getElem?_getD, h]
  · simp [List.getD_eq_getElem?_getD, List.getElem?_eq_none (Nat.le_of_not_lt h)]
set_option maxRecDepth 100000 in
set_option maxHeartbeats 4000000 in
theorem k_ch1 {l : Launch} {D : va_G} {Y : Lay} {ad : Nat → Nat} {cA : Nat → ClassId} {tys : List (ClassId × FieldType)} {n : Nat} {sa : SA} {g : Mem} (i : Nat) (hi : i < sa.2.1.length) {x : Int32} (hL : (sa.2.1.map List.length).getD i 0 < 2 ^ 31) (hx : vp_in x ((sa.2.1.map List.length).getD i 0)) : CTi l yJ1_charAt_3b067 (wsm yJ1_charAt_3b067 cJ1_charAt_3b067 2 (some .char)) 3 D Y ad cA tys n sa g [.ref (sa.1 (11 + 2 * i)), .int x] (((((sa.2.1.getD i []).getD x.toNatClampNeg 0) &&& 255).toUInt32 % 65536).toInt32) g := by
  refine ct_of RJ1 rfl (by decide +kernel) (Nat.le_of_ble_eq_true rfl) rfl (fun sz => PBi D Y ad cA n (((((sa.2.1.getD i []).getD x.toNatClampNeg 0) &&& 255).toUInt32 % 65536).toInt32) g sz) ?_
  intro p e R s m args below meth c C hr
  refine ww_iload_n C 1 dJ1_charAt_3b067_0 rfl rfl 1 rfl ?_
  refine ww_aload_n C 0 dJ1_charAt_3b067_1 rfl rfl 2 rfl ?_
  refine ww_blen C i hi _ rfl dJ1_charAt_3b067_2 3 rfl ?_
  refine ww_callDv C (As := [.int x, .int (Int32.ofNat ((sa.2.1.map List.length).getD i 0))]) (st := []) (k_ck0 (vp_lt hx hL).1 (vp_lt hx hL).2) z_m4 z_ck0 (by decide) (by decide) rfl rfl (Nat.le_of_ble_eq_true rfl) dJ1_charAt_3b067_3 6 rfl ?_
  refine ww_aload_n C 0 dJ1_charAt_3b067_6 rfl rfl 7 rfl ?_
  refine ww_iload_n C 1 dJ1_charAt_3b067_7 rfl rfl 8 rfl ?_
  refine ww_bald C i hi hx dJ1_charAt_3b067_8 9 rfl ?_
  refine ww_sipush C (255 : Int32) dJ1_charAt_3b067_9 (by decide) 12 rfl ?_
  refine ww_iand C dJ1_charAt_3b067_12 13 rfl ?_
  refine ww_i2c C dJ1_charAt_3b067_13 14 rfl ?_
  exact ww_zret C dJ1_charAt_3b067_14 hr (pk_nc _) rfl

set_option maxRecDepth 100000 in
set_option maxHeartbeats 4000000 in
theorem k_chr {l : Launch} {D : va_G} {Y : Lay} {ad : Nat → Nat} {cA : Nat → ClassId} {tys : List (ClassId × FieldType)} {n : Nat} {sa : SA} {g : Mem} (i : Nat) (hi : i < sa.2.1.length) {x : Int32} (hL : (sa.2.1.map List.length).getD i 0 < 2 ^ 31) (hx : vp_in x ((sa.2.1.map List.length).getD i 0)) : CTi l yJ0_charAt_5068e (wsm yJ0_charAt_5068e cJ0_charAt_5068e 2 (some .char)) 4 D Y ad cA tys n sa g [.ref (sa.1 (10 + 2 * i)), .int x] (((((sa.2.1.getD i []).getD x.toNatClampNeg 0) &&& 255).toUInt32 % 65536).toInt32) g := by
  refine ct_of RJ0 rfl (by decide +kernel) (Nat.le_of_ble_eq_true rfl) rfl (fun sz => PBi D Y ad cA n (((((sa.2.1.getD i []).getD x.toNatClampNeg 0) &&& 255).toUInt32 % 65536).toInt32) g sz) ?_
  intro p e R s m args below meth c C hr
  refine ww_aload_n C 0 dJ0_charAt_5068e_0 rfl rfl 1 rfl ?_
  refine ww_callTi C (As := []) (st := []) 1 i hi (k_isL i hi) z_m2 z_isL (by decide) (by decide) rfl rfl (Nat.le_of_ble_eq_true rfl) dJ0_charAt_5068e_1 4 rfl ?_
  refine ww_if_eq C 16 dJ0_charAt_5068e_4 (by decide) (h := (by first | rfl | decide : (if (1 : Int32) = 0 then none else some ()) = some ())) 7 rfl (fun h => by cases h) (fun _ => ?_)
  refine ww_aload_n C 0 dJ0_charAt_5068e_7 rfl rfl 8 rfl ?_
  refine ww_sval C i hi z_fv dJ0_charAt_5068e_8 11 rfl ?_
  refine ww_iload_n C 1 dJ0_charAt_5068e_11 rfl rfl 12 rfl ?_
  refine ww_callDi C (As := [.ref (sa.1 (11 + 2 * i)), .int x]) (st := []) _ (k_ch1 i hi hL hx) z_m3 z_ch1 (by decide) (by decide) rfl rfl (Nat.le_of_ble_eq_true rfl) dJ0_charAt_5068e_12 15 rfl ?_
  exact ww_zret C dJ0_charAt_5068e_15 hr (pk_nc _) rfl

set_option maxRecDepth 100000 in
set_option maxHeartbeats 4000000 in
theorem k_len {l : Launch} {D : va_G} {Y : Lay} {ad : Nat → Nat} {cA : Nat → ClassId} {tys : List (ClassId × FieldType)} {n : Nat} {sa : SA} {g : Mem} (i : Nat) (hi : i < sa.2.1.length) : CTi l yJ0_length_8abf5 (wsm yJ0_length_8abf5 cJ0_length_8abf5 1 (some .int)) 2 D Y ad cA tys n sa g [.ref (sa.1 (10 + 2 * i))] (Int32.ofNat ((sa.2.1.map List.length).getD i 0) >>> ((0 : Int32) &&& 31)) g := by
  refine ct_of RJ0 rfl (by decide +kernel) (Nat.le_of_ble_eq_true rfl) rfl (fun sz => PBi D Y ad cA n (Int32.ofNat ((sa.2.1.map List.length).getD i 0) >>> ((0 : Int32) &&& 31)) g sz) ?_
  intro p e R s m args below meth c C hr
  refine ww_aload_n C 0 dJ0_length_8abf5_0 rfl rfl 1 rfl ?_
  refine ww_sval C i hi z_fv dJ0_length_8abf5_1 4 rfl ?_
  refine ww_blen C i hi _ rfl dJ0_length_8abf5_4 5 rfl ?_
  refine ww_aload_n C 0 dJ0_length_8abf5_5 rfl rfl 6 rfl ?_
  refine ww_callTi C (As := []) (st := [.int (Int32.ofNat ((sa.2.1.map List.length).getD i 0))]) 0 i hi (k_coder i hi) z_m1 z_coder (by decide) (by decide) rfl rfl (Nat.le_of_ble_eq_true rfl) dJ0_length_8abf5_6 9 rfl ?_
  refine ww_ishr C dJ0_length_8abf5_9 10 rfl ?_
  exact ww_iret C dJ0_length_8abf5_10 hr rfl

abbrev inR (i : Int32) (n : Nat) : Prop := ¬ (i < 0 ∨ n ≤ i.toNatClampNeg)
def chS (k j : Nat) : Int32 := (bytJS.getD k []).getD j 0
theorem chS_ok : ∀ i, i < 2 → ∀ j, j < (bytJS.getD i []).length → (((chS i j) &&& 255).toUInt32 % 65536).toInt32 = chS i j := by decide +kernel
theorem tz_at {sa : SA} (h : ∀ i, i < 10 → sa.2.1[i]? = bytJS[i]?) (i : Nat) (hi : i < 10) : i < sa.2.1.length ∧ sa.2.1.getD i [] = bytJS.getD i [] := by
  have h1 := h i hi
  have h2 : i < bytJS.length := hi
  refine ⟨?_, by rw [List.getD_eq_getElem?_getD, List.getD_eq_getElem?_getD, h1]⟩
  rcases Nat.lt_or_ge i sa.2.1.length with q | q
  · exact q
  · rw [List.getElem?_eq_none q, List.getElem?_eq_getElem h2] at h1; cases h1
theorem ww_strlen0 {p : Program} {l : Launch} {e : Env} {R : Room} {s : State} {m : MethodId} {args : Array Value} {below : List Frame} {meth : Method} {c : Code} {cc : ByteArray} {nL : Nat} {own : String} {rk : Nat} {D : va_G} {Y : Lay} {ad : Nat → Nat} {cA : Nat → ClassId} {tys : List (ClassId × FieldType)} {n : Nat} {sa : SA} {Q : State → Prop} {g : Mem} {pc : Nat} {lv : List (Nat × Value)} {st : List Value} (C : CX p R s m args meth c cc nL own rk D Y ad cA tys n sa) {ix : Nat} (w1 : Cond.methodLink own ix yJ0_length_8abf5 ∈ TT) (hrk : 8 ≤ rk) (hroom : (st.map fun v => v.category).sum ≤ 8) (d : decode cc pc = .ok (.invokevirtual ix, 3)) (pc2 : Nat) (e2 : pc + 3 = pc2) (k : WW p l e R s m args below meth c nL D Y ad cA n Q g pc2 lv (.int (44 : Int32) :: st)) : WW p l e R s m args below meth c nL D Y ad cA n Q g pc lv (.ref (sa.1 10) :: st) := by
  obtain ⟨h1, h2⟩ := tz_at C.2.2.2.2.2.2.2.1.2.2.2.2.2.2.2.2.2.2.2.2.2.2.1 0 (by decide)
  refine ww_callTi C (As := []) (st := st) _ 0 h1 (k_len 0 h1) w1 z_len (by omega) (by decide) rfl rfl hroom d pc2 e2 ?_
  rw [lenS, h2, show (Int32.ofNat (bytJS.getD 0 []).length >>> ((0 : Int32) &&& 31)) = (44 : Int32) from by decide +kernel]
  exact k
theorem ww_strchr0 {p : Program} {l : Launch} {e : Env} {R : Room} {s : State} {m : MethodId} {args : Array Value} {below : List Frame} {meth : Method} {c : Code} {cc : ByteArray} {nL : Nat} {own : String} {rk : Nat} {D : va_G} {Y : Lay} {ad : Nat → Nat} {cA : Nat → ClassId} {tys : List (ClassId × FieldType)} {n : Nat} {sa : SA} {Q : State → Prop} {g : Mem} {pc : Nat} {lv : List (Nat × Value)} {st : List Value} (C : CX p R s m args meth c cc nL own rk D Y ad cA tys n sa) {β : Type} {R1 : β} {x : Int32} {ix : Nat} (w1 : Cond.methodLink own ix yJ0_charAt_5068e ∈ TT) (hrk : 8 ≤ rk) (hroom : (st.map fun v => v.category).sum ≤ 8) (d : decode cc pc = .ok (.invokevirtual ix, 3)) {A : Option β} {ins : Decidable (inR x 44)} (h : @ite _ (inR x 44) ins A none = some R1) (pc2 : Nat) (e2 : pc + 3 = pc2) (k : A = some R1 → WW p l e R s m args below meth c nL D Y ad cA n Q g pc2 lv (.int (chS 0 x.toNatClampNeg) :: st)) : WW p l e R s m args below meth c nL D Y ad cA n Q g pc lv (.int x :: .ref (sa.1 10) :: st) := by
  obtain ⟨h1, h2⟩ := tz_at C.2.2.2.2.2.2.2.1.2.2.2.2.2.2.2.2.2.2.2.2.2.2.1 0 (by decide)
  have h3 : (sa.2.1.map List.length).getD 0 0 = 44 := by rw [lenS, h2]; decide +kernel
  by_cases hx : inR x 44
  · rw [if_pos hx] at h
    have hx2 : vp_in x ((sa.2.1.map List.length).getD 0 0) := by rw [h3]; exact hx
    have e3 := chS_ok 0 (by decide) x.toNatClampNeg (by have := vp_cl hx; exact this)
    refine ww_callTi C (As := [.int x]) (st := st) _ 0 h1 (k_chr 0 h1 (by rw [h3]; decide) hx2) w1 z_chr (by omega) (by decide) rfl rfl hroom d pc2 e2 ?_
    unfold chS at e3
    rw [h2, e3]
    exact k h
  · rw [if_neg hx] at h; cases h
theorem ww_strlen1 {p : Program} {l : Launch} {e : Env} {R : Room} {s : State} {m : MethodId} {args : Array Value} {below : List Frame} {meth : Method} {c : Code} {cc : ByteArray} {nL : Nat} {own : String} {rk : Nat} {D : va_G} {Y : Lay} {ad : Nat → Nat} {cA : Nat → ClassId} {tys : List (ClassId × FieldType)} {n : Nat} {sa : SA} {Q : State → Prop} {g : Mem} {pc : Nat} {lv : List (Nat × Value)} {st : List Value} (C : CX p R s m args meth c cc nL own rk D Y ad cA tys n sa) {ix : Nat} (w1 : Cond.methodLink own ix yJ0_length_8abf5 ∈ TT) (hrk : 8 ≤ rk) (hroom : (st.map fun v => v.category).sum ≤ 8) (d : decode cc pc = .ok (.invokevirtual ix, 3)) (pc2 : Nat) (e2 : pc + 3 = pc2) (k : WW p l e R s m args below meth c nL D Y ad cA n Q g pc2 lv (.int (65 : Int32) :: st)) : WW p l e R s m args below meth c nL D Y ad cA n Q g pc lv (.ref (sa.1 12) :: st) := by
  obtain ⟨h1, h2⟩ := tz_at C.2.2.2.2.2.2.2.1.2.2.2.2.2.2.2.2.2.2.2.2.2.2.1 1 (by decide)
  refine ww_callTi C (As := []) (st := st) _ 1 h1 (k_len 1 h1) w1 z_len (by omega) (by decide) rfl rfl hroom d pc2 e2 ?_
  rw [lenS, h2, show (Int32.ofNat (bytJS.getD 1 []).length >>> ((0 : Int32) &&& 31)) = (65 : Int32) from by decide +kernel]
  exact k
theorem ww_strchr1 {p : Program} {l : Launch} {e : Env} {R : Room} {s : State} {m : MethodId} {args : Array Value} {below : List Frame} {meth : Method} {c : Code} {cc : ByteArray} {nL : Nat} {own : String} {rk : Nat} {D : va_G} {Y : Lay} {ad : Nat → Nat} {cA : Nat → ClassId} {tys : List (ClassId × FieldType)} {n : Nat} {sa : SA} {Q : State → Prop} {g : Mem} {pc : Nat} {lv : List (Nat × Value)} {st : List Value} (C : CX p R s m args meth c cc nL own rk D Y ad cA tys n sa) {β : Type} {R1 : β} {x : Int32} {ix : Nat} (w1 : Cond.methodLink own ix yJ0_charAt_5068e ∈ TT) (hrk : 8 ≤ rk) (hroom : (st.map fun v => v.category).sum ≤ 8) (d : decode cc pc = .ok (.invokevirtual ix, 3)) {A : Option β} {ins : Decidable (inR x 65)} (h : @ite _ (inR x 65) ins A none = some R1) (pc2 : Nat) (e2 : pc + 3 = pc2) (k : A = some R1 → WW p l e R s m args below meth c nL D Y ad cA n Q g pc2 lv (.int (chS 1 x.toNatClampNeg) :: st)) : WW p l e R s m args below meth c nL D Y ad cA n Q g pc lv (.int x :: .ref (sa.1 12) :: st) := by
  obtain ⟨h1, h2⟩ := tz_at C.2.2.2.2.2.2.2.1.2.2.2.2.2.2.2.2.2.2.2.2.2.2.1 1 (by decide)
  have h3 : (sa.2.1.map List.length).getD 1 0 = 65 := by rw [lenS, h2]; decide +kernel
  by_cases hx : inR x 65
  · rw [if_pos hx] at h
    have hx2 : vp_in x ((sa.2.1.map List.length).getD 1 0) := by rw [h3]; exact hx
    have e3 := chS_ok 1 (by decide) x.toNatClampNeg (by have := vp_cl hx; exact this)
    refine ww_callTi C (As := [.int x]) (st := st) _ 1 h1 (k_chr 1 h1 (by rw [h3]; decide) hx2) w1 z_chr (by omega) (by decide) rfl rfl hroom d pc2 e2 ?_
    unfold chS at e3
    rw [h2, e3]
    exact k h
  · rw [if_neg hx] at h; cases h
