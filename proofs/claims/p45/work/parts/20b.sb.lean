/-! THE JDK'S STRINGBUILDER, Latin-1: capacities 16, 34, 70, 142 -/
def capOK (m : Nat) : Prop := m = 16 ∨ m = 34 ∨ m = 70 ∨ m = 142
theorem capOK_b {m : Nat} (h : capOK m) : 16 ≤ m ∧ m ≤ 142 := by unfold capOK at h; omega
theorem capOK_g {m c : Nat} (h : capOK m) (hc : c ≤ m + 18) : c ≤ 2 * m + 2 := by unfold capOK at h; omega
theorem capOK_u {m c : Nat} (h : capOK m) (hc : m < c) (h2 : c ≤ 142) : m ≤ 70 := by unfold capOK at h; omega
theorem capOK_n {m c : Nat} (h : capOK m) (hc : m < c) (h2 : c ≤ 142) : capOK (2 * m + 2) := by unfold capOK at *; omega
theorem i32_nn {n : Nat} (h : n < 2147483648) : ¬ i32 n < 0 := by show ¬ i32 n < i32 0; rw [i32_lt h (by omega)]; omega
theorem i32_le0 {n : Nat} (h : n < 2147483648) : (0 : Int32) ≤ i32 n := by show i32 0 ≤ i32 n; rw [i32_le (by omega) h]; omega
theorem i32_nle0 {n : Nat} (h : 0 < n ∧ n < 2147483648) : ¬ i32 n ≤ 0 := by show ¬ i32 n ≤ i32 0; rw [i32_le h.2 (by omega)]; omega
theorem i32_nlt {a b : Nat} (h1 : a < 2147483648) (h : a ≤ b ∧ b < 2147483648) : ¬ i32 b < i32 a := by rw [i32_lt h.2 h1]; omega
theorem i32_ltp {a b : Nat} (h1 : a < b) (h : b < 2147483648) : i32 a < i32 b := by rw [i32_lt (by omega) h]; exact h1
theorem i32_sub_le0 {c m : Nat} (h : c ≤ m) (hm : m < 1000) : i32 c - i32 m ≤ 0 := by
  have e1 : (i32 c - i32 m).toInt = (c : Int) - m := pk_sub_toInt (by omega) (by omega)
  rw [Int32.le_iff_toInt_le, e1]
  show _ ≤ (0 : Int)
  omega
theorem i32_sub_nle0 {c m : Nat} (h : m < c) (hm : c < 1000) : ¬ i32 c - i32 m ≤ 0 := by
  rw [i32_sub (by omega)]; exact i32_nle0 (by omega)
theorem newlen_eq {m c : Nat} (hm : m ≤ 1000) (hc : c ≤ 2 * m + 2) : Int32.ofNat m + (if i32 (c - m) < i32 (m + 2) then i32 (m + 2) else i32 (c - m)) = i32 (2 * m + 2) := by
  show i32 m + _ = _
  by_cases h : i32 (c - m) < i32 (m + 2)
  · rw [if_pos h, i32_add]; congr 1; omega
  · rw [if_neg h, i32_add]; rw [i32_lt (by omega) (by omega)] at h; congr 1; omega
theorem i32_in {n L : Nat} (h : n < L) (h2 : n < 2147483648) : vp_in (i32 n) L := by
  have := (i32_inR (L := L) h2).mpr h
  exact this
theorem cp_ok {a b c L0 L1 : Nat} (h : a + c ≤ L0) (h2 : b + c ≤ L1) (h3 : a < 1000000 ∧ b < 1000000 ∧ c < 1000000) : cpOk (i32 a) (i32 b) (i32 c) L0 L1 := ⟨i32_nn (by omega), i32_nn (by omega), i32_nn (by omega), by rw [i32_tn (by omega), i32_tn (by omega)]; exact h, by rw [i32_tn (by omega), i32_tn (by omega)]; exact h2⟩
/-- a text of n letters in a StringBuilder -/
def SBS (tx : List Int32) : Type := {u : Nat × Nat × (Nat → Int32) // capOK u.2.1 ∧ tx.length ≤ u.2.1 ∧ (∀ j, j < tx.length → u.2.2 j = tx.getD j 0) ∧ sb_Fit u.2.2}
theorem getD_app (a b : List Int32) (j : Nat) : (a ++ b).getD j 0 = if j < a.length then a.getD j 0 else b.getD (j - a.length) 0 := by
  by_cases h : j < a.length
  · rw [if_pos h]; simp [List.getD_eq_getElem?_getD, List.getElem?_append_left h]
  · rw [if_neg h]; simp [List.getD_eq_getElem?_getD, List.getElem?_append_right (Nat.le_of_not_lt h)]
def sbs_cat {tx bs : List Int32} (v m : Nat) (f : Nat → Int32) (h1 : capOK m) (h2 : tx.length + bs.length ≤ m) (h3 : ∀ j, j < tx.length → f j = tx.getD j 0) (h4 : sb_Fit f) (h5 : sb_Fit (fun j => bs.getD j 0)) : SBS (tx ++ bs) :=
  ⟨(v, m, va_cpy (fun j => bs.getD j 0) f 0 tx.length bs.length), h1, by rw [List.length_append]; exact h2, fun j hj => by
    rw [List.length_append] at hj
    show va_cpy (fun j => bs.getD j 0) f 0 tx.length bs.length j = _
    rw [getD_app]
    by_cases h : j < tx.length
    · rw [if_pos h, pk_cpy_out (by omega)]; exact h3 j h
    · rw [if_neg h, pk_cpy_in (by omega) (by omega)]; congr 1; omega, sb_fitC h5 h4⟩
/-- a number below 100 in digits -/
def dg (z : Nat) : List Int32 := if z < 10 then [i32 (48 + z)] else [i32 (48 + z / 10), i32 (48 + z % 10)]
theorem dg_1 {z : Nat} (h : z < 10) : dg z = [i32 (48 + z)] := if_pos h
theorem dg_2 {z : Nat} (h : ¬ z < 10) : dg z = [i32 (48 + z / 10), i32 (48 + z % 10)] := if_neg h
theorem dg_le (z : Nat) : 1 ≤ (dg z).length ∧ (dg z).length ≤ 2 := by
  unfold dg; split <;> simp
theorem neg_toInt {z : Nat} (h : z < 1000) : (-(i32 z)).toInt = -(z : Int) := by
  have e1 : (i32 0 - i32 z).toInt = ((0 : Nat) : Int) - z := pk_sub_toInt (by omega) (by omega)
  rw [show -(i32 z) = i32 0 - i32 z from (Int32.zero_sub _).symm, e1]
  omega
theorem neg_nle {z : Nat} (hz : z < 1000) {b : Nat} (hb : b < 1000) (h : z < b) : ¬ -(i32 z) ≤ -(i32 b) := by rw [Int32.le_iff_toInt_le, neg_toInt hz, neg_toInt hb]; omega
theorem neg_le {z : Nat} (hz : z < 1000) {b : Nat} (hb : b < 1000) (h : b ≤ z) : -(i32 z) ≤ -(i32 b) := by rw [Int32.le_iff_toInt_le, neg_toInt hz, neg_toInt hb]; omega
theorem neg_gt {z : Nat} (hz : z < 1000) {b : Nat} (hb : b < 1000) (h : z < b) : -(i32 b) < -(i32 z) := by rw [Int32.lt_iff_toInt_lt, neg_toInt hz, neg_toInt hb]; omega
theorem neg_ge {z : Nat} (hz : z < 1000) {b : Nat} (hb : b < 1000) (h : z ≤ b) : -(i32 b) ≤ -(i32 z) := by rw [Int32.le_iff_toInt_le, neg_toInt hz, neg_toInt hb]; omega
theorem neg_nge {z : Nat} (hz : z < 1000) {b : Nat} (hb : b < 1000) (h : b < z) : ¬ -(i32 b) ≤ -(i32 z) := by rw [Int32.le_iff_toInt_le, neg_toInt hz, neg_toInt hb]; omega
theorem dec1 {d : Nat} (h : 1 ≤ d) (h2 : d < 1000000) : i32 d + Int32.ofInt (-1) = i32 (d - 1) := by
  rw [show Int32.ofInt (-1) = -(i32 1) from by decide, ← Int32.sub_eq_add_neg, i32_sub h]
theorem dec2 {d : Nat} (h : 2 ≤ d) (h2 : d < 1000000) : i32 (d - 1) + Int32.ofInt (-1) = i32 (d - 2) := by
  rw [dec1 (by omega) (by omega)]; congr 1
theorem nar_i32 : ∀ z, z < 10 → vp_nar .byte (i32 (48 + z)) = i32 (48 + z) := by decide +kernel
theorem nar_fD1 {z : Nat} : vp_nar .byte (fD1 z) = fD1 z := nar_i32 (z % 10) (by omega)
theorem nar_fDX {z : Nat} (h : z < 100) : vp_nar .byte (fDX z) = fDX z := nar_i32 (z / 10) (by omega)
def wrd (f : Nat → Int32) (d z : Nat) : Nat → Int32 := if z < 10 then upd f (d - 1) (fD1 z) else upd (upd f (d - 1) (fD1 z)) (d - 2) (fDX z)
theorem wrd_1 {f : Nat → Int32} {d z : Nat} (h : z < 10) : wrd f d z = upd f (d - 1) (fD1 z) := if_pos h
theorem wrd_2 {f : Nat → Int32} {d z : Nat} (h : ¬ z < 10) : wrd f d z = upd (upd f (d - 1) (fD1 z)) (d - 2) (fDX z) := if_neg h
theorem fit_i32 : ∀ z, z < 10 → fits .byte (.int (i32 (48 + z))) = true := by decide +kernel
theorem dg_fit (z : Nat) (h : z < 100) : sb_Fit (fun j => (dg z).getD j 0) := by
  intro j
  unfold dg
  by_cases h1 : z < 10
  · rw [if_pos h1]
    match j with
    | 0 => exact fit_i32 z h1
    | j + 1 => exact sb_fit0 0
  · rw [if_neg h1]
    match j with
    | 0 => exact fit_i32 (z / 10) (by omega)
    | 1 => exact fit_i32 (z % 10) (by omega)
    | j + 2 => exact sb_fit0 0
theorem wrd_eq (f : Nat → Int32) (t z j : Nat) : wrd f (t + (dg z).length) z j = va_cpy (fun j => (dg z).getD j 0) f 0 t (dg z).length j := by
  by_cases h1 : z < 10
  · rw [wrd_1 h1, dg_1 h1]
    show upd f (t + 1 - 1) _ j = va_cpy _ f 0 t 1 j
    by_cases hj : j = t
    · subst hj
      rw [pk_cpy_in (by omega) (by omega)]
      simp [upd, fD1, i32, Nat.mod_eq_of_lt h1]
    · rw [pk_cpy_out (by omega)]
      simp [upd, hj]
  · rw [wrd_2 h1, dg_2 h1]
    show upd (upd f (t + 2 - 1) _) (t + 2 - 2) _ j = va_cpy _ f 0 t 2 j
    by_cases hj : j = t
    · subst hj
      rw [pk_cpy_in (by omega) (by omega)]
      simp [upd, fDX, i32]
    · by_cases hj2 : j = t + 1
      · subst hj2
        rw [pk_cpy_in (by omega) (by omega)]
        simp [upd, fD1, i32]
      · rw [pk_cpy_out (by omega)]
        simp [upd, hj, hj2]
def sbs_dig {tx : List Int32} {z : Nat} (v m : Nat) (f : Nat → Int32) (hz : z < 100) (h1 : capOK m) (h2 : tx.length + (dg z).length ≤ m) (h3 : ∀ j, j < tx.length → f j = tx.getD j 0) (h4 : sb_Fit f) : SBS (tx ++ dg z) :=
  ⟨(v, m, wrd f (tx.length + (dg z).length) z), by
    have e : wrd f (tx.length + (dg z).length) z = va_cpy (fun j => (dg z).getD j 0) f 0 tx.length (dg z).length := by funext j; exact wrd_eq f tx.length z j
    rw [e]
    exact (sbs_cat (tx := tx) (bs := dg z) v m f h1 h2 h3 h4 (dg_fit z hz)).2⟩
theorem clw_J4 : vwCl[1]? = some (RJ4, TJ4, 4) ∧ (∀ w ∈ u_ws RJ4 TJ4 4, w ∈ TT) := ⟨rfl, by decide +kernel⟩
theorem clw_J0 : vwCl[0]? = some (RJ0, TJ0, 4) ∧ (∀ w ∈ u_ws RJ0 TJ0 4, w ∈ TT) := ⟨rfl, by decide +kernel⟩
theorem zw_ab : Cond.arrayClass .byte ∈ TT := TT_of (i := 528) (by decide +kernel) rfl
theorem zw_22 : Cond.initialized RJ0 ∈ TT := TT_of (i := 22) (by decide +kernel) rfl
theorem zw_333 : Cond.methodLink RJ0 335 yJ0_coder_7d493 ∈ TT := TT_of (i := 333) (by decide +kernel) rfl
theorem zw_337 : Cond.fieldLink RJ0 38 "java/lang/String" "COMPACT_STRINGS" "Z" ∈ TT := TT_of (i := 337) (by decide +kernel) rfl
theorem zw_590 : Cond.methodLink RJ4 1 yJ5_init_d00df ∈ TT := TT_of (i := 590) (by decide +kernel) rfl
theorem zw_593 : Cond.methodLink RJ5 3 objectInit ∈ TT := TT_of (i := 593) (by decide +kernel) rfl
theorem zw_594 : Cond.fieldLink RJ5 18 "java/lang/String" "COMPACT_STRINGS" "Z" ∈ TT := TT_of (i := 594) (by decide +kernel) rfl
theorem zw_602 : Cond.fieldLink RJ5 15 (TJ4 0).1 (TJ4 0).2.1 (TJ4 0).2.2.1 ∈ TT := TT_of (i := 602) (by decide +kernel) rfl
theorem zw_603 : Cond.fieldLink RJ5 22 (TJ4 1).1 (TJ4 1).2.1 (TJ4 1).2.2.1 ∈ TT := TT_of (i := 603) (by decide +kernel) rfl
theorem zw_605 : Cond.fieldLink RJ5 79 (TJ4 3).1 (TJ4 3).2.1 (TJ4 3).2.2.1 ∈ TT := TT_of (i := 605) (by decide +kernel) rfl
theorem zw_620 : Cond.methodLink RJ4 29 yJ5_append_cf1ce ∈ TT := TT_of (i := 620) (by decide +kernel) rfl
theorem zw_627 : Cond.methodLink RJ5 100 yJ5_ensureCapacityInternal_d00df ∈ TT := TT_of (i := 627) (by decide +kernel) rfl
theorem zw_631 : Cond.methodLink RJ5 104 yJ5_newCapacity_0f7a4 ∈ TT := TT_of (i := 631) (by decide +kernel) rfl
theorem zw_635 : Cond.methodLink RJ5 114 yJ8_newLength_cabcc ∈ TT := TT_of (i := 635) (by decide +kernel) rfl
theorem zw_638 : Cond.methodLink RJ8 194 Lib.Math.max.name ∈ TT := TT_of (i := 638) (by decide +kernel) rfl
theorem zw_639 : Cond.constant RJ8 200 (2147483639 : Int32) ∈ TT := TT_of (i := 639) (by decide +kernel) rfl
theorem zw_643 : Cond.constant RJ5 39 (2147483647 : Int32) ∈ TT := TT_of (i := 643) (by decide +kernel) rfl
theorem zw_644 : Cond.methodLink RJ5 108 yJ7_copyOf_9075b ∈ TT := TT_of (i := 644) (by decide +kernel) rfl
theorem zw_654 : Cond.methodLink RJ7 304 Lib.Math.min.name ∈ TT := TT_of (i := 654) (by decide +kernel) rfl
theorem zw_655 : Cond.methodLink RJ7 150 arraycopyName ∈ TT := TT_of (i := 655) (by decide +kernel) rfl
theorem zw_656 : Cond.methodLink RJ5 83 yJ5_isLatin1_aae02 ∈ TT := TT_of (i := 656) (by decide +kernel) rfl
theorem zw_676 : Cond.methodLink RJ5 32 yJ0_length_8abf5 ∈ TT := TT_of (i := 676) (by decide +kernel) rfl
theorem zw_677 : Cond.methodLink RJ5 208 yJ5_putStringAt_47b60 ∈ TT := TT_of (i := 677) (by decide +kernel) rfl
theorem zw_681 : Cond.methodLink RJ5 397 yJ5_inflateIfNeededFor_a7421 ∈ TT := TT_of (i := 681) (by decide +kernel) rfl
theorem zw_685 : Cond.methodLink RJ5 40 yJ0_coder_7d493 ∈ TT := TT_of (i := 685) (by decide +kernel) rfl
theorem zw_705 : Cond.methodLink RJ5 399 yJ0_getBytes_840e7 ∈ TT := TT_of (i := 705) (by decide +kernel) rfl
theorem zw_709 : Cond.methodLink RJ0 212 arraycopyName ∈ TT := TT_of (i := 709) (by decide +kernel) rfl
theorem zw_715 : Cond.methodLink RJ4 53 yJ5_append_c97b9 ∈ TT := TT_of (i := 715) (by decide +kernel) rfl
theorem zw_718 : Cond.methodLink RJ5 245 yJ6_stringSize_0f7a4 ∈ TT := TT_of (i := 718) (by decide +kernel) rfl
theorem zw_721 : Cond.methodLink RJ5 248 yJ6_getChars_ba4f3 ∈ TT := TT_of (i := 721) (by decide +kernel) rfl
theorem zw_724 : Cond.fieldLink RJ6 83 "java/lang/Integer" "DigitOnes" "[B" ∈ TT := TT_of (i := 724) (by decide +kernel) rfl
theorem zw_726 : Cond.fieldLink RJ6 87 "java/lang/Integer" "DigitTens" "[B" ∈ TT := TT_of (i := 726) (by decide +kernel) rfl
theorem zw_747 : Cond.classLink RJ4 18 "java/lang/String" ∈ TT := TT_of (i := 747) (by decide +kernel) rfl
theorem zw_748 : Cond.instantiable RJ0 4 ∈ TT := TT_of (i := 748) (by decide +kernel) rfl
theorem zw_749 : Cond.methodLink RJ4 137 yJ0_init_81219 ∈ TT := TT_of (i := 749) (by decide +kernel) rfl
theorem zw_752 : Cond.methodLink RJ0 489 yJ0_init_db425 ∈ TT := TT_of (i := 752) (by decide +kernel) rfl
theorem zw_755 : Cond.methodLink RJ0 1 objectInit ∈ TT := TT_of (i := 755) (by decide +kernel) rfl
theorem zw_756 : Cond.methodLink RJ0 552 yJ5_getValue_6d5f1 ∈ TT := TT_of (i := 756) (by decide +kernel) rfl
theorem zw_761 : Cond.methodLink RJ0 549 yJ5_length_8abf5 ∈ TT := TT_of (i := 761) (by decide +kernel) rfl
theorem zw_767 : Cond.methodLink RJ4 343 yJ5_length_8abf5 ∈ TT := TT_of (i := 767) (by decide +kernel) rfl
theorem zw_769 : Cond.methodLink RJ0 1047 yJ5_isLatin1_aae02 ∈ TT := TT_of (i := 769) (by decide +kernel) rfl
theorem zw_770 : Cond.methodLink RJ0 54 yJ7_copyOfRange_39247 ∈ TT := TT_of (i := 770) (by decide +kernel) rfl
theorem zw_773 : Cond.methodLink RJ7 339 yJ7_copyOfRangeByte_39247 ∈ TT := TT_of (i := 773) (by decide +kernel) rfl
theorem zw_776 : Cond.methodLink RJ7 343 yJ7_checkLength_df160 ∈ TT := TT_of (i := 776) (by decide +kernel) rfl
theorem zw_789 : Cond.fieldLink RJ0 9 "java/lang/String" "value" "[B" ∈ TT := TT_of (i := 789) (by decide +kernel) rfl
theorem zw_790 : Cond.fieldLink RJ0 15 "java/lang/String" "coder" "B" ∈ TT := TT_of (i := 790) (by decide +kernel) rfl
theorem zc_T_J0_coder_7d493 : CV "java/lang/String" yJ0_coder_7d493 cJ0_coder_7d493 1 (some .byte) 0 := ⟨TT_of (i := 334) (by decide +kernel) rfl, TT_of (i := 335) (by decide +kernel) rfl, TT_of (i := 22) (by decide +kernel) rfl, TT_of (i := 336) (by decide +kernel) rfl, by decide +kernel⟩
theorem zc_S_J8_newLength_cabcc : CS yJ8_newLength_cabcc cJ8_newLength_cabcc 4 (some .int) 3 := ⟨TT_of (i := 636) (by decide +kernel) rfl, TT_of (i := 29) (by decide +kernel) rfl, TT_of (i := 637) (by decide +kernel) rfl, by decide +kernel⟩
theorem zc_U_J5_newCapacity_0f7a4 : CU RJ4 RJ5 yJ5_newCapacity_0f7a4 yJ5_newCapacity_0f7a4 cJ5_newCapacity_0f7a4 6 (some .int) 1 := ⟨TT_of (i := 886) (by decide +kernel) rfl, TT_sb (List.mem_map.mpr ⟨yJ5_newCapacity_0f7a4, by simp [ySB], rfl⟩), TT_of (i := 633) (by decide +kernel) rfl, TT_of (i := 27) (by decide +kernel) rfl, TT_of (i := 634) (by decide +kernel) rfl, by decide +kernel⟩
theorem zc_S_J7_copyOf_9075b : CS yJ7_copyOf_9075b cJ7_copyOf_9075b 3 (some (.array .byte)) 2 := ⟨TT_of (i := 645) (by decide +kernel) rfl, TT_of (i := 31) (by decide +kernel) rfl, TT_of (i := 646) (by decide +kernel) rfl, by decide +kernel⟩
theorem zc_U_J5_inflateIfNeededFor_a7421 : CU RJ4 RJ5 yJ5_inflateIfNeededFor_a7421 yJ5_inflateIfNeededFor_a7421 cJ5_inflateIfNeededFor_a7421 2 none 1 := ⟨TT_of (i := 888) (by decide +kernel) rfl, TT_sb (List.mem_map.mpr ⟨yJ5_inflateIfNeededFor_a7421, by simp [ySB], rfl⟩), TT_of (i := 683) (by decide +kernel) rfl, TT_of (i := 27) (by decide +kernel) rfl, TT_of (i := 684) (by decide +kernel) rfl, by decide +kernel⟩
theorem zc_T_J0_getBytes_840e7 : CV "java/lang/String" yJ0_getBytes_840e7 cJ0_getBytes_840e7 4 none 3 := ⟨TT_of (i := 706) (by decide +kernel) rfl, TT_of (i := 707) (by decide +kernel) rfl, TT_of (i := 22) (by decide +kernel) rfl, TT_of (i := 708) (by decide +kernel) rfl, by decide +kernel⟩
theorem zc_T_J0_length_8abf5 : CV "java/lang/String" yJ0_length_8abf5 cJ0_length_8abf5 1 (some .int) 0 := ⟨TT_of (i := 330) (by decide +kernel) rfl, TT_of (i := 331) (by decide +kernel) rfl, TT_of (i := 22) (by decide +kernel) rfl, TT_of (i := 332) (by decide +kernel) rfl, by decide +kernel⟩
theorem zc_U_J5_ensureCapacityInternal_d00df : CU RJ4 RJ5 yJ5_ensureCapacityInternal_d00df yJ5_ensureCapacityInternal_d00df cJ5_ensureCapacityInternal_d00df 3 none 1 := ⟨TT_of (i := 885) (by decide +kernel) rfl, TT_sb (List.mem_map.mpr ⟨yJ5_ensureCapacityInternal_d00df, by simp [ySB], rfl⟩), TT_of (i := 629) (by decide +kernel) rfl, TT_of (i := 27) (by decide +kernel) rfl, TT_of (i := 630) (by decide +kernel) rfl, by decide +kernel⟩
theorem zc_U_J5_putStringAt_47b60 : CU RJ4 RJ5 yJ5_putStringAt_47b60 yJ5_putStringAt_47b60 cJ5_putStringAt_47b60 3 none 2 := ⟨TT_of (i := 887) (by decide +kernel) rfl, TT_sb (List.mem_map.mpr ⟨yJ5_putStringAt_47b60, by simp [ySB], rfl⟩), TT_of (i := 679) (by decide +kernel) rfl, TT_of (i := 27) (by decide +kernel) rfl, TT_of (i := 680) (by decide +kernel) rfl, by decide +kernel⟩
theorem zc_Q_J5_append_cf1ce : CQ RJ4 yJ5_append_cf1ce cJ5_append_cf1ce 3 (some (.object "java/lang/AbstractStringBuilder")) 1 := ⟨TT_of (i := 883) (by decide +kernel) rfl, TT_of (i := 614) (by decide +kernel) rfl, TT_of (i := 621) (by decide +kernel) rfl, TT_of (i := 27) (by decide +kernel) rfl, TT_of (i := 622) (by decide +kernel) rfl, by decide +kernel⟩
theorem zc_S_J6_stringSize_0f7a4 : CS yJ6_stringSize_0f7a4 cJ6_stringSize_0f7a4 4 (some .int) 1 := ⟨TT_of (i := 719) (by decide +kernel) rfl, TT_of (i := 34) (by decide +kernel) rfl, TT_of (i := 720) (by decide +kernel) rfl, by decide +kernel⟩
theorem zc_U_J5_isLatin1_aae02 : CU RJ4 RJ5 yJ5_isLatin1_aae02 yJ5_isLatin1_aae02 cJ5_isLatin1_aae02 1 (some .boolean) 0 := ⟨TT_of (i := 658) (by decide +kernel) rfl, TT_of (i := 659) (by decide +kernel) rfl, TT_of (i := 657) (by decide +kernel) rfl, TT_of (i := 27) (by decide +kernel) rfl, TT_of (i := 660) (by decide +kernel) rfl, by decide +kernel⟩
theorem zc_S_J6_getChars_ba4f3 : CS yJ6_getChars_ba4f3 cJ6_getChars_ba4f3 7 (some .int) 3 := ⟨TT_of (i := 722) (by decide +kernel) rfl, TT_of (i := 34) (by decide +kernel) rfl, TT_of (i := 723) (by decide +kernel) rfl, by decide +kernel⟩
theorem zc_Q_J5_append_c97b9 : CQ RJ4 yJ5_append_c97b9 cJ5_append_c97b9 4 (some (.object "java/lang/AbstractStringBuilder")) 1 := ⟨TT_of (i := 890) (by decide +kernel) rfl, TT_of (i := 614) (by decide +kernel) rfl, TT_of (i := 716) (by decide +kernel) rfl, TT_of (i := 27) (by decide +kernel) rfl, TT_of (i := 717) (by decide +kernel) rfl, by decide +kernel⟩
theorem zc_I_J5_init_d00df : Cond.instanceMethod yJ5_init_d00df ∈ TT ∧ Cond.initialized yJ5_init_d00df.cls ∈ TT ∧ Cond.code yJ5_init_d00df cJ5_init_d00df 2 none ∈ TT ∧ (yJ5_init_d00df.cls ≠ "java/lang/invoke/MethodHandle" ∧ yJ5_init_d00df.cls ≠ "java/lang/invoke/VarHandle" ∧ (parseMethodDescriptor yJ5_init_d00df.desc).map (fun d => d.parameters.length) = some 1) := ⟨TT_of (i := 591) (by decide +kernel) rfl, TT_of (i := 27) (by decide +kernel) rfl, TT_of (i := 592) (by decide +kernel) rfl, by decide +kernel⟩
theorem zc_Q_J5_length_8abf5 : CQ RJ4 yJ5_length_8abf5 cJ5_length_8abf5 1 (some .int) 0 := ⟨TT_of (i := 763) (by decide +kernel) rfl, TT_of (i := 614) (by decide +kernel) rfl, TT_of (i := 762) (by decide +kernel) rfl, TT_of (i := 27) (by decide +kernel) rfl, TT_of (i := 768) (by decide +kernel) rfl, by decide +kernel⟩
theorem zc_S_J7_checkLength_df160 : CS yJ7_checkLength_df160 cJ7_checkLength_df160 2 none 2 := ⟨TT_of (i := 777) (by decide +kernel) rfl, TT_of (i := 31) (by decide +kernel) rfl, TT_of (i := 778) (by decide +kernel) rfl, by decide +kernel⟩
theorem zc_S_J7_copyOfRangeByte_39247 : CS yJ7_copyOfRangeByte_39247 cJ7_copyOfRangeByte_39247 5 (some (.array .byte)) 3 := ⟨TT_of (i := 774) (by decide +kernel) rfl, TT_of (i := 31) (by decide +kernel) rfl, TT_of (i := 775) (by decide +kernel) rfl, by decide +kernel⟩
theorem zc_U_J5_getValue_6d5f1 : CU RJ4 RJ5 yJ5_getValue_6d5f1 yJ5_getValue_6d5f1 cJ5_getValue_6d5f1 1 (some (.array .byte)) 0 := ⟨TT_of (i := 758) (by decide +kernel) rfl, TT_of (i := 759) (by decide +kernel) rfl, TT_of (i := 757) (by decide +kernel) rfl, TT_of (i := 27) (by decide +kernel) rfl, TT_of (i := 760) (by decide +kernel) rfl, by decide +kernel⟩
theorem zc_O_J4_length_8abf5 : CO RJ4 RJ5 yJ5_length_8abf5 yJ4_length_8abf5 cJ4_length_8abf5 1 (some .int) 0 := ⟨TT_of (i := 763) (by decide +kernel) rfl, TT_of (i := 762) (by decide +kernel) rfl, TT_of (i := 764) (by decide +kernel) rfl, TT_of (i := 765) (by decide +kernel) rfl, TT_of (i := 28) (by decide +kernel) rfl, TT_of (i := 766) (by decide +kernel) rfl, ⟨cJ5_length_8abf5, 1, (some .int), TT_of (i := 768) (by decide +kernel) rfl⟩, by decide +kernel⟩
theorem zc_S_J7_copyOfRange_39247 : CS yJ7_copyOfRange_39247 cJ7_copyOfRange_39247 3 (some (.array .byte)) 3 := ⟨TT_of (i := 771) (by decide +kernel) rfl, TT_of (i := 31) (by decide +kernel) rfl, TT_of (i := 772) (by decide +kernel) rfl, by decide +kernel⟩
theorem zc_I_J0_init_db425 : Cond.instanceMethod yJ0_init_db425 ∈ TT ∧ Cond.initialized yJ0_init_db425.cls ∈ TT ∧ Cond.code yJ0_init_db425 cJ0_init_db425 5 none ∈ TT ∧ (yJ0_init_db425.cls ≠ "java/lang/invoke/MethodHandle" ∧ yJ0_init_db425.cls ≠ "java/lang/invoke/VarHandle" ∧ (parseMethodDescriptor yJ0_init_db425.desc).map (fun d => d.parameters.length) = some 2) := ⟨TT_of (i := 753) (by decide +kernel) rfl, TT_of (i := 22) (by decide +kernel) rfl, TT_of (i := 754) (by decide +kernel) rfl, by decide +kernel⟩
theorem zc_I_J0_init_81219 : Cond.instanceMethod yJ0_init_81219 ∈ TT ∧ Cond.initialized yJ0_init_81219.cls ∈ TT ∧ Cond.code yJ0_init_81219 cJ0_init_81219 2 none ∈ TT ∧ (yJ0_init_81219.cls ≠ "java/lang/invoke/MethodHandle" ∧ yJ0_init_81219.cls ≠ "java/lang/invoke/VarHandle" ∧ (parseMethodDescriptor yJ0_init_81219.desc).map (fun d => d.parameters.length) = some 1) := ⟨TT_of (i := 750) (by decide +kernel) rfl, TT_of (i := 22) (by decide +kernel) rfl, TT_of (i := 751) (by decide +kernel) rfl, by decide +kernel⟩
set_option maxRecDepth 100000 in
set_option maxHeartbeats 4000000 in
theorem c_coder {l : Launch} {D : va_G} {tys : List (ClassId × FieldType)} {cB : ClassId} (ht4 : tys[4]? = some (cB, .byte)) {sa : SA} (i : Nat) (hi : i < sa.2.1.length) (bs : List Int32) (hbs : sa.2.1.getD i [] = bs) : CEi l yJ0_coder_7d493 (wsm yJ0_coder_7d493 cJ0_coder_7d493 1 (some .byte)) 1 0 0 D tys sa [] [.ref (sa.1 (10 + 2 * i))] (fun u : Unit => (0 : Int32)) (fun u : Unit => []) := by
  refine ce_of (fun A => QEi D (fun u : Unit => (0 : Int32)) (fun u : Unit => []) A) RJ0 rfl (by decide +kernel) (Nat.le_of_ble_eq_true rfl) rfl ?_
  intro p0 e0 R0 s0_ m0_ args0 below0 meth0 c0_ A0 C hRc hRs hin hr
  refine vx_comp C zw_337 dJ0_coder_7d493_0 3 rfl ?_
  refine vx_if_eqF C 13 dJ0_coder_7d493_3 (by decide) (by decide) 6 rfl ?_
  refine vv_aload_n C 0 dJ0_coder_7d493_6 rfl rfl 7 rfl ?_
  refine vx_scod C i hi zw_790 dJ0_coder_7d493_7 10 rfl ?_
  refine vv_goto C 14 dJ0_coder_7d493_10 (by decide) ?_
  exact vx_zret C () rfl rfl (by omega) (by omega) dJ0_coder_7d493_14 hr rfl

set_option maxRecDepth 100000 in
set_option maxHeartbeats 4000000 in
theorem c_length {l : Launch} {D : va_G} {tys : List (ClassId × FieldType)} {cB : ClassId} (ht4 : tys[4]? = some (cB, .byte)) {sa : SA} (i : Nat) (hi : i < sa.2.1.length) (bs : List Int32) (hbs : sa.2.1.getD i [] = bs) : CEi l yJ0_length_8abf5 (wsm yJ0_length_8abf5 cJ0_length_8abf5 1 (some .int)) 2 0 0 D tys sa [] [.ref (sa.1 (10 + 2 * i))] (fun u : Unit => Int32.ofNat bs.length) (fun u : Unit => []) := by
  have hbl : Int32.ofNat ((sa.2.1.map List.length).getD i 0) = Int32.ofNat bs.length := by rw [lenS, hbs]
  refine ce_of (fun A => QEi D (fun u : Unit => Int32.ofNat bs.length) (fun u : Unit => []) A) RJ0 rfl (by decide +kernel) (Nat.le_of_ble_eq_true rfl) rfl ?_
  intro p0 e0 R0 s0_ m0_ args0 below0 meth0 c0_ A0 C hRc hRs hin hr
  refine vv_aload_n C 0 dJ0_length_8abf5_0 rfl rfl 1 rfl ?_
  refine vx_sval C i hi zw_789 dJ0_length_8abf5_1 4 rfl ?_
  refine vx_blen C i hi (Int32.ofNat bs.length) hbl dJ0_length_8abf5_4 5 rfl ?_
  refine vv_aload_n C 0 dJ0_length_8abf5_5 rfl rfl 6 rfl ?_
  refine vx_callTi C (As := []) (st := [.int (Int32.ofNat bs.length)]) [] [] [] [] rfl rfl (by decide) (by decide) (by decide) i hi (c_coder ht4 i hi bs hbs) zw_333 zc_T_J0_coder_7d493 (by decide) (by decide) rfl rfl (Nat.le_of_ble_eq_true rfl) (by rw [hRc]; first | omega | exact Nat.le_of_ble_eq_true rfl) (by rw [hRs]; first | omega | exact Nat.le_of_ble_eq_true rfl) dJ0_length_8abf5_6 (0) (0) rfl rfl 9 rfl (fun _ => ?_)
  refine vv_ws (ws2 := []) rfl ?_
  refine vx_ishr C dJ0_length_8abf5_9 10 rfl ?_
  rw [show ((Int32.ofNat bs.length) >>> ((0 : Int32) &&& 31)) = Int32.ofNat bs.length from sb_shr0 _]
  exact vx_iret C () rfl rfl (by omega) (by omega) dJ0_length_8abf5_10 hr

set_option maxRecDepth 100000 in
set_option maxHeartbeats 4000000 in
theorem c_isL {l : Launch} {D : va_G} {tys : List (ClassId × FieldType)} {cB : ClassId} (ht4 : tys[4]? = some (cB, .byte)) {sa : SA} (q v : Nat) (nn : Int32) : CEi l yJ5_isLatin1_aae02 (wsm yJ5_isLatin1_aae02 cJ5_isLatin1_aae02 1 (some .boolean)) 1 0 0 D tys sa [(q, .inr (1, [.ref v, .int 0, .int 0, .int nn]))] [.ref q] (fun u : Unit => (1 : Int32)) (fun u : Unit => [(q, .inr (1, [.ref v, .int 0, .int 0, .int nn]))]) := by
  refine ce_of (fun A => QEi D (fun u : Unit => (1 : Int32)) (fun u : Unit => [(q, .inr (1, [.ref v, .int 0, .int 0, .int nn]))]) A) RJ5 rfl (by decide +kernel) (Nat.le_of_ble_eq_true rfl) rfl ?_
  intro p0 e0 R0 s0_ m0_ args0 below0 meth0 c0_ A0 C hRc hRs hin hr
  refine vx_comp C zw_594 dJ5_isLatin1_aae02_0 3 rfl ?_
  refine vx_if_eqF C 17 dJ5_isLatin1_aae02_3 (by decide) (by decide) 6 rfl ?_
  refine vv_aload_n C 0 dJ5_isLatin1_aae02_6 rfl rfl 7 rfl ?_
  refine vv_get C clw_J4 0 rfl 1 (by decide) zw_603 (.int 0) rfl dJ5_isLatin1_aae02_7 10 rfl ?_
  refine vx_if_neF C 17 dJ5_isLatin1_aae02_10 (by decide) (fun h => h rfl) 13 rfl ?_
  refine vv_iconst C (1 : Int32) dJ5_isLatin1_aae02_13 (by decide) 14 rfl ?_
  refine vv_goto C 18 dJ5_isLatin1_aae02_14 (by decide) ?_
  exact vx_zret C () rfl rfl (by omega) (by omega) dJ5_isLatin1_aae02_18 hr rfl

set_option maxRecDepth 100000 in
set_option maxHeartbeats 4000000 in
theorem c_newLen {l : Launch} {D : va_G} {tys : List (ClassId × FieldType)} {cB : ClassId} (ht4 : tys[4]? = some (cB, .byte)) {sa : SA} (x y z v : Int32) (hv : x + (if y < z then z else y) = v) (h0 : ¬ v ≤ 0) (h1 : ¬ (2147483639 : Int32) < v) : CEi l yJ8_newLength_cabcc (wsm yJ8_newLength_cabcc cJ8_newLength_cabcc 4 (some .int)) 2 0 0 D tys sa [] [.int x, .int y, .int z] (fun u : Unit => v) (fun u : Unit => []) := by
  refine ce_of (fun A => QEi D (fun u : Unit => v) (fun u : Unit => []) A) RJ8 rfl (by decide +kernel) (Nat.le_of_ble_eq_true rfl) rfl ?_
  intro p0 e0 R0 s0_ m0_ args0 below0 meth0 c0_ A0 C hRc hRs hin hr
  refine vv_iload_n C 0 dJ8_newLength_cabcc_0 rfl rfl 1 rfl ?_
  refine vv_iload_n C 1 dJ8_newLength_cabcc_1 rfl rfl 2 rfl ?_
  refine vv_iload_n C 2 dJ8_newLength_cabcc_2 rfl rfl 3 rfl ?_
  refine vx_max C (if y < z then z else y) rfl zw_638 wm_max (by decide) (Nat.le_of_ble_eq_true rfl) ⟨by rw [hRc]; omega, by rw [hRs]; omega⟩ dJ8_newLength_cabcc_3 6 rfl ?_
  refine vx_iadd C dJ8_newLength_cabcc_6 7 rfl ?_
  rw [show (x + (if y < z then z else y)) = v from hv]
  refine vv_istore_n C [(3, .int v), (0, .int x), (1, .int y), (2, .int z)] dJ8_newLength_cabcc_7 rfl (by decide) rfl 8 rfl ?_
  refine vv_iconst C (0 : Int32) dJ8_newLength_cabcc_8 (by decide) 9 rfl ?_
  refine vv_iload_n C 0 dJ8_newLength_cabcc_9 rfl rfl 10 rfl ?_
  refine vx_icmp_geF C 21 dJ8_newLength_cabcc_10 (by decide) h0 13 rfl ?_
  refine vv_iload_n C 0 dJ8_newLength_cabcc_13 rfl rfl 14 rfl ?_
  refine vx_ldc C (2147483639 : Int32) zw_639 dJ8_newLength_cabcc_14 16 rfl ?_
  refine vx_icmp_gtF C 21 dJ8_newLength_cabcc_16 (by decide) h1 19 rfl ?_
  refine vv_iload_n C 0 dJ8_newLength_cabcc_19 rfl rfl 20 rfl ?_
  exact vx_iret C () rfl rfl (by omega) (by omega) dJ8_newLength_cabcc_20 hr

set_option maxRecDepth 100000 in
set_option maxHeartbeats 4000000 in
theorem c_newCap {l : Launch} {D : va_G} {tys : List (ClassId × FieldType)} {cB : ClassId} (ht4 : tys[4]? = some (cB, .byte)) {sa : SA} (q v m c : Nat) (f : Nat → Int32) (nn : Int32) (hm : m ≤ 1000) (hmc : m ≤ c) (hc : c ≤ 2 * m + 2) : CEi l yJ5_newCapacity_0f7a4 (wsm yJ5_newCapacity_0f7a4 cJ5_newCapacity_0f7a4 6 (some .int)) 3 0 0 D tys sa [(q, .inr (1, [.ref v, .int 0, .int 0, .int nn])), (v, .inl (cB, m, .inl f))] [.ref q, .int (i32 c)] (fun u : Unit => i32 (2 * m + 2)) (fun u : Unit => [(q, .inr (1, [.ref v, .int 0, .int 0, .int nn])), (v, .inl (cB, m, .inl f))]) := by
  refine ce_of (fun A => QEi D (fun u : Unit => i32 (2 * m + 2)) (fun u : Unit => [(q, .inr (1, [.ref v, .int 0, .int 0, .int nn])), (v, .inl (cB, m, .inl f))]) A) RJ5 rfl (by decide +kernel) (Nat.le_of_ble_eq_true rfl) rfl ?_
  intro p0 e0 R0 s0_ m0_ args0 below0 meth0 c0_ A0 C hRc hRs hin hr
  refine vv_aload_n C 0 dJ5_newCapacity_0f7a4_0 rfl rfl 1 rfl ?_
  refine vv_get C clw_J4 0 rfl 0 (by decide) zw_602 (.ref v) rfl dJ5_newCapacity_0f7a4_1 4 rfl ?_
  refine vx_alen C 1 4 ht4 rfl (Int32.ofNat m) rfl dJ5_newCapacity_0f7a4_4 5 rfl ?_
  refine vv_istore_n C [(2, .int (Int32.ofNat m)), (0, .ref q), (1, .int (i32 c))] dJ5_newCapacity_0f7a4_5 rfl (by decide) rfl 6 rfl ?_
  refine vv_iload_n C 2 dJ5_newCapacity_0f7a4_6 rfl rfl 7 rfl ?_
  refine vv_aload_n C 1 dJ5_newCapacity_0f7a4_7 rfl rfl 8 rfl ?_
  refine vv_get C clw_J4 0 rfl 1 (by decide) zw_603 (.int 0) rfl dJ5_newCapacity_0f7a4_8 11 rfl ?_
  refine vx_ishl C dJ5_newCapacity_0f7a4_11 12 rfl ?_
  rw [show ((i32 c) <<< (0 &&& 31)) = i32 c from sb_shl0 _]
  refine vv_istore_n C [(3, .int (i32 c)), (2, .int (Int32.ofNat m)), (0, .ref q), (1, .int (i32 c))] dJ5_newCapacity_0f7a4_12 rfl (by decide) rfl 13 rfl ?_
  refine vv_iload_n C 0 dJ5_newCapacity_0f7a4_13 rfl rfl 14 rfl ?_
  refine vv_iload_n C 1 dJ5_newCapacity_0f7a4_14 rfl rfl 15 rfl ?_
  refine vx_isub C dJ5_newCapacity_0f7a4_15 16 rfl ?_
  rw [show ((i32 c) - (Int32.ofNat m)) = i32 (c - m) from i32_sub hmc]
  refine vx_istore C [(4, .int (i32 (c - m))), (3, .int (i32 c)), (2, .int (Int32.ofNat m)), (0, .ref q), (1, .int (i32 c))] dJ5_newCapacity_0f7a4_16 (by decide) rfl 18 rfl ?_
  refine vv_iload_n C 2 dJ5_newCapacity_0f7a4_18 rfl rfl 19 rfl ?_
  refine vx_iload C 0 dJ5_newCapacity_0f7a4_19 rfl 21 rfl ?_
  refine vv_iload_n C 2 dJ5_newCapacity_0f7a4_21 rfl rfl 22 rfl ?_
  refine vv_iconst C (2 : Int32) dJ5_newCapacity_0f7a4_22 (by decide) 23 rfl ?_
  refine vv_aload_n C 3 dJ5_newCapacity_0f7a4_23 rfl rfl 24 rfl ?_
  refine vv_get C clw_J4 0 rfl 1 (by decide) zw_603 (.int 0) rfl dJ5_newCapacity_0f7a4_24 27 rfl ?_
  refine vx_ishl C dJ5_newCapacity_0f7a4_27 28 rfl ?_
  rw [show ((2 : Int32) <<< (0 &&& 31)) = (2 : Int32) from sb_shl0 _]
  refine vx_iadd C dJ5_newCapacity_0f7a4_28 29 rfl ?_
  rw [show ((Int32.ofNat m) + (2 : Int32)) = i32 (m + 2) from i32_add m 2]
  refine vx_callSi C (As := [.int (Int32.ofNat m), .int (i32 (c - m)), .int (i32 (m + 2))]) (st := []) [] [0, 1] [] [(q, .inr (1, [.ref v, .int 0, .int 0, .int nn])), (v, .inl (cB, m, .inl f))] rfl rfl (by decide) (by decide) (by decide) (c_newLen ht4 (Int32.ofNat m) (i32 (c - m)) (i32 (m + 2)) (i32 (2 * m + 2)) (newlen_eq hm hc) (i32_nle0 (by omega)) (i32_nlt (b := 2147483639) (by omega) (by omega))) zw_635 zc_S_J8_newLength_cabcc (by decide) (by decide) rfl rfl (Nat.le_of_ble_eq_true rfl) (by rw [hRc]; first | omega | exact Nat.le_of_ble_eq_true rfl) (by rw [hRs]; first | omega | exact Nat.le_of_ble_eq_true rfl) dJ5_newCapacity_0f7a4_29 (0) (0) rfl rfl 32 rfl (fun _ => ?_)
  refine vv_ws (ws2 := [(q, .inr (1, [.ref v, .int 0, .int 0, .int nn])), (v, .inl (cB, m, .inl f))]) rfl ?_
  refine vx_istore C [(5, .int (i32 (2 * m + 2))), (4, .int (i32 (c - m))), (3, .int (i32 c)), (2, .int (Int32.ofNat m)), (0, .ref q), (1, .int (i32 c))] dJ5_newCapacity_0f7a4_32 (by decide) rfl 34 rfl ?_
  refine vx_iload C 0 dJ5_newCapacity_0f7a4_34 rfl 36 rfl ?_
  refine vx_ldc C (2147483647 : Int32) zw_643 dJ5_newCapacity_0f7a4_36 38 rfl ?_
  refine vx_icmp_neT C 51 dJ5_newCapacity_0f7a4_38 (by decide) (fun h => by have := (i32_inj (a := 2 * m + 2) (b := 2147483647) (by omega) (by omega)).mp h; omega) ?_
  refine vx_iload C 0 dJ5_newCapacity_0f7a4_51 rfl 53 rfl ?_
  refine vv_aload_n C 4 dJ5_newCapacity_0f7a4_53 rfl rfl 54 rfl ?_
  refine vv_get C clw_J4 0 rfl 1 (by decide) zw_603 (.int 0) rfl dJ5_newCapacity_0f7a4_54 57 rfl ?_
  refine vx_ishr C dJ5_newCapacity_0f7a4_57 58 rfl ?_
  rw [show ((i32 (2 * m + 2)) >>> (0 &&& 31)) = i32 (2 * m + 2) from sb_shr0 _]
  exact vx_iret C () rfl rfl (by omega) (by omega) dJ5_newCapacity_0f7a4_58 hr

set_option maxRecDepth 100000 in
set_option maxHeartbeats 4000000 in
theorem c_copyOf {l : Launch} {D : va_G} {tys : List (ClassId × FieldType)} {cB : ClassId} (ht4 : tys[4]? = some (cB, .byte)) {sa : SA} (v m z : Nat) (f : Nat → Int32) (hz : m < z) (hz2 : z ≤ 300) (hf : sb_Fit f) : CEr l yJ7_copyOf_9075b (wsm yJ7_copyOf_9075b cJ7_copyOf_9075b 3 (some (.array .byte))) 2 1 300 D tys sa [(v, .inl (cB, m, .inl f))] [.ref v, .int (i32 z)] (fun u : Nat => u) (fun u : Nat => [(v, .inl (cB, m, .inl f)), (u, .inl (cB, z, .inl (va_cpy f (fun _ => 0) 0 0 m)))]) := by
  refine ce_of (fun A => QEr D (fun u : Nat => u) (fun u : Nat => [(v, .inl (cB, m, .inl f)), (u, .inl (cB, z, .inl (va_cpy f (fun _ => 0) 0 0 m)))]) A) RJ7 rfl (by decide +kernel) (Nat.le_of_ble_eq_true rfl) rfl ?_
  intro p0 e0 R0 s0_ m0_ args0 below0 meth0 c0_ A0 C hRc hRs hin hr
  refine vv_iload_n C 1 dJ7_copyOf_9075b_0 rfl rfl 1 rfl ?_
  refine vv_aload_n C 0 dJ7_copyOf_9075b_1 rfl rfl 2 rfl ?_
  refine vx_alen C 0 4 ht4 rfl (Int32.ofNat m) rfl dJ7_copyOf_9075b_2 3 rfl ?_
  refine vx_icmp_neT C 14 dJ7_copyOf_9075b_3 (by decide) (fun h => by have := (i32_inj (a := z) (b := m) (by omega) (by omega)).mp h; omega) ?_
  refine vv_iload_n C 1 dJ7_copyOf_9075b_14 rfl rfl 15 rfl ?_
  refine vx_newb C 4 ht4 zw_ab z (i32_nn (by omega)) (i32_tn (by omega)) (by omega) (by rw [hRc]; omega) (by rw [hRs]; omega) dJ7_copyOf_9075b_15 (0 + 1) (0 + z) rfl rfl 17 rfl (fun q0 => ?_)
  refine vv_ws (ws2 := [(v, .inl (cB, m, .inl f)), (q0, .inl (cB, z, .inl (fun _ => 0)))]) rfl ?_
  refine vv_astore_n C [(2, .ref q0), (0, .ref v), (1, .int (i32 z))] dJ7_copyOf_9075b_17 rfl (by decide) rfl 18 rfl ?_
  refine vv_aload_n C 1 dJ7_copyOf_9075b_18 rfl rfl 19 rfl ?_
  refine vv_iconst C (0 : Int32) dJ7_copyOf_9075b_19 (by decide) 20 rfl ?_
  refine vv_aload_n C 0 dJ7_copyOf_9075b_20 rfl rfl 21 rfl ?_
  refine vv_iconst C (0 : Int32) dJ7_copyOf_9075b_21 (by decide) 22 rfl ?_
  refine vv_aload_n C 1 dJ7_copyOf_9075b_22 rfl rfl 23 rfl ?_
  refine vx_alen C 0 4 ht4 rfl (Int32.ofNat m) rfl dJ7_copyOf_9075b_23 24 rfl ?_
  refine vv_iload_n C 2 dJ7_copyOf_9075b_24 rfl rfl 25 rfl ?_
  refine vx_min C (i32 m) (if_neg (i32_nlt (a := m) (b := z) (by omega) (by omega))) zw_654 wm_min (by decide) (Nat.le_of_ble_eq_true rfl) ⟨by rw [hRc]; omega, by rw [hRs]; omega⟩ dJ7_copyOf_9075b_25 28 rfl ?_
  refine vx_copyW C 0 1 4 rfl rfl ht4 (cp_ok (a := 0) (b := 0) (c := m) (by omega) (by omega) (by omega)) hf zw_655 wm_copy (by decide) (Nat.le_of_ble_eq_true rfl) [(v, .inl (cB, m, .inl f)), (q0, .inl (cB, z, .inl (va_cpy f (fun _ => 0) 0 0 m)))] (by rw [i32_tn (by omega), sb_cl0]; rfl) dJ7_copyOf_9075b_28 31 rfl ?_
  refine vv_aload_n C 0 dJ7_copyOf_9075b_31 rfl rfl 32 rfl ?_
  exact vx_aret C q0 rfl rfl (by omega) (by omega) dJ7_copyOf_9075b_32 hr (by first | exact Or.inl ⟨_, rfl⟩ | exact Or.inr ⟨_, rfl⟩)

set_option maxRecDepth 100000 in
set_option maxHeartbeats 4000000 in
theorem c_ensure {l : Launch} {D : va_G} {tys : List (ClassId × FieldType)} {cB : ClassId} (ht4 : tys[4]? = some (cB, .byte)) {sa : SA} (q v m c : Nat) (f : Nat → Int32) (nn : Int32) (hm : capOK m) (hc : c ≤ m + 18) (hc2 : c ≤ 142) (hf : sb_Fit f) : CI l yJ5_ensureCapacityInternal_d00df (wsm yJ5_ensureCapacityInternal_d00df cJ5_ensureCapacityInternal_d00df 3 none) 4 1 300 D tys sa [(q, .inr (1, [.ref v, .int 0, .int 0, .int nn])), (v, .inl (cB, m, .inl f))] [.ref q, .int (i32 c)] (fun u : {u : Nat × Nat × (Nat → Int32) // capOK u.2.1 ∧ c ≤ u.2.1 ∧ (∀ j, j < m → j < u.2.1 ∧ u.2.2 j = f j) ∧ sb_Fit u.2.2} => [(q, .inr (1, [.ref u.1.1, .int 0, .int 0, .int nn])), (u.1.1, .inl (cB, u.1.2.1, .inl u.1.2.2))]) := by
  have hmb := capOK_b hm
  refine ce_of (fun A => QEv D (fun u : {u : Nat × Nat × (Nat → Int32) // capOK u.2.1 ∧ c ≤ u.2.1 ∧ (∀ j, j < m → j < u.2.1 ∧ u.2.2 j = f j) ∧ sb_Fit u.2.2} => [(q, .inr (1, [.ref u.1.1, .int 0, .int 0, .int nn])), (u.1.1, .inl (cB, u.1.2.1, .inl u.1.2.2))]) A) RJ5 rfl (by decide +kernel) (Nat.le_of_ble_eq_true rfl) rfl ?_
  intro p0 e0 R0 s0_ m0_ args0 below0 meth0 c0_ A0 C hRc hRs hin hr
  by_cases hcm : c ≤ m
  · skip
    refine vv_aload_n C 0 dJ5_ensureCapacityInternal_d00df_0 rfl rfl 1 rfl ?_
    refine vv_get C clw_J4 0 rfl 0 (by decide) zw_602 (.ref v) rfl dJ5_ensureCapacityInternal_d00df_1 4 rfl ?_
    refine vx_alen C 1 4 ht4 rfl (Int32.ofNat m) rfl dJ5_ensureCapacityInternal_d00df_4 5 rfl ?_
    refine vv_aload_n C 0 dJ5_ensureCapacityInternal_d00df_5 rfl rfl 6 rfl ?_
    refine vv_get C clw_J4 0 rfl 1 (by decide) zw_603 (.int 0) rfl dJ5_ensureCapacityInternal_d00df_6 9 rfl ?_
    refine vx_ishr C dJ5_ensureCapacityInternal_d00df_9 10 rfl ?_
    rw [show ((Int32.ofNat m) >>> (0 &&& 31)) = i32 m from sb_shr0 _]
    refine vv_istore_n C [(2, .int (i32 m)), (0, .ref q), (1, .int (i32 c))] dJ5_ensureCapacityInternal_d00df_10 rfl (by decide) rfl 11 rfl ?_
    refine vv_iload_n C 2 dJ5_ensureCapacityInternal_d00df_11 rfl rfl 12 rfl ?_
    refine vv_iload_n C 0 dJ5_ensureCapacityInternal_d00df_12 rfl rfl 13 rfl ?_
    refine vx_isub C dJ5_ensureCapacityInternal_d00df_13 14 rfl ?_
    refine vx_if_leT C 38 dJ5_ensureCapacityInternal_d00df_14 (by decide) (i32_sub_le0 hcm (by omega)) ?_
    exact vx_vret C (⟨(v, m, f), hm, hcm, fun j hj => ⟨hj, rfl⟩, hf⟩ : {u : Nat × Nat × (Nat → Int32) // capOK u.2.1 ∧ c ≤ u.2.1 ∧ (∀ j, j < m → j < u.2.1 ∧ u.2.2 j = f j) ∧ sb_Fit u.2.2}) rfl (by omega) (by omega) dJ5_ensureCapacityInternal_d00df_38 hr
  · skip
    refine vv_aload_n C 0 dJ5_ensureCapacityInternal_d00df_0 rfl rfl 1 rfl ?_
    refine vv_get C clw_J4 0 rfl 0 (by decide) zw_602 (.ref v) rfl dJ5_ensureCapacityInternal_d00df_1 4 rfl ?_
    refine vx_alen C 1 4 ht4 rfl (Int32.ofNat m) rfl dJ5_ensureCapacityInternal_d00df_4 5 rfl ?_
    refine vv_aload_n C 0 dJ5_ensureCapacityInternal_d00df_5 rfl rfl 6 rfl ?_
    refine vv_get C clw_J4 0 rfl 1 (by decide) zw_603 (.int 0) rfl dJ5_ensureCapacityInternal_d00df_6 9 rfl ?_
    refine vx_ishr C dJ5_ensureCapacityInternal_d00df_9 10 rfl ?_
    rw [show ((Int32.ofNat m) >>> (0 &&& 31)) = i32 m from sb_shr0 _]
    refine vv_istore_n C [(2, .int (i32 m)), (0, .ref q), (1, .int (i32 c))] dJ5_ensureCapacityInternal_d00df_10 rfl (by decide) rfl 11 rfl ?_
    refine vv_iload_n C 2 dJ5_ensureCapacityInternal_d00df_11 rfl rfl 12 rfl ?_
    refine vv_iload_n C 0 dJ5_ensureCapacityInternal_d00df_12 rfl rfl 13 rfl ?_
    refine vx_isub C dJ5_ensureCapacityInternal_d00df_13 14 rfl ?_
    refine vx_if_leF C 38 dJ5_ensureCapacityInternal_d00df_14 (by decide) (i32_sub_nle0 (by omega) (by omega)) 17 rfl ?_
    refine vv_aload_n C 1 dJ5_ensureCapacityInternal_d00df_17 rfl rfl 18 rfl ?_
    refine vv_aload_n C 1 dJ5_ensureCapacityInternal_d00df_18 rfl rfl 19 rfl ?_
    refine vv_get C clw_J4 0 rfl 0 (by decide) zw_602 (.ref v) rfl dJ5_ensureCapacityInternal_d00df_19 22 rfl ?_
    refine vv_aload_n C 1 dJ5_ensureCapacityInternal_d00df_22 rfl rfl 23 rfl ?_
    refine vv_iload_n C 2 dJ5_ensureCapacityInternal_d00df_23 rfl rfl 24 rfl ?_
    refine vx_callUi C (As := [.int (i32 c)]) (st := [.ref v, .ref q]) [0, 1] [] [(q, .inr (1, [.ref v, .int 0, .int 0, .int nn])), (v, .inl (cB, m, .inl f))] [] rfl rfl (by decide) (by decide) (by decide) 1 clw_J4.1 0 rfl (c_newCap ht4 q v m c f nn (by omega) (by omega) (capOK_g hm hc)) zw_631 zc_U_J5_newCapacity_0f7a4 (by decide) (by decide) rfl rfl (Nat.le_of_ble_eq_true rfl) (by rw [hRc]; first | omega | exact Nat.le_of_ble_eq_true rfl) (by rw [hRs]; first | omega | exact Nat.le_of_ble_eq_true rfl) dJ5_ensureCapacityInternal_d00df_24 (0) (0) rfl rfl 27 rfl (fun _ => ?_)
    refine vv_ws (ws2 := [(q, .inr (1, [.ref v, .int 0, .int 0, .int nn])), (v, .inl (cB, m, .inl f))]) rfl ?_
    refine vv_aload_n C 1 dJ5_ensureCapacityInternal_d00df_27 rfl rfl 28 rfl ?_
    refine vv_get C clw_J4 0 rfl 1 (by decide) zw_603 (.int 0) rfl dJ5_ensureCapacityInternal_d00df_28 31 rfl ?_
    refine vx_ishl C dJ5_ensureCapacityInternal_d00df_31 32 rfl ?_
    rw [show ((i32 (2 * m + 2)) <<< (0 &&& 31)) = i32 (2 * m + 2) from sb_shl0 _]
    refine vx_callSr C (As := [.ref v, .int (i32 (2 * m + 2))]) (st := [.ref q]) [1] [0] [(v, .inl (cB, m, .inl f))] [(q, .inr (1, [.ref v, .int 0, .int 0, .int nn]))] rfl rfl (by decide) (by decide) (by decide) (c_copyOf ht4 v m (2 * m + 2) f (by omega) (by have := capOK_u hm (by omega) hc2; omega) hf) zw_644 zc_S_J7_copyOf_9075b (by decide) (by decide) rfl rfl (Nat.le_of_ble_eq_true rfl) (by rw [hRc]; first | omega | exact Nat.le_of_ble_eq_true rfl) (by rw [hRs]; first | omega | exact Nat.le_of_ble_eq_true rfl) dJ5_ensureCapacityInternal_d00df_32 (1) (300) rfl rfl 35 rfl (fun v2 => ?_)
    refine vv_ws (ws2 := [(q, .inr (1, [.ref v, .int 0, .int 0, .int nn])), (v, .inl (cB, m, .inl f)), (v2, .inl (cB, (2 * m + 2), .inl (va_cpy f (fun _ => 0) 0 0 m)))]) rfl ?_
    refine vv_put C clw_J4 0 rfl 0 (by decide) tyJ4 tyJ4_ok nmJ4 rfl zw_602 rfl rfl (Nat.le_of_ble_eq_true rfl) [(q, .inr (1, [.ref v2, .int 0, .int 0, .int nn])), (v, .inl (cB, m, .inl f)), (v2, .inl (cB, (2 * m + 2), .inl (va_cpy f (fun _ => 0) 0 0 m)))] rfl dJ5_ensureCapacityInternal_d00df_35 38 rfl ?_
    refine vv_world C [(q, .inr (1, [.ref v2, .int 0, .int 0, .int nn])), (v2, .inl (cB, (2 * m + 2), .inl (va_cpy f (fun _ => 0) 0 0 m)))] [0, 2] (by decide) rfl ?_
    exact vx_vret C (⟨(v2, 2 * m + 2, va_cpy f (fun _ => 0) 0 0 m), capOK_n hm (by omega) hc2, capOK_g hm hc, fun j hj => ⟨by show j < 2 * m + 2; omega, show va_cpy f (fun _ => 0) 0 0 m j = f j from sb_cpy0 hj⟩, sb_fitC hf sb_fit0⟩ : {u : Nat × Nat × (Nat → Int32) // capOK u.2.1 ∧ c ≤ u.2.1 ∧ (∀ j, j < m → j < u.2.1 ∧ u.2.2 j = f j) ∧ sb_Fit u.2.2}) rfl (by omega) (by omega) dJ5_ensureCapacityInternal_d00df_38 hr

set_option maxRecDepth 100000 in
set_option maxHeartbeats 4000000 in
theorem c_infl {l : Launch} {D : va_G} {tys : List (ClassId × FieldType)} {cB : ClassId} (ht4 : tys[4]? = some (cB, .byte)) {sa : SA} (q v : Nat) (nn : Int32) (i : Nat) (hi : i < sa.2.1.length) (bs : List Int32) (hbs : sa.2.1.getD i [] = bs) : CI l yJ5_inflateIfNeededFor_a7421 (wsm yJ5_inflateIfNeededFor_a7421 cJ5_inflateIfNeededFor_a7421 2 none) 2 0 0 D tys sa [(q, .inr (1, [.ref v, .int 0, .int 0, .int nn]))] [.ref q, .ref (sa.1 (10 + 2 * i))] (fun u : Unit => [(q, .inr (1, [.ref v, .int 0, .int 0, .int nn]))]) := by
  refine ce_of (fun A => QEv D (fun u : Unit => [(q, .inr (1, [.ref v, .int 0, .int 0, .int nn]))]) A) RJ5 rfl (by decide +kernel) (Nat.le_of_ble_eq_true rfl) rfl ?_
  intro p0 e0 R0 s0_ m0_ args0 below0 meth0 c0_ A0 C hRc hRs hin hr
  refine vx_comp C zw_594 dJ5_inflateIfNeededFor_a7421_0 3 rfl ?_
  refine vx_if_eqF C 21 dJ5_inflateIfNeededFor_a7421_3 (by decide) (by decide) 6 rfl ?_
  refine vv_aload_n C 0 dJ5_inflateIfNeededFor_a7421_6 rfl rfl 7 rfl ?_
  refine vv_get C clw_J4 0 rfl 1 (by decide) zw_603 (.int 0) rfl dJ5_inflateIfNeededFor_a7421_7 10 rfl ?_
  refine vv_aload_n C 1 dJ5_inflateIfNeededFor_a7421_10 rfl rfl 11 rfl ?_
  refine vx_callTi C (As := []) (st := [.int 0]) [] [0] [] [(q, .inr (1, [.ref v, .int 0, .int 0, .int nn]))] rfl rfl (by decide) (by decide) (by decide) i hi (c_coder ht4 i hi bs hbs) zw_685 zc_T_J0_coder_7d493 (by decide) (by decide) rfl rfl (Nat.le_of_ble_eq_true rfl) (by rw [hRc]; first | omega | exact Nat.le_of_ble_eq_true rfl) (by rw [hRs]; first | omega | exact Nat.le_of_ble_eq_true rfl) dJ5_inflateIfNeededFor_a7421_11 (0) (0) rfl rfl 14 rfl (fun _ => ?_)
  refine vv_ws (ws2 := [(q, .inr (1, [.ref v, .int 0, .int 0, .int nn]))]) rfl ?_
  refine vx_icmp_eqT C 21 dJ5_inflateIfNeededFor_a7421_14 (by decide) rfl ?_
  exact vx_vret C () rfl (by omega) (by omega) dJ5_inflateIfNeededFor_a7421_21 hr

set_option maxRecDepth 100000 in
set_option maxHeartbeats 4000000 in
theorem c_getB {l : Launch} {D : va_G} {tys : List (ClassId × FieldType)} {cB : ClassId} (ht4 : tys[4]? = some (cB, .byte)) {sa : SA} (v m d : Nat) (f : Nat → Int32) (i : Nat) (hi : i < sa.2.1.length) (bs : List Int32) (hbs : sa.2.1.getD i [] = bs) (hd : d + bs.length ≤ m) (hm : m ≤ 1000) (hfb : sb_Fit (fun j => bs.getD j 0)) : CI l yJ0_getBytes_840e7 (wsm yJ0_getBytes_840e7 cJ0_getBytes_840e7 4 none) 2 0 0 D tys sa [(v, .inl (cB, m, .inl f))] [.ref (sa.1 (10 + 2 * i)), .ref v, .int (i32 d), .int 0] (fun u : Unit => [(v, .inl (cB, m, .inl (va_cpy (fun j => bs.getD j 0) f 0 d bs.length)))]) := by
  have hbl : Int32.ofNat ((sa.2.1.map List.length).getD i 0) = Int32.ofNat bs.length := by rw [lenS, hbs]
  refine ce_of (fun A => QEv D (fun u : Unit => [(v, .inl (cB, m, .inl (va_cpy (fun j => bs.getD j 0) f 0 d bs.length)))]) A) RJ0 rfl (by decide +kernel) (Nat.le_of_ble_eq_true rfl) rfl ?_
  intro p0 e0 R0 s0_ m0_ args0 below0 meth0 c0_ A0 C hRc hRs hin hr
  refine vv_aload_n C 0 dJ0_getBytes_840e7_0 rfl rfl 1 rfl ?_
  refine vx_callTi C (As := []) (st := []) [] [0] [] [(v, .inl (cB, m, .inl f))] rfl rfl (by decide) (by decide) (by decide) i hi (c_coder ht4 i hi bs hbs) zw_333 zc_T_J0_coder_7d493 (by decide) (by decide) rfl rfl (Nat.le_of_ble_eq_true rfl) (by rw [hRc]; first | omega | exact Nat.le_of_ble_eq_true rfl) (by rw [hRs]; first | omega | exact Nat.le_of_ble_eq_true rfl) dJ0_getBytes_840e7_1 (0) (0) rfl rfl 4 rfl (fun _ => ?_)
  refine vv_ws (ws2 := [(v, .inl (cB, m, .inl f))]) rfl ?_
  refine vv_iload_n C 3 dJ0_getBytes_840e7_4 rfl rfl 5 rfl ?_
  refine vx_icmp_neF C 28 dJ0_getBytes_840e7_5 (by decide) (fun h => h rfl) 8 rfl ?_
  refine vv_aload_n C 0 dJ0_getBytes_840e7_8 rfl rfl 9 rfl ?_
  refine vx_sval C i hi zw_789 dJ0_getBytes_840e7_9 12 rfl ?_
  refine vv_iconst C (0 : Int32) dJ0_getBytes_840e7_12 (by decide) 13 rfl ?_
  refine vv_aload_n C 1 dJ0_getBytes_840e7_13 rfl rfl 14 rfl ?_
  refine vv_iload_n C 2 dJ0_getBytes_840e7_14 rfl rfl 15 rfl ?_
  refine vv_iload_n C 3 dJ0_getBytes_840e7_15 rfl rfl 16 rfl ?_
  refine vx_ishl C dJ0_getBytes_840e7_16 17 rfl ?_
  rw [show ((i32 d) <<< (0 &&& 31)) = i32 d from sb_shl0 _]
  refine vv_aload_n C 0 dJ0_getBytes_840e7_17 rfl rfl 18 rfl ?_
  refine vx_sval C i hi zw_789 dJ0_getBytes_840e7_18 21 rfl ?_
  refine vx_blen C i hi (Int32.ofNat bs.length) hbl dJ0_getBytes_840e7_21 22 rfl ?_
  refine vx_copyT C i hi 0 4 rfl ht4 (by rw [lenS, hbs]; exact cp_ok (a := 0) (b := d) (c := bs.length) (by omega) (by omega) (by omega)) (by rw [hbs]; exact hfb) zw_709 wm_copy (by decide) (Nat.le_of_ble_eq_true rfl) [(v, .inl (cB, m, .inl (va_cpy (fun j => bs.getD j 0) f 0 d bs.length)))] (by rw [hbs, show (Int32.ofNat bs.length).toNatClampNeg = bs.length from i32_tn (by omega), i32_tn (by omega), sb_cl0]; rfl) dJ0_getBytes_840e7_22 25 rfl ?_
  refine vv_goto C 43 dJ0_getBytes_840e7_25 (by decide) ?_
  exact vx_vret C () rfl (by omega) (by omega) dJ0_getBytes_840e7_43 hr

set_option maxRecDepth 100000 in
set_option maxHeartbeats 4000000 in
theorem c_putS {l : Launch} {D : va_G} {tys : List (ClassId × FieldType)} {cB : ClassId} (ht4 : tys[4]? = some (cB, .byte)) {sa : SA} (q v m d : Nat) (f : Nat → Int32) (nn : Int32) (i : Nat) (hi : i < sa.2.1.length) (bs : List Int32) (hbs : sa.2.1.getD i [] = bs) (hd : d + bs.length ≤ m) (hm : m ≤ 1000) (hfb : sb_Fit (fun j => bs.getD j 0)) : CI l yJ5_putStringAt_47b60 (wsm yJ5_putStringAt_47b60 cJ5_putStringAt_47b60 3 none) 3 0 0 D tys sa [(q, .inr (1, [.ref v, .int 0, .int 0, .int nn])), (v, .inl (cB, m, .inl f))] [.ref q, .int (i32 d), .ref (sa.1 (10 + 2 * i))] (fun u : Unit => [(q, .inr (1, [.ref v, .int 0, .int 0, .int nn])), (v, .inl (cB, m, .inl (va_cpy (fun j => bs.getD j 0) f 0 d bs.length)))]) := by
  refine ce_of (fun A => QEv D (fun u : Unit => [(q, .inr (1, [.ref v, .int 0, .int 0, .int nn])), (v, .inl (cB, m, .inl (va_cpy (fun j => bs.getD j 0) f 0 d bs.length)))]) A) RJ5 rfl (by decide +kernel) (Nat.le_of_ble_eq_true rfl) rfl ?_
  intro p0 e0 R0 s0_ m0_ args0 below0 meth0 c0_ A0 C hRc hRs hin hr
  refine vv_aload_n C 0 dJ5_putStringAt_47b60_0 rfl rfl 1 rfl ?_
  refine vv_aload_n C 2 dJ5_putStringAt_47b60_1 rfl rfl 2 rfl ?_
  refine vx_callUv C (As := [.ref (sa.1 (10 + 2 * i))]) (st := []) [0] [1] [(q, .inr (1, [.ref v, .int 0, .int 0, .int nn]))] [(v, .inl (cB, m, .inl f))] rfl rfl (by decide) (by decide) (by decide) 1 clw_J4.1 0 rfl (c_infl ht4 q v nn i hi bs hbs) zw_681 zc_U_J5_inflateIfNeededFor_a7421 (by decide) (by decide) rfl rfl (Nat.le_of_ble_eq_true rfl) (by rw [hRc]; first | omega | exact Nat.le_of_ble_eq_true rfl) (by rw [hRs]; first | omega | exact Nat.le_of_ble_eq_true rfl) dJ5_putStringAt_47b60_2 (0) (0) rfl rfl 5 rfl (fun _ => ?_)
  refine vv_ws (ws2 := [(v, .inl (cB, m, .inl f)), (q, .inr (1, [.ref v, .int 0, .int 0, .int nn]))]) rfl ?_
  refine vv_aload_n C 2 dJ5_putStringAt_47b60_5 rfl rfl 6 rfl ?_
  refine vv_aload_n C 0 dJ5_putStringAt_47b60_6 rfl rfl 7 rfl ?_
  refine vv_get C clw_J4 1 rfl 0 (by decide) zw_602 (.ref v) rfl dJ5_putStringAt_47b60_7 10 rfl ?_
  refine vv_iload_n C 1 dJ5_putStringAt_47b60_10 rfl rfl 11 rfl ?_
  refine vv_aload_n C 0 dJ5_putStringAt_47b60_11 rfl rfl 12 rfl ?_
  refine vv_get C clw_J4 1 rfl 1 (by decide) zw_603 (.int 0) rfl dJ5_putStringAt_47b60_12 15 rfl ?_
  refine vx_callTv C (As := [.ref v, .int (i32 d), .int 0]) (st := []) [0] [1] [(v, .inl (cB, m, .inl f))] [(q, .inr (1, [.ref v, .int 0, .int 0, .int nn]))] rfl rfl (by decide) (by decide) (by decide) i hi (c_getB ht4 v m d f i hi bs hbs hd hm hfb) zw_705 zc_T_J0_getBytes_840e7 (by decide) (by decide) rfl rfl (Nat.le_of_ble_eq_true rfl) (by rw [hRc]; first | omega | exact Nat.le_of_ble_eq_true rfl) (by rw [hRs]; first | omega | exact Nat.le_of_ble_eq_true rfl) dJ5_putStringAt_47b60_15 (0) (0) rfl rfl 18 rfl (fun _ => ?_)
  refine vv_ws (ws2 := [(q, .inr (1, [.ref v, .int 0, .int 0, .int nn])), (v, .inl (cB, m, .inl (va_cpy (fun j => bs.getD j 0) f 0 d bs.length)))]) rfl ?_
  exact vx_vret C () rfl (by omega) (by omega) dJ5_putStringAt_47b60_18 hr

set_option maxRecDepth 100000 in
set_option maxHeartbeats 4000000 in
theorem c_appS {l : Launch} {D : va_G} {tys : List (ClassId × FieldType)} {cB : ClassId} (ht4 : tys[4]? = some (cB, .byte)) {sa : SA} (q : Nat) (tx : List Int32) (u : SBS tx) (i : Nat) (hi : i < sa.2.1.length) (bs : List Int32) (hbs : sa.2.1.getD i [] = bs) (hb : bs.length ≤ 18) (ht : tx.length + bs.length ≤ 142) (hfb : sb_Fit (fun j => bs.getD j 0)) : CEr l yJ5_append_cf1ce (wsm yJ5_append_cf1ce cJ5_append_cf1ce 3 (some (.object "java/lang/AbstractStringBuilder"))) 5 1 300 D tys sa [(q, .inr (1, [.ref u.1.1, .int 0, .int 0, .int (i32 tx.length)])), (u.1.1, .inl (cB, u.1.2.1, .inl u.1.2.2))] [.ref q, .ref (sa.1 (10 + 2 * i))] (fun u : SBS (tx ++ bs) => q) (fun u : SBS (tx ++ bs) => [(q, .inr (1, [.ref u.1.1, .int 0, .int 0, .int (i32 (tx ++ bs).length)])), (u.1.1, .inl (cB, u.1.2.1, .inl u.1.2.2))]) := by
  have hmb := capOK_b u.2.1
  have htl := u.2.2.1
  refine ce_of (fun A => QEr D (fun u : SBS (tx ++ bs) => q) (fun u : SBS (tx ++ bs) => [(q, .inr (1, [.ref u.1.1, .int 0, .int 0, .int (i32 (tx ++ bs).length)])), (u.1.1, .inl (cB, u.1.2.1, .inl u.1.2.2))]) A) RJ5 rfl (by decide +kernel) (Nat.le_of_ble_eq_true rfl) rfl ?_
  intro p0 e0 R0 s0_ m0_ args0 below0 meth0 c0_ A0 C hRc hRs hin hr
  refine vv_aload_n C 1 dJ5_append_cf1ce_0 rfl rfl 1 rfl ?_
  refine vx_nonnull C 9 dJ5_append_cf1ce_1 (by decide) ?_
  refine vv_aload_n C 1 dJ5_append_cf1ce_9 rfl rfl 10 rfl ?_
  refine vx_callTi C (As := []) (st := []) [] [0, 1] [] [(q, .inr (1, [.ref u.1.1, .int 0, .int 0, .int (i32 tx.length)])), (u.1.1, .inl (cB, u.1.2.1, .inl u.1.2.2))] rfl rfl (by decide) (by decide) (by decide) i hi (c_length ht4 i hi bs hbs) zw_676 zc_T_J0_length_8abf5 (by decide) (by decide) rfl rfl (Nat.le_of_ble_eq_true rfl) (by rw [hRc]; first | omega | exact Nat.le_of_ble_eq_true rfl) (by rw [hRs]; first | omega | exact Nat.le_of_ble_eq_true rfl) dJ5_append_cf1ce_10 (0) (0) rfl rfl 13 rfl (fun _ => ?_)
  refine vv_ws (ws2 := [(q, .inr (1, [.ref u.1.1, .int 0, .int 0, .int (i32 tx.length)])), (u.1.1, .inl (cB, u.1.2.1, .inl u.1.2.2))]) rfl ?_
  refine vv_istore_n C [(2, .int (Int32.ofNat bs.length)), (0, .ref q), (1, .ref (sa.1 (10 + 2 * i)))] dJ5_append_cf1ce_13 rfl (by decide) rfl 14 rfl ?_
  refine vv_aload_n C 1 dJ5_append_cf1ce_14 rfl rfl 15 rfl ?_
  refine vv_aload_n C 1 dJ5_append_cf1ce_15 rfl rfl 16 rfl ?_
  refine vv_get C clw_J4 0 rfl 3 (by decide) zw_605 (.int (i32 tx.length)) rfl dJ5_append_cf1ce_16 19 rfl ?_
  refine vv_iload_n C 0 dJ5_append_cf1ce_19 rfl rfl 20 rfl ?_
  refine vx_iadd C dJ5_append_cf1ce_20 21 rfl ?_
  rw [show ((i32 tx.length) + (Int32.ofNat bs.length)) = i32 (tx.length + bs.length) from i32_add _ _]
  refine vx_callUv C (As := [.int (i32 (tx.length + bs.length))]) (st := []) [0, 1] [] [(q, .inr (1, [.ref u.1.1, .int 0, .int 0, .int (i32 tx.length)])), (u.1.1, .inl (cB, u.1.2.1, .inl u.1.2.2))] [] rfl rfl (by decide) (by decide) (by decide) 1 clw_J4.1 0 rfl (c_ensure ht4 q u.1.1 u.1.2.1 (tx.length + bs.length) u.1.2.2 (i32 tx.length) u.2.1 (by omega) ht u.2.2.2.2) zw_627 zc_U_J5_ensureCapacityInternal_d00df (by decide) (by decide) rfl rfl (Nat.le_of_ble_eq_true rfl) (by rw [hRc]; first | omega | exact Nat.le_of_ble_eq_true rfl) (by rw [hRs]; first | omega | exact Nat.le_of_ble_eq_true rfl) dJ5_append_cf1ce_21 (1) (300) rfl rfl 24 rfl (fun w => ?_)
  refine vv_ws (ws2 := [(q, .inr (1, [.ref w.1.1, .int 0, .int 0, .int (i32 tx.length)])), (w.1.1, .inl (cB, w.1.2.1, .inl w.1.2.2))]) rfl ?_
  refine vv_aload_n C 1 dJ5_append_cf1ce_24 rfl rfl 25 rfl ?_
  refine vv_aload_n C 1 dJ5_append_cf1ce_25 rfl rfl 26 rfl ?_
  refine vv_get C clw_J4 0 rfl 3 (by decide) zw_605 (.int (i32 tx.length)) rfl dJ5_append_cf1ce_26 29 rfl ?_
  refine vv_aload_n C 2 dJ5_append_cf1ce_29 rfl rfl 30 rfl ?_
  refine vx_callUv C (As := [.int (i32 tx.length), .ref (sa.1 (10 + 2 * i))]) (st := []) [0, 1] [] [(q, .inr (1, [.ref w.1.1, .int 0, .int 0, .int (i32 tx.length)])), (w.1.1, .inl (cB, w.1.2.1, .inl w.1.2.2))] [] rfl rfl (by decide) (by decide) (by decide) 1 clw_J4.1 0 rfl (c_putS ht4 q w.1.1 w.1.2.1 tx.length w.1.2.2 (i32 tx.length) i hi bs hbs w.2.2.1 (by have := capOK_b w.2.1; omega) hfb) zw_677 zc_U_J5_putStringAt_47b60 (by decide) (by decide) rfl rfl (Nat.le_of_ble_eq_true rfl) (by rw [hRc]; first | omega | exact Nat.le_of_ble_eq_true rfl) (by rw [hRs]; first | omega | exact Nat.le_of_ble_eq_true rfl) dJ5_append_cf1ce_30 (1) (300) rfl rfl 33 rfl (fun _ => ?_)
  refine vv_ws (ws2 := [(q, .inr (1, [.ref w.1.1, .int 0, .int 0, .int (i32 tx.length)])), (w.1.1, .inl (cB, w.1.2.1, .inl (va_cpy (fun j => bs.getD j 0) w.1.2.2 0 tx.length bs.length)))]) rfl ?_
  refine vv_aload_n C 1 dJ5_append_cf1ce_33 rfl rfl 34 rfl ?_
  refine vv_dup C dJ5_append_cf1ce_34 rfl 35 rfl ?_
  refine vv_get C clw_J4 0 rfl 3 (by decide) zw_605 (.int (i32 tx.length)) rfl dJ5_append_cf1ce_35 38 rfl ?_
  refine vv_iload_n C 0 dJ5_append_cf1ce_38 rfl rfl 39 rfl ?_
  refine vx_iadd C dJ5_append_cf1ce_39 40 rfl ?_
  rw [show ((i32 tx.length) + (Int32.ofNat bs.length)) = i32 (tx.length + bs.length) from i32_add _ _]
  refine vv_put C clw_J4 0 rfl 3 (by decide) tyJ4 tyJ4_ok nmJ4 rfl zw_605 rfl rfl (Nat.le_of_ble_eq_true rfl) [(q, .inr (1, [.ref w.1.1, .int 0, .int 0, .int (i32 (tx.length + bs.length))])), (w.1.1, .inl (cB, w.1.2.1, .inl (va_cpy (fun j => bs.getD j 0) w.1.2.2 0 tx.length bs.length)))] rfl dJ5_append_cf1ce_40 43 rfl ?_
  refine vv_aload_n C 1 dJ5_append_cf1ce_43 rfl rfl 44 rfl ?_
  exact vx_aret C (sbs_cat w.1.1 w.1.2.1 w.1.2.2 w.2.1 w.2.2.1 (fun j hj => (w.2.2.2.1 j (Nat.lt_of_lt_of_le hj u.2.2.1)).2.trans (u.2.2.2.1 j hj)) w.2.2.2.2 hfb) rfl (congrArg (fun n => [(q, (.inr (1, [.ref w.1.1, .int 0, .int 0, .int (i32 n)]) : va_E)), (w.1.1, (.inl (cB, w.1.2.1, .inl (va_cpy (fun j => bs.getD j 0) w.1.2.2 0 tx.length bs.length)) : va_E))]) List.length_append.symm) (by omega) (by omega) dJ5_append_cf1ce_44 hr (by first | exact Or.inl ⟨_, rfl⟩ | exact Or.inr ⟨_, rfl⟩)

set_option maxRecDepth 100000 in
set_option maxHeartbeats 4000000 in
theorem c_append {l : Launch} {D : va_G} {tys : List (ClassId × FieldType)} {cB : ClassId} (ht4 : tys[4]? = some (cB, .byte)) {sa : SA} (q : Nat) (tx : List Int32) (u : SBS tx) (i : Nat) (hi : i < sa.2.1.length) (bs : List Int32) (hbs : sa.2.1.getD i [] = bs) (hb : bs.length ≤ 18) (ht : tx.length + bs.length ≤ 142) (hfb : sb_Fit (fun j => bs.getD j 0)) : CEr l yJ4_append_15ec4 (wsm yJ4_append_15ec4 cJ4_append_15ec4 2 (some (.object "java/lang/StringBuilder"))) 6 1 300 D tys sa [(q, .inr (1, [.ref u.1.1, .int 0, .int 0, .int (i32 tx.length)])), (u.1.1, .inl (cB, u.1.2.1, .inl u.1.2.2))] [.ref q, .ref (sa.1 (10 + 2 * i))] (fun u : SBS (tx ++ bs) => q) (fun u : SBS (tx ++ bs) => [(q, .inr (1, [.ref u.1.1, .int 0, .int 0, .int (i32 (tx ++ bs).length)])), (u.1.1, .inl (cB, u.1.2.1, .inl u.1.2.2))]) := by
  refine ce_of (fun A => QEr D (fun u : SBS (tx ++ bs) => q) (fun u : SBS (tx ++ bs) => [(q, .inr (1, [.ref u.1.1, .int 0, .int 0, .int (i32 (tx ++ bs).length)])), (u.1.1, .inl (cB, u.1.2.1, .inl u.1.2.2))]) A) RJ4 rfl (by decide +kernel) (Nat.le_of_ble_eq_true rfl) rfl ?_
  intro p0 e0 R0 s0_ m0_ args0 below0 meth0 c0_ A0 C hRc hRs hin hr
  refine vv_aload_n C 0 dJ4_append_15ec4_0 rfl rfl 1 rfl ?_
  refine vv_aload_n C 1 dJ4_append_15ec4_1 rfl rfl 2 rfl ?_
  refine vx_callQr C (As := [.ref (sa.1 (10 + 2 * i))]) (st := []) [0, 1] [] [(q, .inr (1, [.ref u.1.1, .int 0, .int 0, .int (i32 tx.length)])), (u.1.1, .inl (cB, u.1.2.1, .inl u.1.2.2))] [] rfl rfl (by decide) (by decide) (by decide) 1 clw_J4.1 0 rfl (c_appS ht4 q tx u i hi bs hbs hb ht hfb) zw_620 zc_Q_J5_append_cf1ce (by decide) (by decide) rfl rfl (Nat.le_of_ble_eq_true rfl) (by rw [hRc]; first | omega | exact Nat.le_of_ble_eq_true rfl) (by rw [hRs]; first | omega | exact Nat.le_of_ble_eq_true rfl) dJ4_append_15ec4_2 (1) (300) rfl rfl 5 rfl (fun w => ?_)
  refine vv_ws (ws2 := [(q, .inr (1, [.ref w.1.1, .int 0, .int 0, .int (i32 (tx ++ bs).length)])), (w.1.1, .inl (cB, w.1.2.1, .inl w.1.2.2))]) rfl ?_
  refine vv_pop C dJ4_append_15ec4_5 rfl 6 rfl ?_
  refine vv_aload_n C 0 dJ4_append_15ec4_6 rfl rfl 7 rfl ?_
  exact vx_aret C w rfl rfl (by omega) (by omega) dJ4_append_15ec4_7 hr (by first | exact Or.inl ⟨_, rfl⟩ | exact Or.inr ⟨_, rfl⟩)

set_option maxRecDepth 100000 in
set_option maxHeartbeats 4000000 in
theorem c_size {l : Launch} {D : va_G} {tys : List (ClassId × FieldType)} {cB : ClassId} (ht4 : tys[4]? = some (cB, .byte)) {sa : SA} (z : Nat) (hz : z < 100) : CEi l yJ6_stringSize_0f7a4 (wsm yJ6_stringSize_0f7a4 cJ6_stringSize_0f7a4 4 (some .int)) 1 0 0 D tys sa [] [.int (i32 z)] (fun u : Unit => i32 (dg z).length) (fun u : Unit => []) := by
  refine ce_of (fun A => QEi D (fun u : Unit => i32 (dg z).length) (fun u : Unit => []) A) RJ6 rfl (by decide +kernel) (Nat.le_of_ble_eq_true rfl) rfl ?_
  intro p0 e0 R0 s0_ m0_ args0 below0 meth0 c0_ A0 C hRc hRs hin hr
  by_cases h1 : z < 10
  · skip
    refine vv_iconst C (1 : Int32) dJ6_stringSize_0f7a4_0 (by decide) 1 rfl ?_
    refine vv_istore_n C [(1, .int (1 : Int32)), (0, .int (i32 z))] dJ6_stringSize_0f7a4_1 rfl (by decide) rfl 2 rfl ?_
    refine vv_iload_n C 1 dJ6_stringSize_0f7a4_2 rfl rfl 3 rfl ?_
    refine vx_if_ltF C 11 dJ6_stringSize_0f7a4_3 (by decide) (i32_nn (by omega)) 6 rfl ?_
    refine vv_iconst C (0 : Int32) dJ6_stringSize_0f7a4_6 (by decide) 7 rfl ?_
    refine vv_istore_n C [(1, .int (0 : Int32)), (0, .int (i32 z))] dJ6_stringSize_0f7a4_7 rfl (by decide) rfl 8 rfl ?_
    refine vv_iload_n C 1 dJ6_stringSize_0f7a4_8 rfl rfl 9 rfl ?_
    refine vx_ineg C dJ6_stringSize_0f7a4_9 10 rfl ?_
    refine vv_istore_n C [(0, .int (-(i32 z))), (1, .int (0 : Int32))] dJ6_stringSize_0f7a4_10 rfl (by decide) rfl 11 rfl ?_
    refine vv_bipush C (-10 : Int32) dJ6_stringSize_0f7a4_11 (by decide) 13 rfl ?_
    refine vv_istore_n C [(2, .int (-10 : Int32)), (0, .int (-(i32 z))), (1, .int (0 : Int32))] dJ6_stringSize_0f7a4_13 rfl (by decide) rfl 14 rfl ?_
    refine vv_iconst C (1 : Int32) dJ6_stringSize_0f7a4_14 (by decide) 15 rfl ?_
    refine vv_istore_n C [(3, .int (1 : Int32)), (2, .int (-10 : Int32)), (0, .int (-(i32 z))), (1, .int (0 : Int32))] dJ6_stringSize_0f7a4_15 rfl (by decide) rfl 16 rfl ?_
    refine vv_iload_n C 0 dJ6_stringSize_0f7a4_16 rfl rfl 17 rfl ?_
    refine vv_bipush C (10 : Int32) dJ6_stringSize_0f7a4_17 (by decide) 19 rfl ?_
    refine vx_icmp_geF C 42 dJ6_stringSize_0f7a4_19 (by decide) (by decide) 22 rfl ?_
    refine vv_iload_n C 2 dJ6_stringSize_0f7a4_22 rfl rfl 23 rfl ?_
    refine vv_iload_n C 1 dJ6_stringSize_0f7a4_23 rfl rfl 24 rfl ?_
    refine vx_icmp_leF C 31 dJ6_stringSize_0f7a4_24 (by decide) (neg_nle (by omega) (b := 10) (by omega) h1) 27 rfl ?_
    refine vv_iload_n C 0 dJ6_stringSize_0f7a4_27 rfl rfl 28 rfl ?_
    refine vv_iload_n C 3 dJ6_stringSize_0f7a4_28 rfl rfl 29 rfl ?_
    refine vx_iadd C dJ6_stringSize_0f7a4_29 30 rfl ?_
    rw [show ((1 : Int32) + (0 : Int32)) = (1 : Int32) from by decide]
    exact vx_iret C () (by rw [dg_1 h1]; rfl) rfl (by omega) (by omega) dJ6_stringSize_0f7a4_30 hr
  · skip
    refine vv_iconst C (1 : Int32) dJ6_stringSize_0f7a4_0 (by decide) 1 rfl ?_
    refine vv_istore_n C [(1, .int (1 : Int32)), (0, .int (i32 z))] dJ6_stringSize_0f7a4_1 rfl (by decide) rfl 2 rfl ?_
    refine vv_iload_n C 1 dJ6_stringSize_0f7a4_2 rfl rfl 3 rfl ?_
    refine vx_if_ltF C 11 dJ6_stringSize_0f7a4_3 (by decide) (i32_nn (by omega)) 6 rfl ?_
    refine vv_iconst C (0 : Int32) dJ6_stringSize_0f7a4_6 (by decide) 7 rfl ?_
    refine vv_istore_n C [(1, .int (0 : Int32)), (0, .int (i32 z))] dJ6_stringSize_0f7a4_7 rfl (by decide) rfl 8 rfl ?_
    refine vv_iload_n C 1 dJ6_stringSize_0f7a4_8 rfl rfl 9 rfl ?_
    refine vx_ineg C dJ6_stringSize_0f7a4_9 10 rfl ?_
    refine vv_istore_n C [(0, .int (-(i32 z))), (1, .int (0 : Int32))] dJ6_stringSize_0f7a4_10 rfl (by decide) rfl 11 rfl ?_
    refine vv_bipush C (-10 : Int32) dJ6_stringSize_0f7a4_11 (by decide) 13 rfl ?_
    refine vv_istore_n C [(2, .int (-10 : Int32)), (0, .int (-(i32 z))), (1, .int (0 : Int32))] dJ6_stringSize_0f7a4_13 rfl (by decide) rfl 14 rfl ?_
    refine vv_iconst C (1 : Int32) dJ6_stringSize_0f7a4_14 (by decide) 15 rfl ?_
    refine vv_istore_n C [(3, .int (1 : Int32)), (2, .int (-10 : Int32)), (0, .int (-(i32 z))), (1, .int (0 : Int32))] dJ6_stringSize_0f7a4_15 rfl (by decide) rfl 16 rfl ?_
    refine vv_iload_n C 0 dJ6_stringSize_0f7a4_16 rfl rfl 17 rfl ?_
    refine vv_bipush C (10 : Int32) dJ6_stringSize_0f7a4_17 (by decide) 19 rfl ?_
    refine vx_icmp_geF C 42 dJ6_stringSize_0f7a4_19 (by decide) (by decide) 22 rfl ?_
    refine vv_iload_n C 2 dJ6_stringSize_0f7a4_22 rfl rfl 23 rfl ?_
    refine vv_iload_n C 1 dJ6_stringSize_0f7a4_23 rfl rfl 24 rfl ?_
    refine vx_icmp_leT C 31 dJ6_stringSize_0f7a4_24 (by decide) (neg_le (by omega) (b := 10) (by omega) (by omega)) ?_
    refine vv_bipush C (10 : Int32) dJ6_stringSize_0f7a4_31 (by decide) 33 rfl ?_
    refine vv_iload_n C 1 dJ6_stringSize_0f7a4_33 rfl rfl 34 rfl ?_
    refine vv_imul C (-100 : Int32) dJ6_stringSize_0f7a4_34 (by decide) 35 rfl ?_
    refine vv_istore_n C [(2, .int (-100 : Int32)), (3, .int (1 : Int32)), (0, .int (-(i32 z))), (1, .int (0 : Int32))] dJ6_stringSize_0f7a4_35 rfl (by decide) rfl 36 rfl ?_
    refine vv_iinc C 1 (2 : Int32) [(3, .int (2 : Int32)), (2, .int (-100 : Int32)), (0, .int (-(i32 z))), (1, .int (0 : Int32))] dJ6_stringSize_0f7a4_36 rfl (by decide) (by decide) rfl 39 rfl ?_
    refine vv_goto C 16 dJ6_stringSize_0f7a4_39 (by decide) ?_
    refine vv_iload_n C 0 dJ6_stringSize_0f7a4_16 rfl rfl 17 rfl ?_
    refine vv_bipush C (10 : Int32) dJ6_stringSize_0f7a4_17 (by decide) 19 rfl ?_
    refine vx_icmp_geF C 42 dJ6_stringSize_0f7a4_19 (by decide) (by decide) 22 rfl ?_
    refine vv_iload_n C 2 dJ6_stringSize_0f7a4_22 rfl rfl 23 rfl ?_
    refine vv_iload_n C 1 dJ6_stringSize_0f7a4_23 rfl rfl 24 rfl ?_
    refine vx_icmp_leF C 31 dJ6_stringSize_0f7a4_24 (by decide) (neg_nle (by omega) (b := 100) (by omega) hz) 27 rfl ?_
    refine vv_iload_n C 0 dJ6_stringSize_0f7a4_27 rfl rfl 28 rfl ?_
    refine vv_iload_n C 3 dJ6_stringSize_0f7a4_28 rfl rfl 29 rfl ?_
    refine vx_iadd C dJ6_stringSize_0f7a4_29 30 rfl ?_
    rw [show ((2 : Int32) + (0 : Int32)) = (2 : Int32) from by decide]
    exact vx_iret C () (by rw [dg_2 h1]; rfl) rfl (by omega) (by omega) dJ6_stringSize_0f7a4_30 hr

set_option maxRecDepth 100000 in
set_option maxHeartbeats 4000000 in
theorem c_getC {l : Launch} {D : va_G} {tys : List (ClassId × FieldType)} {cB : ClassId} (ht4 : tys[4]? = some (cB, .byte)) {sa : SA} (v m d z : Nat) (f : Nat → Int32) (hz : z < 100) (hd : (dg z).length ≤ d) (hdm : d ≤ m) (hm : m ≤ 1000) : CEi l yJ6_getChars_ba4f3 (wsm yJ6_getChars_ba4f3 cJ6_getChars_ba4f3 7 (some .int)) 1 0 0 D tys sa [(v, .inl (cB, m, .inl f))] [.int (i32 z), .int (i32 d), .ref v] (fun u : Unit => i32 (d - (dg z).length)) (fun u : Unit => [(v, .inl (cB, m, .inl (wrd f d z)))]) := by
  refine ce_of (fun A => QEi D (fun u : Unit => i32 (d - (dg z).length)) (fun u : Unit => [(v, .inl (cB, m, .inl (wrd f d z)))]) A) RJ6 rfl (by decide +kernel) (Nat.le_of_ble_eq_true rfl) rfl ?_
  intro p0 e0 R0 s0_ m0_ args0 below0 meth0 c0_ A0 C hRc hRs hin hr
  by_cases h1 : z < 10
  · rw [dg_1 h1] at hd
    replace hd : 1 ≤ d := hd
    refine vv_iload_n C 1 dJ6_getChars_ba4f3_0 rfl rfl 1 rfl ?_
    refine vx_istore C [(5, .int (i32 d)), (0, .int (i32 z)), (1, .int (i32 d)), (2, .ref v)] dJ6_getChars_ba4f3_1 (by decide) rfl 3 rfl ?_
    refine vv_iload_n C 1 dJ6_getChars_ba4f3_3 rfl rfl 4 rfl ?_
    refine vx_if_geT C 11 dJ6_getChars_ba4f3_4 (by decide) (i32_le0 (by omega)) ?_
    refine vv_iconst C (0 : Int32) dJ6_getChars_ba4f3_11 (by decide) 12 rfl ?_
    refine vx_istore C [(6, .int (0 : Int32)), (5, .int (i32 d)), (0, .int (i32 z)), (1, .int (i32 d)), (2, .ref v)] dJ6_getChars_ba4f3_12 (by decide) rfl 14 rfl ?_
    refine vx_iload C 0 dJ6_getChars_ba4f3_14 rfl 16 rfl ?_
    refine vx_if_neF C 22 dJ6_getChars_ba4f3_16 (by decide) (fun h => h rfl) 19 rfl ?_
    refine vv_iload_n C 2 dJ6_getChars_ba4f3_19 rfl rfl 20 rfl ?_
    refine vx_ineg C dJ6_getChars_ba4f3_20 21 rfl ?_
    refine vv_istore_n C [(0, .int (-(i32 z))), (6, .int (0 : Int32)), (5, .int (i32 d)), (1, .int (i32 d)), (2, .ref v)] dJ6_getChars_ba4f3_21 rfl (by decide) rfl 22 rfl ?_
    refine vv_iload_n C 0 dJ6_getChars_ba4f3_22 rfl rfl 23 rfl ?_
    refine vv_bipush C (-100 : Int32) dJ6_getChars_ba4f3_23 (by decide) 25 rfl ?_
    refine vx_icmp_gtT C 72 dJ6_getChars_ba4f3_25 (by decide) (neg_gt (by omega) (b := 100) (by omega) hz) ?_
    refine vv_aload_n C 4 dJ6_getChars_ba4f3_72 rfl rfl 73 rfl ?_
    refine vv_iinc C 2 (i32 (d - 1)) [(5, .int (i32 (d - 1))), (0, .int (-(i32 z))), (6, .int (0 : Int32)), (1, .int (i32 d)), (2, .ref v)] dJ6_getChars_ba4f3_73 rfl (dec1 (by omega) (by omega)) (by decide) rfl 76 rfl ?_
    refine vx_iload C 0 dJ6_getChars_ba4f3_76 rfl 78 rfl ?_
    refine vx_gD1 C zw_724 dJ6_getChars_ba4f3_78 81 rfl ?_
    refine vv_iload_n C 1 dJ6_getChars_ba4f3_81 rfl rfl 82 rfl ?_
    refine vx_ineg C dJ6_getChars_ba4f3_82 83 rfl ?_
    rw [show (-(-(i32 z))) = i32 z from Int32.neg_neg]
    refine vx_tD1 C (v := fD1 z) (i32_in hz (by omega)) (by rw [i32_tn (by omega)]) dJ6_getChars_ba4f3_83 84 rfl ?_
    refine vx_bast C 0 4 ht4 rfl (i32_in (by omega) (by omega)) (upd f (d - 1) (fD1 z)) (by rw [i32_tn (by omega), nar_fD1]) [(v, .inl (cB, m, .inl (upd f (d - 1) (fD1 z))))] rfl dJ6_getChars_ba4f3_84 85 rfl ?_
    refine vv_iload_n C 1 dJ6_getChars_ba4f3_85 rfl rfl 86 rfl ?_
    refine vv_bipush C (-9 : Int32) dJ6_getChars_ba4f3_86 (by decide) 88 rfl ?_
    refine vx_icmp_geT C 104 dJ6_getChars_ba4f3_88 (by decide) (neg_ge (by omega) (b := 9) (by omega) (by omega)) ?_
    refine vx_iload C 2 dJ6_getChars_ba4f3_104 rfl 106 rfl ?_
    refine vx_if_eqT C 118 dJ6_getChars_ba4f3_106 (by decide) rfl ?_
    refine vx_iload C 0 dJ6_getChars_ba4f3_118 rfl 120 rfl ?_
    exact vx_iret C () (by rw [dg_1 h1]; rfl) (by rw [wrd_1 h1]) (by omega) (by omega) dJ6_getChars_ba4f3_120 hr
  · rw [dg_2 h1] at hd
    replace hd : 2 ≤ d := hd
    refine vv_iload_n C 1 dJ6_getChars_ba4f3_0 rfl rfl 1 rfl ?_
    refine vx_istore C [(5, .int (i32 d)), (0, .int (i32 z)), (1, .int (i32 d)), (2, .ref v)] dJ6_getChars_ba4f3_1 (by decide) rfl 3 rfl ?_
    refine vv_iload_n C 1 dJ6_getChars_ba4f3_3 rfl rfl 4 rfl ?_
    refine vx_if_geT C 11 dJ6_getChars_ba4f3_4 (by decide) (i32_le0 (by omega)) ?_
    refine vv_iconst C (0 : Int32) dJ6_getChars_ba4f3_11 (by decide) 12 rfl ?_
    refine vx_istore C [(6, .int (0 : Int32)), (5, .int (i32 d)), (0, .int (i32 z)), (1, .int (i32 d)), (2, .ref v)] dJ6_getChars_ba4f3_12 (by decide) rfl 14 rfl ?_
    refine vx_iload C 0 dJ6_getChars_ba4f3_14 rfl 16 rfl ?_
    refine vx_if_neF C 22 dJ6_getChars_ba4f3_16 (by decide) (fun h => h rfl) 19 rfl ?_
    refine vv_iload_n C 2 dJ6_getChars_ba4f3_19 rfl rfl 20 rfl ?_
    refine vx_ineg C dJ6_getChars_ba4f3_20 21 rfl ?_
    refine vv_istore_n C [(0, .int (-(i32 z))), (6, .int (0 : Int32)), (5, .int (i32 d)), (1, .int (i32 d)), (2, .ref v)] dJ6_getChars_ba4f3_21 rfl (by decide) rfl 22 rfl ?_
    refine vv_iload_n C 0 dJ6_getChars_ba4f3_22 rfl rfl 23 rfl ?_
    refine vv_bipush C (-100 : Int32) dJ6_getChars_ba4f3_23 (by decide) 25 rfl ?_
    refine vx_icmp_gtT C 72 dJ6_getChars_ba4f3_25 (by decide) (neg_gt (by omega) (b := 100) (by omega) hz) ?_
    refine vv_aload_n C 4 dJ6_getChars_ba4f3_72 rfl rfl 73 rfl ?_
    refine vv_iinc C 2 (i32 (d - 1)) [(5, .int (i32 (d - 1))), (0, .int (-(i32 z))), (6, .int (0 : Int32)), (1, .int (i32 d)), (2, .ref v)] dJ6_getChars_ba4f3_73 rfl (dec1 (by omega) (by omega)) (by decide) rfl 76 rfl ?_
    refine vx_iload C 0 dJ6_getChars_ba4f3_76 rfl 78 rfl ?_
    refine vx_gD1 C zw_724 dJ6_getChars_ba4f3_78 81 rfl ?_
    refine vv_iload_n C 1 dJ6_getChars_ba4f3_81 rfl rfl 82 rfl ?_
    refine vx_ineg C dJ6_getChars_ba4f3_82 83 rfl ?_
    rw [show (-(-(i32 z))) = i32 z from Int32.neg_neg]
    refine vx_tD1 C (v := fD1 z) (i32_in hz (by omega)) (by rw [i32_tn (by omega)]) dJ6_getChars_ba4f3_83 84 rfl ?_
    refine vx_bast C 0 4 ht4 rfl (i32_in (by omega) (by omega)) (upd f (d - 1) (fD1 z)) (by rw [i32_tn (by omega), nar_fD1]) [(v, .inl (cB, m, .inl (upd f (d - 1) (fD1 z))))] rfl dJ6_getChars_ba4f3_84 85 rfl ?_
    refine vv_iload_n C 1 dJ6_getChars_ba4f3_85 rfl rfl 86 rfl ?_
    refine vv_bipush C (-9 : Int32) dJ6_getChars_ba4f3_86 (by decide) 88 rfl ?_
    refine vx_icmp_geF C 104 dJ6_getChars_ba4f3_88 (by decide) (neg_nge (by omega) (b := 9) (by omega) (by omega)) 91 rfl ?_
    refine vv_aload_n C 4 dJ6_getChars_ba4f3_91 rfl rfl 92 rfl ?_
    refine vv_iinc C 0 (i32 (d - 2)) [(5, .int (i32 (d - 2))), (0, .int (-(i32 z))), (6, .int (0 : Int32)), (1, .int (i32 d)), (2, .ref v)] dJ6_getChars_ba4f3_92 rfl (dec2 (by omega) (by omega)) (by decide) rfl 95 rfl ?_
    refine vx_iload C 0 dJ6_getChars_ba4f3_95 rfl 97 rfl ?_
    refine vx_gDX C zw_726 dJ6_getChars_ba4f3_97 100 rfl ?_
    refine vv_iload_n C 1 dJ6_getChars_ba4f3_100 rfl rfl 101 rfl ?_
    refine vx_ineg C dJ6_getChars_ba4f3_101 102 rfl ?_
    rw [show (-(-(i32 z))) = i32 z from Int32.neg_neg]
    refine vx_tDX C (v := fDX z) (i32_in hz (by omega)) (by rw [i32_tn (by omega)]) dJ6_getChars_ba4f3_102 103 rfl ?_
    refine vx_bast C 0 4 ht4 rfl (i32_in (by omega) (by omega)) (upd (upd f (d - 1) (fD1 z)) (d - 2) (fDX z)) (by rw [i32_tn (by omega), nar_fDX hz]) [(v, .inl (cB, m, .inl (upd (upd f (d - 1) (fD1 z)) (d - 2) (fDX z))))] rfl dJ6_getChars_ba4f3_103 104 rfl ?_
    refine vx_iload C 2 dJ6_getChars_ba4f3_104 rfl 106 rfl ?_
    refine vx_if_eqT C 118 dJ6_getChars_ba4f3_106 (by decide) rfl ?_
    refine vx_iload C 0 dJ6_getChars_ba4f3_118 rfl 120 rfl ?_
    exact vx_iret C () (by rw [dg_2 h1]; rfl) (by rw [wrd_2 h1]) (by omega) (by omega) dJ6_getChars_ba4f3_120 hr

set_option maxRecDepth 100000 in
set_option maxHeartbeats 4000000 in
theorem c_appI0 {l : Launch} {D : va_G} {tys : List (ClassId × FieldType)} {cB : ClassId} (ht4 : tys[4]? = some (cB, .byte)) {sa : SA} (q : Nat) (tx : List Int32) (u : SBS tx) (z : Nat) (hz : z < 100) (ht : tx.length + 2 ≤ 142) : CEr l yJ5_append_c97b9 (wsm yJ5_append_c97b9 cJ5_append_c97b9 4 (some (.object "java/lang/AbstractStringBuilder"))) 5 1 300 D tys sa [(q, .inr (1, [.ref u.1.1, .int 0, .int 0, .int (i32 tx.length)])), (u.1.1, .inl (cB, u.1.2.1, .inl u.1.2.2))] [.ref q, .int (i32 z)] (fun u : SBS (tx ++ dg z) => q) (fun u : SBS (tx ++ dg z) => [(q, .inr (1, [.ref u.1.1, .int 0, .int 0, .int (i32 (tx ++ dg z).length)])), (u.1.1, .inl (cB, u.1.2.1, .inl u.1.2.2))]) := by
  have hmb := capOK_b u.2.1
  have htl := u.2.2.1
  have hdl := dg_le z
  refine ce_of (fun A => QEr D (fun u : SBS (tx ++ dg z) => q) (fun u : SBS (tx ++ dg z) => [(q, .inr (1, [.ref u.1.1, .int 0, .int 0, .int (i32 (tx ++ dg z).length)])), (u.1.1, .inl (cB, u.1.2.1, .inl u.1.2.2))]) A) RJ5 rfl (by decide +kernel) (Nat.le_of_ble_eq_true rfl) rfl ?_
  intro p0 e0 R0 s0_ m0_ args0 below0 meth0 c0_ A0 C hRc hRs hin hr
  refine vv_aload_n C 0 dJ5_append_c97b9_0 rfl rfl 1 rfl ?_
  refine vv_get C clw_J4 0 rfl 3 (by decide) zw_605 (.int (i32 tx.length)) rfl dJ5_append_c97b9_1 4 rfl ?_
  refine vv_istore_n C [(2, .int (i32 tx.length)), (0, .ref q), (1, .int (i32 z))] dJ5_append_c97b9_4 rfl (by decide) rfl 5 rfl ?_
  refine vv_iload_n C 0 dJ5_append_c97b9_5 rfl rfl 6 rfl ?_
  refine vv_iload_n C 2 dJ5_append_c97b9_6 rfl rfl 7 rfl ?_
  refine vx_callSi C (As := [.int (i32 z)]) (st := [.int (i32 tx.length)]) [] [0, 1] [] [(q, .inr (1, [.ref u.1.1, .int 0, .int 0, .int (i32 tx.length)])), (u.1.1, .inl (cB, u.1.2.1, .inl u.1.2.2))] rfl rfl (by decide) (by decide) (by decide) (c_size ht4 z hz) zw_718 zc_S_J6_stringSize_0f7a4 (by decide) (by decide) rfl rfl (Nat.le_of_ble_eq_true rfl) (by rw [hRc]; first | omega | exact Nat.le_of_ble_eq_true rfl) (by rw [hRs]; first | omega | exact Nat.le_of_ble_eq_true rfl) dJ5_append_c97b9_7 (0) (0) rfl rfl 10 rfl (fun _ => ?_)
  refine vv_ws (ws2 := [(q, .inr (1, [.ref u.1.1, .int 0, .int 0, .int (i32 tx.length)])), (u.1.1, .inl (cB, u.1.2.1, .inl u.1.2.2))]) rfl ?_
  refine vx_iadd C dJ5_append_c97b9_10 11 rfl ?_
  rw [show ((i32 tx.length) + (i32 (dg z).length)) = i32 (tx.length + (dg z).length) from i32_add _ _]
  refine vv_istore_n C [(3, .int (i32 (tx.length + (dg z).length))), (2, .int (i32 tx.length)), (0, .ref q), (1, .int (i32 z))] dJ5_append_c97b9_11 rfl (by decide) rfl 12 rfl ?_
  refine vv_aload_n C 2 dJ5_append_c97b9_12 rfl rfl 13 rfl ?_
  refine vv_iload_n C 0 dJ5_append_c97b9_13 rfl rfl 14 rfl ?_
  refine vx_callUv C (As := [.int (i32 (tx.length + (dg z).length))]) (st := []) [0, 1] [] [(q, .inr (1, [.ref u.1.1, .int 0, .int 0, .int (i32 tx.length)])), (u.1.1, .inl (cB, u.1.2.1, .inl u.1.2.2))] [] rfl rfl (by decide) (by decide) (by decide) 1 clw_J4.1 0 rfl (c_ensure ht4 q u.1.1 u.1.2.1 (tx.length + (dg z).length) u.1.2.2 (i32 tx.length) u.2.1 (by omega) (by omega) u.2.2.2.2) zw_627 zc_U_J5_ensureCapacityInternal_d00df (by decide) (by decide) rfl rfl (Nat.le_of_ble_eq_true rfl) (by rw [hRc]; first | omega | exact Nat.le_of_ble_eq_true rfl) (by rw [hRs]; first | omega | exact Nat.le_of_ble_eq_true rfl) dJ5_append_c97b9_14 (1) (300) rfl rfl 17 rfl (fun w => ?_)
  refine vv_ws (ws2 := [(q, .inr (1, [.ref w.1.1, .int 0, .int 0, .int (i32 tx.length)])), (w.1.1, .inl (cB, w.1.2.1, .inl w.1.2.2))]) rfl ?_
  refine vv_aload_n C 2 dJ5_append_c97b9_17 rfl rfl 18 rfl ?_
  refine vx_callUi C (As := []) (st := []) [0] [1] [(q, .inr (1, [.ref w.1.1, .int 0, .int 0, .int (i32 tx.length)]))] [(w.1.1, .inl (cB, w.1.2.1, .inl w.1.2.2))] rfl rfl (by decide) (by decide) (by decide) 1 clw_J4.1 0 rfl (c_isL ht4 q w.1.1 (i32 tx.length)) zw_656 zc_U_J5_isLatin1_aae02 (by decide) (by decide) rfl rfl (Nat.le_of_ble_eq_true rfl) (by rw [hRc]; first | omega | exact Nat.le_of_ble_eq_true rfl) (by rw [hRs]; first | omega | exact Nat.le_of_ble_eq_true rfl) dJ5_append_c97b9_18 (1) (300) rfl rfl 21 rfl (fun _ => ?_)
  refine vv_ws (ws2 := [(w.1.1, .inl (cB, w.1.2.1, .inl w.1.2.2)), (q, .inr (1, [.ref w.1.1, .int 0, .int 0, .int (i32 tx.length)]))]) rfl ?_
  refine vx_if_eqF C 37 dJ5_append_c97b9_21 (by decide) (by decide) 24 rfl ?_
  refine vv_iload_n C 3 dJ5_append_c97b9_24 rfl rfl 25 rfl ?_
  refine vv_iload_n C 0 dJ5_append_c97b9_25 rfl rfl 26 rfl ?_
  refine vv_aload_n C 2 dJ5_append_c97b9_26 rfl rfl 27 rfl ?_
  refine vv_get C clw_J4 1 rfl 0 (by decide) zw_602 (.ref w.1.1) rfl dJ5_append_c97b9_27 30 rfl ?_
  refine vx_callSi C (As := [.int (i32 z), .int (i32 (tx.length + (dg z).length)), .ref w.1.1]) (st := []) [0] [1] [(w.1.1, .inl (cB, w.1.2.1, .inl w.1.2.2))] [(q, .inr (1, [.ref w.1.1, .int 0, .int 0, .int (i32 tx.length)]))] rfl rfl (by decide) (by decide) (by decide) (c_getC ht4 w.1.1 w.1.2.1 (tx.length + (dg z).length) z w.1.2.2 hz (by omega) w.2.2.1 (by have := capOK_b w.2.1; omega)) zw_721 zc_S_J6_getChars_ba4f3 (by decide) (by decide) rfl rfl (Nat.le_of_ble_eq_true rfl) (by rw [hRc]; first | omega | exact Nat.le_of_ble_eq_true rfl) (by rw [hRs]; first | omega | exact Nat.le_of_ble_eq_true rfl) dJ5_append_c97b9_30 (1) (300) rfl rfl 33 rfl (fun _ => ?_)
  refine vv_ws (ws2 := [(q, .inr (1, [.ref w.1.1, .int 0, .int 0, .int (i32 tx.length)])), (w.1.1, .inl (cB, w.1.2.1, .inl (wrd w.1.2.2 (tx.length + (dg z).length) z)))]) rfl ?_
  refine vv_pop C dJ5_append_c97b9_33 rfl 34 rfl ?_
  refine vv_goto C 48 dJ5_append_c97b9_34 (by decide) ?_
  refine vv_aload_n C 2 dJ5_append_c97b9_48 rfl rfl 49 rfl ?_
  refine vv_iload_n C 0 dJ5_append_c97b9_49 rfl rfl 50 rfl ?_
  refine vv_put C clw_J4 0 rfl 3 (by decide) tyJ4 tyJ4_ok nmJ4 rfl zw_605 rfl rfl (Nat.le_of_ble_eq_true rfl) [(q, .inr (1, [.ref w.1.1, .int 0, .int 0, .int (i32 (tx.length + (dg z).length))])), (w.1.1, .inl (cB, w.1.2.1, .inl (wrd w.1.2.2 (tx.length + (dg z).length) z)))] rfl dJ5_append_c97b9_50 53 rfl ?_
  refine vv_aload_n C 2 dJ5_append_c97b9_53 rfl rfl 54 rfl ?_
  exact vx_aret C (sbs_dig w.1.1 w.1.2.1 w.1.2.2 hz w.2.1 w.2.2.1 (fun j hj => (w.2.2.2.1 j (Nat.lt_of_lt_of_le hj u.2.2.1)).2.trans (u.2.2.2.1 j hj)) w.2.2.2.2) rfl (congrArg (fun n => [(q, (.inr (1, [.ref w.1.1, .int 0, .int 0, .int (i32 n)]) : va_E)), (w.1.1, (.inl (cB, w.1.2.1, .inl (wrd w.1.2.2 (tx.length + (dg z).length) z)) : va_E))]) List.length_append.symm) (by omega) (by omega) dJ5_append_c97b9_54 hr (by first | exact Or.inl ⟨_, rfl⟩ | exact Or.inr ⟨_, rfl⟩)

set_option maxRecDepth 100000 in
set_option maxHeartbeats 4000000 in
theorem c_appI {l : Launch} {D : va_G} {tys : List (ClassId × FieldType)} {cB : ClassId} (ht4 : tys[4]? = some (cB, .byte)) {sa : SA} (q : Nat) (tx : List Int32) (u : SBS tx) (z : Nat) (hz : z < 100) (ht : tx.length + 2 ≤ 142) : CEr l yJ4_append_bf812 (wsm yJ4_append_bf812 cJ4_append_bf812 2 (some (.object "java/lang/StringBuilder"))) 6 1 300 D tys sa [(q, .inr (1, [.ref u.1.1, .int 0, .int 0, .int (i32 tx.length)])), (u.1.1, .inl (cB, u.1.2.1, .inl u.1.2.2))] [.ref q, .int (i32 z)] (fun u : SBS (tx ++ dg z) => q) (fun u : SBS (tx ++ dg z) => [(q, .inr (1, [.ref u.1.1, .int 0, .int 0, .int (i32 (tx ++ dg z).length)])), (u.1.1, .inl (cB, u.1.2.1, .inl u.1.2.2))]) := by
  refine ce_of (fun A => QEr D (fun u : SBS (tx ++ dg z) => q) (fun u : SBS (tx ++ dg z) => [(q, .inr (1, [.ref u.1.1, .int 0, .int 0, .int (i32 (tx ++ dg z).length)])), (u.1.1, .inl (cB, u.1.2.1, .inl u.1.2.2))]) A) RJ4 rfl (by decide +kernel) (Nat.le_of_ble_eq_true rfl) rfl ?_
  intro p0 e0 R0 s0_ m0_ args0 below0 meth0 c0_ A0 C hRc hRs hin hr
  refine vv_aload_n C 0 dJ4_append_bf812_0 rfl rfl 1 rfl ?_
  refine vv_iload_n C 1 dJ4_append_bf812_1 rfl rfl 2 rfl ?_
  refine vx_callQr C (As := [.int (i32 z)]) (st := []) [0, 1] [] [(q, .inr (1, [.ref u.1.1, .int 0, .int 0, .int (i32 tx.length)])), (u.1.1, .inl (cB, u.1.2.1, .inl u.1.2.2))] [] rfl rfl (by decide) (by decide) (by decide) 1 clw_J4.1 0 rfl (c_appI0 ht4 q tx u z hz ht) zw_715 zc_Q_J5_append_c97b9 (by decide) (by decide) rfl rfl (Nat.le_of_ble_eq_true rfl) (by rw [hRc]; first | omega | exact Nat.le_of_ble_eq_true rfl) (by rw [hRs]; first | omega | exact Nat.le_of_ble_eq_true rfl) dJ4_append_bf812_2 (1) (300) rfl rfl 5 rfl (fun w => ?_)
  refine vv_ws (ws2 := [(q, .inr (1, [.ref w.1.1, .int 0, .int 0, .int (i32 (tx ++ dg z).length)])), (w.1.1, .inl (cB, w.1.2.1, .inl w.1.2.2))]) rfl ?_
  refine vv_pop C dJ4_append_bf812_5 rfl 6 rfl ?_
  refine vv_aload_n C 0 dJ4_append_bf812_6 rfl rfl 7 rfl ?_
  exact vx_aret C w rfl rfl (by omega) (by omega) dJ4_append_bf812_7 hr (by first | exact Or.inl ⟨_, rfl⟩ | exact Or.inr ⟨_, rfl⟩)

set_option maxRecDepth 100000 in
set_option maxHeartbeats 4000000 in
theorem c_J5_init {l : Launch} {D : va_G} {tys : List (ClassId × FieldType)} {cB : ClassId} (ht4 : tys[4]? = some (cB, .byte)) {sa : SA} (q : Nat) : CI l yJ5_init_d00df (wsm yJ5_init_d00df cJ5_init_d00df 2 none) 2 1 16 D tys sa [(q, .inr (1, [.null, .int 0, .int 0, .int 0]))] [.ref q, .int 16] (fun u : Nat => [(q, .inr (1, [.ref u, .int 0, .int 0, .int 0])), (u, .inl (cB, 16, .inl (fun _ => 0)))]) := by
  refine ce_of (fun A => QEv D (fun u : Nat => [(q, .inr (1, [.ref u, .int 0, .int 0, .int 0])), (u, .inl (cB, 16, .inl (fun _ => 0)))]) A) RJ5 rfl (by decide +kernel) (Nat.le_of_ble_eq_true rfl) rfl ?_
  intro p0 e0 R0 s0_ m0_ args0 below0 meth0 c0_ A0 C hRc hRs hin hr
  refine vv_aload_n C 0 dJ5_init_d00df_0 rfl rfl 1 rfl ?_
  refine vv_objInit C zw_593 wc_oi (by decide) (Nat.le_of_ble_eq_true rfl) dJ5_init_d00df_1 4 rfl ?_
  refine vx_comp C zw_594 dJ5_init_d00df_4 7 rfl ?_
  refine vx_if_eqF C 25 dJ5_init_d00df_7 (by decide) (by decide) 10 rfl ?_
  refine vv_aload_n C 0 dJ5_init_d00df_10 rfl rfl 11 rfl ?_
  refine vv_iload_n C 1 dJ5_init_d00df_11 rfl rfl 12 rfl ?_
  refine vx_newb C 4 ht4 zw_ab 16 (by decide) (by decide) (by decide) (by rw [hRc]; omega) (by rw [hRs]; omega) dJ5_init_d00df_12 (0 + 1) (0 + 16) rfl rfl 14 rfl (fun q0 => ?_)
  refine vv_ws (ws2 := [(q, .inr (1, [.null, .int 0, .int 0, .int 0])), (q0, .inl (cB, 16, .inl (fun _ => 0)))]) rfl ?_
  refine vv_put C clw_J4 0 rfl 0 (by decide) tyJ4 tyJ4_ok nmJ4 rfl zw_602 rfl rfl (Nat.le_of_ble_eq_true rfl) [(q, .inr (1, [.ref q0, .int 0, .int 0, .int 0])), (q0, .inl (cB, 16, .inl (fun _ => 0)))] rfl dJ5_init_d00df_14 17 rfl ?_
  refine vv_aload_n C 0 dJ5_init_d00df_17 rfl rfl 18 rfl ?_
  refine vv_iconst C (0 : Int32) dJ5_init_d00df_18 (by decide) 19 rfl ?_
  refine vv_put C clw_J4 0 rfl 1 (by decide) tyJ4 tyJ4_ok nmJ4 rfl zw_603 rfl rfl (Nat.le_of_ble_eq_true rfl) [(q, .inr (1, [.ref q0, .int (0 : Int32), .int 0, .int 0])), (q0, .inl (cB, 16, .inl (fun _ => 0)))] rfl dJ5_init_d00df_19 22 rfl ?_
  refine vv_goto C 38 dJ5_init_d00df_22 (by decide) ?_
  exact vx_vret C q0 rfl (by omega) (by omega) dJ5_init_d00df_38 hr

set_option maxRecDepth 100000 in
set_option maxHeartbeats 4000000 in
theorem c_J4_init {l : Launch} {D : va_G} {tys : List (ClassId × FieldType)} {cB : ClassId} (ht4 : tys[4]? = some (cB, .byte)) {sa : SA} (q : Nat) : CI l yJ4_init_da8c8 (wsm yJ4_init_da8c8 cJ4_init_da8c8 1 none) 3 1 16 D tys sa [(q, .inr (1, [.null, .int 0, .int 0, .int 0]))] [.ref q] (fun u : Nat => [(q, .inr (1, [.ref u, .int 0, .int 0, .int 0])), (u, .inl (cB, 16, .inl (fun _ => 0)))]) := by
  refine ce_of (fun A => QEv D (fun u : Nat => [(q, .inr (1, [.ref u, .int 0, .int 0, .int 0])), (u, .inl (cB, 16, .inl (fun _ => 0)))]) A) RJ4 rfl (by decide +kernel) (Nat.le_of_ble_eq_true rfl) rfl ?_
  intro p0 e0 R0 s0_ m0_ args0 below0 meth0 c0_ A0 C hRc hRs hin hr
  refine vv_aload_n C 0 dJ4_init_da8c8_0 rfl rfl 1 rfl ?_
  refine vv_bipush C (16 : Int32) dJ4_init_da8c8_1 (by decide) 3 rfl ?_
  refine vv_callI C (As := [.int (16 : Int32)]) (st := []) [0] [] [(q, .inr (1, [.null, .int 0, .int 0, .int 0]))] [] rfl rfl (by decide) (by decide) (by decide) (c_J5_init ht4 q) zw_590 zc_I_J5_init_d00df rfl (by decide) (by decide) rfl rfl (Nat.le_of_ble_eq_true rfl) (by rw [hRc]; first | omega | exact Nat.le_of_ble_eq_true rfl) (by rw [hRs]; first | omega | exact Nat.le_of_ble_eq_true rfl) dJ4_init_da8c8_3 (1) (16) rfl rfl 6 rfl (fun v0 => ?_)
  refine vv_ws (ws2 := [(q, .inr (1, [.ref v0, .int 0, .int 0, .int 0])), (v0, .inl (cB, 16, .inl (fun _ => 0)))]) rfl ?_
  exact vx_vret C v0 rfl (by omega) (by omega) dJ4_init_da8c8_6 hr

set_option maxRecDepth 100000 in
set_option maxHeartbeats 4000000 in
theorem c_getV {l : Launch} {D : va_G} {tys : List (ClassId × FieldType)} {cB : ClassId} (ht4 : tys[4]? = some (cB, .byte)) {sa : SA} (q v : Nat) (nn : Int32) : CEr l yJ5_getValue_6d5f1 (wsm yJ5_getValue_6d5f1 cJ5_getValue_6d5f1 1 (some (.array .byte))) 1 0 0 D tys sa [(q, .inr (1, [.ref v, .int 0, .int 0, .int nn]))] [.ref q] (fun u : Unit => v) (fun u : Unit => [(q, .inr (1, [.ref v, .int 0, .int 0, .int nn]))]) := by
  refine ce_of (fun A => QEr D (fun u : Unit => v) (fun u : Unit => [(q, .inr (1, [.ref v, .int 0, .int 0, .int nn]))]) A) RJ5 rfl (by decide +kernel) (Nat.le_of_ble_eq_true rfl) rfl ?_
  intro p0 e0 R0 s0_ m0_ args0 below0 meth0 c0_ A0 C hRc hRs hin hr
  refine vv_aload_n C 0 dJ5_getValue_6d5f1_0 rfl rfl 1 rfl ?_
  refine vv_get C clw_J4 0 rfl 0 (by decide) zw_602 (.ref v) rfl dJ5_getValue_6d5f1_1 4 rfl ?_
  exact vx_aret C () rfl rfl (by omega) (by omega) dJ5_getValue_6d5f1_4 hr (by first | exact Or.inl ⟨_, rfl⟩ | exact Or.inr ⟨_, rfl⟩)

set_option maxRecDepth 100000 in
set_option maxHeartbeats 4000000 in
theorem c_len5 {l : Launch} {D : va_G} {tys : List (ClassId × FieldType)} {cB : ClassId} (ht4 : tys[4]? = some (cB, .byte)) {sa : SA} (q v : Nat) (nn : Int32) : CEi l yJ5_length_8abf5 (wsm yJ5_length_8abf5 cJ5_length_8abf5 1 (some .int)) 1 0 0 D tys sa [(q, .inr (1, [.ref v, .int 0, .int 0, .int nn]))] [.ref q] (fun u : Unit => nn) (fun u : Unit => [(q, .inr (1, [.ref v, .int 0, .int 0, .int nn]))]) := by
  refine ce_of (fun A => QEi D (fun u : Unit => nn) (fun u : Unit => [(q, .inr (1, [.ref v, .int 0, .int 0, .int nn]))]) A) RJ5 rfl (by decide +kernel) (Nat.le_of_ble_eq_true rfl) rfl ?_
  intro p0 e0 R0 s0_ m0_ args0 below0 meth0 c0_ A0 C hRc hRs hin hr
  refine vv_aload_n C 0 dJ5_length_8abf5_0 rfl rfl 1 rfl ?_
  refine vv_get C clw_J4 0 rfl 3 (by decide) zw_605 (.int nn) rfl dJ5_length_8abf5_1 4 rfl ?_
  exact vx_iret C () rfl rfl (by omega) (by omega) dJ5_length_8abf5_4 hr

set_option maxRecDepth 100000 in
set_option maxHeartbeats 4000000 in
theorem c_len4 {l : Launch} {D : va_G} {tys : List (ClassId × FieldType)} {cB : ClassId} (ht4 : tys[4]? = some (cB, .byte)) {sa : SA} (q v : Nat) (nn : Int32) : CEi l yJ4_length_8abf5 (wsm yJ4_length_8abf5 cJ4_length_8abf5 1 (some .int)) 2 0 0 D tys sa [(q, .inr (1, [.ref v, .int 0, .int 0, .int nn]))] [.ref q] (fun u : Unit => nn) (fun u : Unit => [(q, .inr (1, [.ref v, .int 0, .int 0, .int nn]))]) := by
  refine ce_of (fun A => QEi D (fun u : Unit => nn) (fun u : Unit => [(q, .inr (1, [.ref v, .int 0, .int 0, .int nn]))]) A) RJ4 rfl (by decide +kernel) (Nat.le_of_ble_eq_true rfl) rfl ?_
  intro p0 e0 R0 s0_ m0_ args0 below0 meth0 c0_ A0 C hRc hRs hin hr
  refine vv_aload_n C 0 dJ4_length_8abf5_0 rfl rfl 1 rfl ?_
  refine vx_callQi C (As := []) (st := []) [0] [] [(q, .inr (1, [.ref v, .int 0, .int 0, .int nn]))] [] rfl rfl (by decide) (by decide) (by decide) 1 clw_J4.1 0 rfl (c_len5 ht4 q v nn) zw_767 zc_Q_J5_length_8abf5 (by decide) (by decide) rfl rfl (Nat.le_of_ble_eq_true rfl) (by rw [hRc]; first | omega | exact Nat.le_of_ble_eq_true rfl) (by rw [hRs]; first | omega | exact Nat.le_of_ble_eq_true rfl) dJ4_length_8abf5_1 (0) (0) rfl rfl 4 rfl (fun _ => ?_)
  refine vv_ws (ws2 := [(q, .inr (1, [.ref v, .int 0, .int 0, .int nn]))]) rfl ?_
  exact vx_iret C () rfl rfl (by omega) (by omega) dJ4_length_8abf5_4 hr

set_option maxRecDepth 100000 in
set_option maxHeartbeats 4000000 in
theorem c_chkL {l : Launch} {D : va_G} {tys : List (ClassId × FieldType)} {cB : ClassId} (ht4 : tys[4]? = some (cB, .byte)) {sa : SA} (x y : Int32) (h : x ≤ y) : CI l yJ7_checkLength_df160 (wsm yJ7_checkLength_df160 cJ7_checkLength_df160 2 none) 1 0 0 D tys sa [] [.int x, .int y] (fun u : Unit => []) := by
  refine ce_of (fun A => QEv D (fun u : Unit => []) A) RJ7 rfl (by decide +kernel) (Nat.le_of_ble_eq_true rfl) rfl ?_
  intro p0 e0 R0 s0_ m0_ args0 below0 meth0 c0_ A0 C hRc hRs hin hr
  refine vv_iload_n C 1 dJ7_checkLength_df160_0 rfl rfl 1 rfl ?_
  refine vv_iload_n C 0 dJ7_checkLength_df160_1 rfl rfl 2 rfl ?_
  refine vx_icmp_geT C 37 dJ7_checkLength_df160_2 (by decide) h ?_
  exact vx_vret C () rfl (by omega) (by omega) dJ7_checkLength_df160_37 hr

set_option maxRecDepth 100000 in
set_option maxHeartbeats 4000000 in
theorem c_rangeB {l : Launch} {D : va_G} {tys : List (ClassId × FieldType)} {cB : ClassId} (ht4 : tys[4]? = some (cB, .byte)) {sa : SA} (v m n : Nat) (f : Nat → Int32) (hn : n < m) (hm : m ≤ 300) (hf : sb_Fit f) : CEr l yJ7_copyOfRangeByte_39247 (wsm yJ7_copyOfRangeByte_39247 cJ7_copyOfRangeByte_39247 5 (some (.array .byte))) 2 1 300 D tys sa [(v, .inl (cB, m, .inl f))] [.ref v, .int 0, .int (i32 n)] (fun u : Nat => u) (fun u : Nat => [(v, .inl (cB, m, .inl f)), (u, .inl (cB, n, .inl (va_cpy f (fun _ => 0) 0 0 n)))]) := by
  refine ce_of (fun A => QEr D (fun u : Nat => u) (fun u : Nat => [(v, .inl (cB, m, .inl f)), (u, .inl (cB, n, .inl (va_cpy f (fun _ => 0) 0 0 n)))]) A) RJ7 rfl (by decide +kernel) (Nat.le_of_ble_eq_true rfl) rfl ?_
  intro p0 e0 R0 s0_ m0_ args0 below0 meth0 c0_ A0 C hRc hRs hin hr
  refine vv_iload_n C 1 dJ7_copyOfRangeByte_39247_0 rfl rfl 1 rfl ?_
  refine vv_iload_n C 2 dJ7_copyOfRangeByte_39247_1 rfl rfl 2 rfl ?_
  refine vx_callSv C (As := [.int 0, .int (i32 n)]) (st := []) [] [0] [] [(v, .inl (cB, m, .inl f))] rfl rfl (by decide) (by decide) (by decide) (c_chkL ht4 0 (i32 n) (i32_le0 (by omega))) zw_776 zc_S_J7_checkLength_df160 (by decide) (by decide) rfl rfl (Nat.le_of_ble_eq_true rfl) (by rw [hRc]; first | omega | exact Nat.le_of_ble_eq_true rfl) (by rw [hRs]; first | omega | exact Nat.le_of_ble_eq_true rfl) dJ7_copyOfRangeByte_39247_2 (0) (0) rfl rfl 5 rfl (fun _ => ?_)
  refine vv_ws (ws2 := [(v, .inl (cB, m, .inl f))]) rfl ?_
  refine vv_iload_n C 2 dJ7_copyOfRangeByte_39247_5 rfl rfl 6 rfl ?_
  refine vv_iload_n C 1 dJ7_copyOfRangeByte_39247_6 rfl rfl 7 rfl ?_
  refine vx_isub C dJ7_copyOfRangeByte_39247_7 8 rfl ?_
  rw [show ((i32 n) - 0) = i32 n from Int32.sub_zero _]
  refine vv_istore_n C [(3, .int (i32 n)), (0, .ref v), (1, .int 0), (2, .int (i32 n))] dJ7_copyOfRangeByte_39247_8 rfl (by decide) rfl 9 rfl ?_
  refine vv_iload_n C 0 dJ7_copyOfRangeByte_39247_9 rfl rfl 10 rfl ?_
  refine vx_newb C 4 ht4 zw_ab n (i32_nn (by omega)) (i32_tn (by omega)) (by omega) (by rw [hRc]; omega) (by rw [hRs]; omega) dJ7_copyOfRangeByte_39247_10 (0 + 1) (0 + n) rfl rfl 12 rfl (fun q0 => ?_)
  refine vv_ws (ws2 := [(v, .inl (cB, m, .inl f)), (q0, .inl (cB, n, .inl (fun _ => 0)))]) rfl ?_
  refine vx_astore C [(4, .ref q0), (3, .int (i32 n)), (0, .ref v), (1, .int 0), (2, .int (i32 n))] dJ7_copyOfRangeByte_39247_12 (by decide) rfl 14 rfl ?_
  refine vv_aload_n C 2 dJ7_copyOfRangeByte_39247_14 rfl rfl 15 rfl ?_
  refine vv_iload_n C 3 dJ7_copyOfRangeByte_39247_15 rfl rfl 16 rfl ?_
  refine vx_aload C 0 dJ7_copyOfRangeByte_39247_16 rfl 18 rfl ?_
  refine vv_iconst C (0 : Int32) dJ7_copyOfRangeByte_39247_18 (by decide) 19 rfl ?_
  refine vv_aload_n C 2 dJ7_copyOfRangeByte_39247_19 rfl rfl 20 rfl ?_
  refine vx_alen C 0 4 ht4 rfl (Int32.ofNat m) rfl dJ7_copyOfRangeByte_39247_20 21 rfl ?_
  refine vv_iload_n C 3 dJ7_copyOfRangeByte_39247_21 rfl rfl 22 rfl ?_
  refine vx_isub C dJ7_copyOfRangeByte_39247_22 23 rfl ?_
  rw [show ((Int32.ofNat m) - 0) = i32 m from Int32.sub_zero _]
  refine vv_iload_n C 1 dJ7_copyOfRangeByte_39247_23 rfl rfl 24 rfl ?_
  refine vx_min C (i32 n) (if_pos (i32_ltp (a := n) (b := m) (by omega) (by omega))) zw_654 wm_min (by decide) (Nat.le_of_ble_eq_true rfl) ⟨by rw [hRc]; omega, by rw [hRs]; omega⟩ dJ7_copyOfRangeByte_39247_24 27 rfl ?_
  refine vx_copyW C 0 1 4 rfl rfl ht4 (cp_ok (a := 0) (b := 0) (c := n) (by omega) (by omega) (by omega)) hf zw_655 wm_copy (by decide) (Nat.le_of_ble_eq_true rfl) [(v, .inl (cB, m, .inl f)), (q0, .inl (cB, n, .inl (va_cpy f (fun _ => 0) 0 0 n)))] (by rw [i32_tn (by omega), sb_cl0]; rfl) dJ7_copyOfRangeByte_39247_27 30 rfl ?_
  refine vx_aload C 0 dJ7_copyOfRangeByte_39247_30 rfl 32 rfl ?_
  exact vx_aret C q0 rfl rfl (by omega) (by omega) dJ7_copyOfRangeByte_39247_32 hr (by first | exact Or.inl ⟨_, rfl⟩ | exact Or.inr ⟨_, rfl⟩)

set_option maxRecDepth 100000 in
set_option maxHeartbeats 4000000 in
theorem c_range {l : Launch} {D : va_G} {tys : List (ClassId × FieldType)} {cB : ClassId} (ht4 : tys[4]? = some (cB, .byte)) {sa : SA} (v m n : Nat) (f : Nat → Int32) (hn : n < m) (hm : m ≤ 300) (hf : sb_Fit f) : CEr l yJ7_copyOfRange_39247 (wsm yJ7_copyOfRange_39247 cJ7_copyOfRange_39247 3 (some (.array .byte))) 3 1 300 D tys sa [(v, .inl (cB, m, .inl f))] [.ref v, .int 0, .int (i32 n)] (fun u : Nat => u) (fun u : Nat => [(v, .inl (cB, m, .inl f)), (u, .inl (cB, n, .inl (va_cpy f (fun _ => 0) 0 0 n)))]) := by
  refine ce_of (fun A => QEr D (fun u : Nat => u) (fun u : Nat => [(v, .inl (cB, m, .inl f)), (u, .inl (cB, n, .inl (va_cpy f (fun _ => 0) 0 0 n)))]) A) RJ7 rfl (by decide +kernel) (Nat.le_of_ble_eq_true rfl) rfl ?_
  intro p0 e0 R0 s0_ m0_ args0 below0 meth0 c0_ A0 C hRc hRs hin hr
  refine vv_iload_n C 1 dJ7_copyOfRange_39247_0 rfl rfl 1 rfl ?_
  refine vx_if_neF C 10 dJ7_copyOfRange_39247_1 (by decide) (fun h => h rfl) 4 rfl ?_
  refine vv_iload_n C 2 dJ7_copyOfRange_39247_4 rfl rfl 5 rfl ?_
  refine vv_aload_n C 0 dJ7_copyOfRange_39247_5 rfl rfl 6 rfl ?_
  refine vx_alen C 0 4 ht4 rfl (Int32.ofNat m) rfl dJ7_copyOfRange_39247_6 7 rfl ?_
  refine vx_icmp_eqF C 17 dJ7_copyOfRange_39247_7 (by decide) (fun h => by have := (i32_inj (a := n) (b := m) (by omega) (by omega)).mp h; omega) 10 rfl ?_
  refine vv_aload_n C 0 dJ7_copyOfRange_39247_10 rfl rfl 11 rfl ?_
  refine vv_iload_n C 1 dJ7_copyOfRange_39247_11 rfl rfl 12 rfl ?_
  refine vv_iload_n C 2 dJ7_copyOfRange_39247_12 rfl rfl 13 rfl ?_
  refine vx_callSr C (As := [.ref v, .int 0, .int (i32 n)]) (st := []) [0] [] [(v, .inl (cB, m, .inl f))] [] rfl rfl (by decide) (by decide) (by decide) (c_rangeB ht4 v m n f hn hm hf) zw_773 zc_S_J7_copyOfRangeByte_39247 (by decide) (by decide) rfl rfl (Nat.le_of_ble_eq_true rfl) (by rw [hRc]; first | omega | exact Nat.le_of_ble_eq_true rfl) (by rw [hRs]; first | omega | exact Nat.le_of_ble_eq_true rfl) dJ7_copyOfRange_39247_13 (1) (300) rfl rfl 16 rfl (fun w => ?_)
  refine vv_ws (ws2 := [(v, .inl (cB, m, .inl f)), (w, .inl (cB, n, .inl (va_cpy f (fun _ => 0) 0 0 n)))]) rfl ?_
  exact vx_aret C w rfl rfl (by omega) (by omega) dJ7_copyOfRange_39247_16 hr (by first | exact Or.inl ⟨_, rfl⟩ | exact Or.inr ⟨_, rfl⟩)

set_option maxRecDepth 100000 in
set_option maxHeartbeats 4000000 in
theorem c_strA {l : Launch} {D : va_G} {tys : List (ClassId × FieldType)} {cB : ClassId} (ht4 : tys[4]? = some (cB, .byte)) {sa : SA} (s0 : Nat) (q v m n : Nat) (f : Nat → Int32) (hn : n < m) (hm : m ≤ 300) (hf : sb_Fit f) : CI l yJ0_init_db425 (wsm yJ0_init_db425 cJ0_init_db425 5 none) 4 1 300 D tys sa [(s0, .inr (0, [.null, .int 0, .int 0, .int 0])), (q, .inr (1, [.ref v, .int 0, .int 0, .int (i32 n)])), (v, .inl (cB, m, .inl f))] [.ref s0, .ref q, .null] (fun u : Nat => [(s0, .inr (0, [.ref u, .int 0, .int 0, .int 0])), (q, .inr (1, [.ref v, .int 0, .int 0, .int (i32 n)])), (v, .inl (cB, m, .inl f)), (u, .inl (cB, n, .inl (va_cpy f (fun _ => 0) 0 0 n)))]) := by
  refine ce_of (fun A => QEv D (fun u : Nat => [(s0, .inr (0, [.ref u, .int 0, .int 0, .int 0])), (q, .inr (1, [.ref v, .int 0, .int 0, .int (i32 n)])), (v, .inl (cB, m, .inl f)), (u, .inl (cB, n, .inl (va_cpy f (fun _ => 0) 0 0 n)))]) A) RJ0 rfl (by decide +kernel) (Nat.le_of_ble_eq_true rfl) rfl ?_
  intro p0 e0 R0 s0_ m0_ args0 below0 meth0 c0_ A0 C hRc hRs hin hr
  refine vv_aload_n C 0 dJ0_init_db425_0 rfl rfl 1 rfl ?_
  refine vv_objInit C zw_755 wc_oi (by decide) (Nat.le_of_ble_eq_true rfl) dJ0_init_db425_1 4 rfl ?_
  refine vv_aload_n C 1 dJ0_init_db425_4 rfl rfl 5 rfl ?_
  refine vx_callUr C (As := []) (st := []) [1] [0, 2] [(q, .inr (1, [.ref v, .int 0, .int 0, .int (i32 n)]))] [(s0, .inr (0, [.null, .int 0, .int 0, .int 0])), (v, .inl (cB, m, .inl f))] rfl rfl (by decide) (by decide) (by decide) 1 clw_J4.1 1 rfl (c_getV ht4 q v (i32 n)) zw_756 zc_U_J5_getValue_6d5f1 (by decide) (by decide) rfl rfl (Nat.le_of_ble_eq_true rfl) (by rw [hRc]; first | omega | exact Nat.le_of_ble_eq_true rfl) (by rw [hRs]; first | omega | exact Nat.le_of_ble_eq_true rfl) dJ0_init_db425_5 (0) (0) rfl rfl 8 rfl (fun _ => ?_)
  refine vv_ws (ws2 := [(s0, .inr (0, [.null, .int 0, .int 0, .int 0])), (v, .inl (cB, m, .inl f)), (q, .inr (1, [.ref v, .int 0, .int 0, .int (i32 n)]))]) rfl ?_
  refine vv_astore_n C [(3, .ref v), (0, .ref s0), (1, .ref q), (2, .null)] dJ0_init_db425_8 rfl (by decide) rfl 9 rfl ?_
  refine vv_aload_n C 2 dJ0_init_db425_9 rfl rfl 10 rfl ?_
  refine vx_callOi C (As := []) (st := []) [2] [0, 1] [(q, .inr (1, [.ref v, .int 0, .int 0, .int (i32 n)]))] [(s0, .inr (0, [.null, .int 0, .int 0, .int 0])), (v, .inl (cB, m, .inl f))] rfl rfl (by decide) (by decide) (by decide) 1 clw_J4.1 2 rfl (c_len4 ht4 q v (i32 n)) zw_761 zc_O_J4_length_8abf5 (by decide) (by decide) rfl rfl (Nat.le_of_ble_eq_true rfl) (by rw [hRc]; first | omega | exact Nat.le_of_ble_eq_true rfl) (by rw [hRs]; first | omega | exact Nat.le_of_ble_eq_true rfl) dJ0_init_db425_10 (0) (0) rfl rfl 13 rfl (fun _ => ?_)
  refine vv_ws (ws2 := [(s0, .inr (0, [.null, .int 0, .int 0, .int 0])), (v, .inl (cB, m, .inl f)), (q, .inr (1, [.ref v, .int 0, .int 0, .int (i32 n)]))]) rfl ?_
  refine vx_istore C [(4, .int (i32 n)), (3, .ref v), (0, .ref s0), (1, .ref q), (2, .null)] dJ0_init_db425_13 (by decide) rfl 15 rfl ?_
  refine vv_aload_n C 3 dJ0_init_db425_15 rfl rfl 16 rfl ?_
  refine vx_callUi C (As := []) (st := []) [2] [0, 1] [(q, .inr (1, [.ref v, .int 0, .int 0, .int (i32 n)]))] [(s0, .inr (0, [.null, .int 0, .int 0, .int 0])), (v, .inl (cB, m, .inl f))] rfl rfl (by decide) (by decide) (by decide) 1 clw_J4.1 2 rfl (c_isL ht4 q v (i32 n)) zw_769 zc_U_J5_isLatin1_aae02 (by decide) (by decide) rfl rfl (Nat.le_of_ble_eq_true rfl) (by rw [hRc]; first | omega | exact Nat.le_of_ble_eq_true rfl) (by rw [hRs]; first | omega | exact Nat.le_of_ble_eq_true rfl) dJ0_init_db425_16 (0) (0) rfl rfl 19 rfl (fun _ => ?_)
  refine vv_ws (ws2 := [(s0, .inr (0, [.null, .int 0, .int 0, .int 0])), (v, .inl (cB, m, .inl f)), (q, .inr (1, [.ref v, .int 0, .int 0, .int (i32 n)]))]) rfl ?_
  refine vx_if_eqF C 41 dJ0_init_db425_19 (by decide) (by decide) 22 rfl ?_
  refine vv_aload_n C 2 dJ0_init_db425_22 rfl rfl 23 rfl ?_
  refine vv_iconst C (0 : Int32) dJ0_init_db425_23 (by decide) 24 rfl ?_
  refine vv_putF C hin clw_J0 0 rfl 1 (by decide) tyJ0 tyJ0_ok nmJ0 rfl rfl zw_790 rfl rfl (Nat.le_of_ble_eq_true rfl) [(s0, .inr (0, [.null, .int (0 : Int32), .int 0, .int 0])), (v, .inl (cB, m, .inl f)), (q, .inr (1, [.ref v, .int 0, .int 0, .int (i32 n)]))] rfl dJ0_init_db425_24 27 rfl ?_
  refine vv_aload_n C 2 dJ0_init_db425_27 rfl rfl 28 rfl ?_
  refine vv_aload_n C 1 dJ0_init_db425_28 rfl rfl 29 rfl ?_
  refine vv_iconst C (0 : Int32) dJ0_init_db425_29 (by decide) 30 rfl ?_
  refine vx_iload C 0 dJ0_init_db425_30 rfl 32 rfl ?_
  refine vx_callSr C (As := [.ref v, .int (0 : Int32), .int (i32 n)]) (st := [.ref s0]) [1] [0, 2] [(v, .inl (cB, m, .inl f))] [(s0, .inr (0, [.null, .int (0 : Int32), .int 0, .int 0])), (q, .inr (1, [.ref v, .int 0, .int 0, .int (i32 n)]))] rfl rfl (by decide) (by decide) (by decide) (c_range ht4 v m n f hn hm hf) zw_770 zc_S_J7_copyOfRange_39247 (by decide) (by decide) rfl rfl (Nat.le_of_ble_eq_true rfl) (by rw [hRc]; first | omega | exact Nat.le_of_ble_eq_true rfl) (by rw [hRs]; first | omega | exact Nat.le_of_ble_eq_true rfl) dJ0_init_db425_32 (1) (300) rfl rfl 35 rfl (fun w => ?_)
  refine vv_ws (ws2 := [(s0, .inr (0, [.null, .int (0 : Int32), .int 0, .int 0])), (q, .inr (1, [.ref v, .int 0, .int 0, .int (i32 n)])), (v, .inl (cB, m, .inl f)), (w, .inl (cB, n, .inl (va_cpy f (fun _ => 0) 0 0 n)))]) rfl ?_
  refine vv_putF C hin clw_J0 0 rfl 0 (by decide) tyJ0 tyJ0_ok nmJ0 rfl rfl zw_789 rfl rfl (Nat.le_of_ble_eq_true rfl) [(s0, .inr (0, [.ref w, .int (0 : Int32), .int 0, .int 0])), (q, .inr (1, [.ref v, .int 0, .int 0, .int (i32 n)])), (v, .inl (cB, m, .inl f)), (w, .inl (cB, n, .inl (va_cpy f (fun _ => 0) 0 0 n)))] rfl dJ0_init_db425_35 38 rfl ?_
  refine vv_goto C 97 dJ0_init_db425_38 (by decide) ?_
  refine vv_world C [(s0, .inr (0, [.ref w, .int 0, .int 0, .int 0])), (q, .inr (1, [.ref v, .int 0, .int 0, .int (i32 n)])), (v, .inl (cB, m, .inl f)), (w, .inl (cB, n, .inl (va_cpy f (fun _ => 0) 0 0 n)))] [0, 1, 2, 3] (by decide) rfl ?_
  exact vx_vret C w rfl (by omega) (by omega) dJ0_init_db425_97 hr

set_option maxRecDepth 100000 in
set_option maxHeartbeats 4000000 in
theorem c_strB {l : Launch} {D : va_G} {tys : List (ClassId × FieldType)} {cB : ClassId} (ht4 : tys[4]? = some (cB, .byte)) {sa : SA} (s0 : Nat) (q v m n : Nat) (f : Nat → Int32) (hn : n < m) (hm : m ≤ 300) (hf : sb_Fit f) : CI l yJ0_init_81219 (wsm yJ0_init_81219 cJ0_init_81219 2 none) 5 1 300 D tys sa [(s0, .inr (0, [.null, .int 0, .int 0, .int 0])), (q, .inr (1, [.ref v, .int 0, .int 0, .int (i32 n)])), (v, .inl (cB, m, .inl f))] [.ref s0, .ref q] (fun u : Nat => [(s0, .inr (0, [.ref u, .int 0, .int 0, .int 0])), (q, .inr (1, [.ref v, .int 0, .int 0, .int (i32 n)])), (v, .inl (cB, m, .inl f)), (u, .inl (cB, n, .inl (va_cpy f (fun _ => 0) 0 0 n)))]) := by
  refine ce_of (fun A => QEv D (fun u : Nat => [(s0, .inr (0, [.ref u, .int 0, .int 0, .int 0])), (q, .inr (1, [.ref v, .int 0, .int 0, .int (i32 n)])), (v, .inl (cB, m, .inl f)), (u, .inl (cB, n, .inl (va_cpy f (fun _ => 0) 0 0 n)))]) A) RJ0 rfl (by decide +kernel) (Nat.le_of_ble_eq_true rfl) rfl ?_
  intro p0 e0 R0 s0_ m0_ args0 below0 meth0 c0_ A0 C hRc hRs hin hr
  refine vv_aload_n C 0 dJ0_init_81219_0 rfl rfl 1 rfl ?_
  refine vv_aload_n C 1 dJ0_init_81219_1 rfl rfl 2 rfl ?_
  refine vx_null C dJ0_init_81219_2 3 rfl ?_
  refine vv_callI C (As := [.ref q, .null]) (st := []) [0, 1, 2] [] [(s0, .inr (0, [.null, .int 0, .int 0, .int 0])), (q, .inr (1, [.ref v, .int 0, .int 0, .int (i32 n)])), (v, .inl (cB, m, .inl f))] [] rfl rfl (by decide) (by decide) (by decide) (c_strA ht4 s0 q v m n f hn hm hf) zw_752 zc_I_J0_init_db425 rfl (by decide) (by decide) rfl rfl (Nat.le_of_ble_eq_true rfl) (by rw [hRc]; first | omega | exact Nat.le_of_ble_eq_true rfl) (by rw [hRs]; first | omega | exact Nat.le_of_ble_eq_true rfl) dJ0_init_81219_3 (1) (300) rfl rfl 6 rfl (fun w => ?_)
  refine vv_ws (ws2 := [(s0, .inr (0, [.ref w, .int 0, .int 0, .int 0])), (q, .inr (1, [.ref v, .int 0, .int 0, .int (i32 n)])), (v, .inl (cB, m, .inl f)), (w, .inl (cB, n, .inl (va_cpy f (fun _ => 0) 0 0 n)))]) rfl ?_
  exact vx_vret C w rfl (by omega) (by omega) dJ0_init_81219_6 hr

set_option maxRecDepth 100000 in
set_option maxHeartbeats 4000000 in
theorem c_toS {l : Launch} {D : va_G} {tys : List (ClassId × FieldType)} {cB : ClassId} (ht4 : tys[4]? = some (cB, .byte)) {sa : SA} (q v m n : Nat) (f : Nat → Int32) (hn : n < m) (hm : m ≤ 300) (hf : sb_Fit f) : CEr l yJ4_toString_0e30d (wsm yJ4_toString_0e30d cJ4_toString_0e30d 1 (some (.object "java/lang/String"))) 6 2 304 D tys sa [(q, .inr (1, [.ref v, .int 0, .int 0, .int (i32 n)])), (v, .inl (cB, m, .inl f))] [.ref q] (fun u : Nat × Nat => u.1) (fun u : Nat × Nat => [(q, .inr (1, [.ref v, .int 0, .int 0, .int (i32 n)])), (v, .inl (cB, m, .inl f)), (u.1, .inr (0, [.ref u.2, .int 0, .int 0, .int 0])), (u.2, .inl (cB, n, .inl (va_cpy f (fun _ => 0) 0 0 n)))]) := by
  refine ce_of (fun A => QEr D (fun u : Nat × Nat => u.1) (fun u : Nat × Nat => [(q, .inr (1, [.ref v, .int 0, .int 0, .int (i32 n)])), (v, .inl (cB, m, .inl f)), (u.1, .inr (0, [.ref u.2, .int 0, .int 0, .int 0])), (u.2, .inl (cB, n, .inl (va_cpy f (fun _ => 0) 0 0 n)))]) A) RJ4 rfl (by decide +kernel) (Nat.le_of_ble_eq_true rfl) rfl ?_
  intro p0 e0 R0 s0_ m0_ args0 below0 meth0 c0_ A0 C hRc hRs hin hr
  refine vv_new C tyJ0 tyJ0_ok clw_J0 zw_747 zw_748 zw_22 [.null, .int 0, .int 0, .int 0] (by intro j hj; match j, hj with | 0, _ => rfl | 1, _ => rfl | 2, _ => rfl | 3, _ => rfl) (by rw [hRc]; omega) (by rw [hRs]; omega) dJ4_toString_0e30d_0 (0 + 1) (0 + 4) rfl rfl 3 rfl (fun q0 => ?_)
  refine vv_ws (ws2 := [(q, .inr (1, [.ref v, .int 0, .int 0, .int (i32 n)])), (v, .inl (cB, m, .inl f)), (q0, .inr (0, [.null, .int 0, .int 0, .int 0]))]) rfl ?_
  refine vv_dup C dJ4_toString_0e30d_3 rfl 4 rfl ?_
  refine vv_aload_n C 0 dJ4_toString_0e30d_4 rfl rfl 5 rfl ?_
  refine vv_callI C (As := [.ref q]) (st := [.ref q0]) [2, 0, 1] [] [(q0, .inr (0, [.null, .int 0, .int 0, .int 0])), (q, .inr (1, [.ref v, .int 0, .int 0, .int (i32 n)])), (v, .inl (cB, m, .inl f))] [] rfl rfl (by decide) (by decide) (by decide) (c_strB ht4 q0 q v m n f hn hm hf) zw_749 zc_I_J0_init_81219 rfl (by decide) (by decide) rfl rfl (Nat.le_of_ble_eq_true rfl) (by rw [hRc]; first | omega | exact Nat.le_of_ble_eq_true rfl) (by rw [hRs]; first | omega | exact Nat.le_of_ble_eq_true rfl) dJ4_toString_0e30d_5 (0 + 1 + 1) (0 + 4 + 300) rfl rfl 8 rfl (fun w => ?_)
  refine vv_ws (ws2 := [(q0, .inr (0, [.ref w, .int 0, .int 0, .int 0])), (q, .inr (1, [.ref v, .int 0, .int 0, .int (i32 n)])), (v, .inl (cB, m, .inl f)), (w, .inl (cB, n, .inl (va_cpy f (fun _ => 0) 0 0 n)))]) rfl ?_
  refine vv_world C [(q, .inr (1, [.ref v, .int 0, .int 0, .int (i32 n)])), (v, .inl (cB, m, .inl f)), (q0, .inr (0, [.ref w, .int 0, .int 0, .int 0])), (w, .inl (cB, n, .inl (va_cpy f (fun _ => 0) 0 0 n)))] [1, 2, 0, 3] (by decide) rfl ?_
  exact vx_aret C (q0, w) rfl rfl (by omega) (by omega) dJ4_toString_0e30d_8 hr (by first | exact Or.inl ⟨_, rfl⟩ | exact Or.inr ⟨_, rfl⟩)
