section LWL
variable {p : Program} {l : Launch} {e : Env} {s : State} {m : MethodId} {below : List Frame} {meth : Method} {c : Code} {b L : Nat} {xs : Nat → Int32} {D : va_G} {tys : List (ClassId × FieldType)} {sa : Nat → Nat} {cI cT cS : ClassId} {adI adM : Nat → Nat} {Q : State → Prop} {gI gM : Mem}
theorem lw_exit (C : LX p s m c b L xs D tys sa cI cT cS adI adM) (hL : L ≤ 3584) (fin : ∀ g1 g2 x, LW p l e s m below meth c b D cI cT cS adI adM 93 4262 Q g1 g2 1672 (lvL b adI adM x) ([])) {j : Nat} (hj : 7 * j ≤ L + 6) (hx : ¬ 7 * j + 7 ≤ L) : LW p l e s m below meth c b D cI cT cS adI adM 93 4262 Q gI gM 18 (lvL b adI adM (i32 (7 * j))) ([]) := by
  refine lw_iload_n C 0 dL_law_18 rfl rfl 19 rfl ?_
  refine lw_aload_n C 3 dL_law_19 rfl rfl 20 rfl ?_
  refine lw_slen C dL_law_20 21 rfl ?_
  refine lw_bipush C (7 : Int32) dL_law_21 (by decide) 23 rfl ?_
  refine lw_isub C dL_law_23 24 rfl ?_
  refine lw_gtT C 1672 dL_law_24 (by decide) ?_ (fin _ _ _)
  rcases Nat.lt_or_ge L 7 with h | h
  · have e1 : (i32 (7 * j)).toInt = (7 * j : Nat) := i32_toInt (by omega)
    rw [Int32.lt_iff_toInt_lt, e1]
    have e2 : (Int32.ofNat L - 7).toInt < 0 := by
      rcases (by omega : L = 0 ∨ L = 1 ∨ L = 2 ∨ L = 3 ∨ L = 4 ∨ L = 5 ∨ L = 6) with rfl | rfl | rfl | rfl | rfl | rfl | rfl <;> decide
    omega
  · have e1 : Int32.ofNat L - 7 = i32 (L - 7) := i32_sub h
    rw [e1]
    exact (i32_lt (by omega) (by omega)).mpr (by omega)
set_option maxRecDepth 100000 in
set_option maxHeartbeats 4000000 in
theorem lw_pick (C : LX p s m c b L xs D tys sa cI cT cS adI adM) {x w : Int32} (hR : R gI gM) (hin : ∀ v : Int32, v ∈ ([1, 2, 3, 4, 5, 6] : List Int32) → vp_in (x + v) L) (kk : ∀ g1 g2, R g1 g2 → LW p l e s m below meth c b D cI cT cS adI adM 93 4262 Q g1 g2 1666 (lvL b adI adM x) ([])) : LW p l e s m below meth c b D cI cT cS adI adM 93 4262 Q gI gM 33 (lvL b adI adM x) ([.int w]) := by
  by_cases c0 : w = 0
  · exact lw_tin (off := 183) C c0 216 dL_law_33 (by decide) (by decide) rfl (by decide) (lwc_0 C hR hin kk)
  by_cases c1 : w = 1
  · exact lw_tin (off := 206) C c1 239 dL_law_33 (by decide) (by decide) rfl (by decide) (lwc_1 C hR hin kk)
  by_cases c2 : w = 2
  · exact lw_tin (off := 249) C c2 282 dL_law_33 (by decide) (by decide) rfl (by decide) (lwc_2 C hR hin kk)
  by_cases c3 : w = 3
  · exact lw_tin (off := 282) C c3 315 dL_law_33 (by decide) (by decide) rfl (by decide) (lwc_3 C hR hin kk)
  by_cases c4 : w = 4
  · exact lw_tin (off := 315) C c4 348 dL_law_33 (by decide) (by decide) rfl (by decide) (lwc_4 C hR hin kk)
  by_cases c5 : w = 5
  · exact lw_tin (off := 390) C c5 423 dL_law_33 (by decide) (by decide) rfl (by decide) (lwc_5 C hR hin kk)
  by_cases c6 : w = 6
  · exact lw_tin (off := 403) C c6 436 dL_law_33 (by decide) (by decide) rfl (by decide) (lwc_6 C hR hin kk)
  by_cases c7 : w = 7
  · exact lw_tin (off := 426) C c7 459 dL_law_33 (by decide) (by decide) rfl (by decide) (lwc_7 C hR hin kk)
  by_cases c8 : w = 8
  · exact lw_tin (off := 469) C c8 502 dL_law_33 (by decide) (by decide) rfl (by decide) (lwc_8 C hR hin kk)
  by_cases c9 : w = 9
  · exact lw_tin (off := 502) C c9 535 dL_law_33 (by decide) (by decide) rfl (by decide) (lwc_9 C hR hin kk)
  by_cases c10 : w = 10
  · exact lw_tin (off := 535) C c10 568 dL_law_33 (by decide) (by decide) rfl (by decide) (lwc_10 C hR hin kk)
  by_cases c11 : w = 11
  · exact lw_tin (off := 568) C c11 601 dL_law_33 (by decide) (by decide) rfl (by decide) (lwc_11 C hR hin kk)
  by_cases c12 : w = 12
  · exact lw_tin (off := 611) C c12 644 dL_law_33 (by decide) (by decide) rfl (by decide) (lwc_12 C hR hin kk)
  by_cases c13 : w = 13
  · exact lw_tin (off := 644) C c13 677 dL_law_33 (by decide) (by decide) rfl (by decide) (lwc_13 C hR hin kk)
  by_cases c14 : w = 14
  · exact lw_tin (off := 667) C c14 700 dL_law_33 (by decide) (by decide) rfl (by decide) (lwc_14 C hR hin kk)
  by_cases c15 : w = 15
  · exact lw_tin (off := 680) C c15 713 dL_law_33 (by decide) (by decide) rfl (by decide) (lwc_15 C hR hin kk)
  by_cases c16 : w = 16
  · exact lw_tin (off := 703) C c16 736 dL_law_33 (by decide) (by decide) rfl (by decide) (lwc_16 C hR hin kk)
  by_cases c17 : w = 17
  · exact lw_tin (off := 736) C c17 769 dL_law_33 (by decide) (by decide) rfl (by decide) (lwc_17 C hR hin kk)
  by_cases c18 : w = 18
  · exact lw_tin (off := 749) C c18 782 dL_law_33 (by decide) (by decide) rfl (by decide) (lwc_18 C hR hin kk)
  by_cases c19 : w = 19
  · exact lw_tin (off := 792) C c19 825 dL_law_33 (by decide) (by decide) rfl (by decide) (lwc_19 C hR hin kk)
  by_cases c20 : w = 20
  · exact lw_tin (off := 825) C c20 858 dL_law_33 (by decide) (by decide) rfl (by decide) (lwc_20 C hR hin kk)
  by_cases c21 : w = 21
  · exact lw_tin (off := 858) C c21 891 dL_law_33 (by decide) (by decide) rfl (by decide) (lwc_21 C hR hin kk)
  by_cases c22 : w = 22
  · exact lw_tin (off := 891) C c22 924 dL_law_33 (by decide) (by decide) rfl (by decide) (lwc_22 C hR hin kk)
  by_cases c23 : w = 23
  · exact lw_tin (off := 934) C c23 967 dL_law_33 (by decide) (by decide) rfl (by decide) (lwc_23 C hR hin kk)
  by_cases c24 : w = 24
  · exact lw_tin (off := 957) C c24 990 dL_law_33 (by decide) (by decide) rfl (by decide) (lwc_24 C hR hin kk)
  by_cases c25 : w = 25
  · exact lw_tin (off := 991) C c25 1024 dL_law_33 (by decide) (by decide) rfl (by decide) (lwc_25 C hR hin kk)
  by_cases c26 : w = 26
  · exact lw_tin (off := 1024) C c26 1057 dL_law_33 (by decide) (by decide) rfl (by decide) (lwc_26 C hR hin kk)
  by_cases c27 : w = 27
  · exact lw_tin (off := 1057) C c27 1090 dL_law_33 (by decide) (by decide) rfl (by decide) (lwc_27 C hR hin kk)
  by_cases c28 : w = 28
  · exact lw_tin (off := 1100) C c28 1133 dL_law_33 (by decide) (by decide) rfl (by decide) (lwc_28 C hR hin kk)
  by_cases c29 : w = 29
  · exact lw_tin (off := 1123) C c29 1156 dL_law_33 (by decide) (by decide) rfl (by decide) (lwc_29 C hR hin kk)
  by_cases c30 : w = 30
  · exact lw_tin (off := 1156) C c30 1189 dL_law_33 (by decide) (by decide) rfl (by decide) (lwc_30 C hR hin kk)
  by_cases c31 : w = 31
  · exact lw_tin (off := 1199) C c31 1232 dL_law_33 (by decide) (by decide) rfl (by decide) (lwc_31 C hR hin kk)
  by_cases c32 : w = 32
  · exact lw_tin (off := 1242) C c32 1275 dL_law_33 (by decide) (by decide) rfl (by decide) (lwc_32 C hR hin kk)
  by_cases c33 : w = 33
  · exact lw_tin (off := 1285) C c33 1318 dL_law_33 (by decide) (by decide) rfl (by decide) (lwc_33 C hR hin kk)
  by_cases c34 : w = 34
  · exact lw_tin (off := 1318) C c34 1351 dL_law_33 (by decide) (by decide) rfl (by decide) (lwc_34 C hR hin kk)
  by_cases c35 : w = 35
  · exact lw_tin (off := 1372) C c35 1405 dL_law_33 (by decide) (by decide) rfl (by decide) (lwc_35 C hR hin kk)
  by_cases c36 : w = 36
  · exact lw_tin (off := 1385) C c36 1418 dL_law_33 (by decide) (by decide) rfl (by decide) (lwc_36 C hR hin kk)
  by_cases c37 : w = 37
  · exact lw_tin (off := 1398) C c37 1431 dL_law_33 (by decide) (by decide) rfl (by decide) (lwc_37 C hR hin kk)
  by_cases c38 : w = 38
  · exact lw_tin (off := 1441) C c38 1474 dL_law_33 (by decide) (by decide) rfl (by decide) (lwc_38 C hR hin kk)
  by_cases c39 : w = 39
  · exact lw_tin (off := 1484) C c39 1517 dL_law_33 (by decide) (by decide) rfl (by decide) (lwc_39 C hR hin kk)
  by_cases c40 : w = 40
  · exact lw_tin (off := 1547) C c40 1580 dL_law_33 (by decide) (by decide) rfl (by decide) (lwc_40 C hR hin kk)
  by_cases c41 : w = 41
  · exact lw_tin (off := 1600) C c41 1633 dL_law_33 (by decide) (by decide) rfl (by decide) (lwc_41 C hR hin kk)
  refine lw_tout C 1666 dL_law_33 ?_ (by decide) (kk _ _ hR)
  have n0 := sw_ne (z := 0) c0 rfl
  have n1 := sw_ne (z := 1) c1 rfl
  have n2 := sw_ne (z := 2) c2 rfl
  have n3 := sw_ne (z := 3) c3 rfl
  have n4 := sw_ne (z := 4) c4 rfl
  have n5 := sw_ne (z := 5) c5 rfl
  have n6 := sw_ne (z := 6) c6 rfl
  have n7 := sw_ne (z := 7) c7 rfl
  have n8 := sw_ne (z := 8) c8 rfl
  have n9 := sw_ne (z := 9) c9 rfl
  have n10 := sw_ne (z := 10) c10 rfl
  have n11 := sw_ne (z := 11) c11 rfl
  have n12 := sw_ne (z := 12) c12 rfl
  have n13 := sw_ne (z := 13) c13 rfl
  have n14 := sw_ne (z := 14) c14 rfl
  have n15 := sw_ne (z := 15) c15 rfl
  have n16 := sw_ne (z := 16) c16 rfl
  have n17 := sw_ne (z := 17) c17 rfl
  have n18 := sw_ne (z := 18) c18 rfl
  have n19 := sw_ne (z := 19) c19 rfl
  have n20 := sw_ne (z := 20) c20 rfl
  have n21 := sw_ne (z := 21) c21 rfl
  have n22 := sw_ne (z := 22) c22 rfl
  have n23 := sw_ne (z := 23) c23 rfl
  have n24 := sw_ne (z := 24) c24 rfl
  have n25 := sw_ne (z := 25) c25 rfl
  have n26 := sw_ne (z := 26) c26 rfl
  have n27 := sw_ne (z := 27) c27 rfl
  have n28 := sw_ne (z := 28) c28 rfl
  have n29 := sw_ne (z := 29) c29 rfl
  have n30 := sw_ne (z := 30) c30 rfl
  have n31 := sw_ne (z := 31) c31 rfl
  have n32 := sw_ne (z := 32) c32 rfl
  have n33 := sw_ne (z := 33) c33 rfl
  have n34 := sw_ne (z := 34) c34 rfl
  have n35 := sw_ne (z := 35) c35 rfl
  have n36 := sw_ne (z := 36) c36 rfl
  have n37 := sw_ne (z := 37) c37 rfl
  have n38 := sw_ne (z := 38) c38 rfl
  have n39 := sw_ne (z := 39) c39 rfl
  have n40 := sw_ne (z := 40) c40 rfl
  have n41 := sw_ne (z := 41) c41 rfl
  omega
theorem lw_loop (C : LX p s m c b L xs D tys sa cI cT cS adI adM) (hL : L ≤ 3584) (fin : ∀ g1 g2 x, LW p l e s m below meth c b D cI cT cS adI adM 93 4262 Q g1 g2 1672 (lvL b adI adM x) ([])) : ∀ (n j : Nat) (gI gM : Mem), L < 7 * (j + n) → 7 * j ≤ L + 6 → R gI gM → LW p l e s m below meth c b D cI cT cS adI adM 93 4262 Q gI gM 18 (lvL b adI adM (i32 (7 * j))) ([]) := by
  intro n
  induction n with
  | zero =>
    intro j gI gM h1 h2 hR
    exact lw_exit C hL fin h2 (by omega)
  | succ n ih =>
    intro j gI gM h1 h2 hR
    by_cases hx : 7 * j + 7 ≤ L
    · refine lw_iload_n C 0 dL_law_18 rfl rfl 19 rfl ?_
      refine lw_aload_n C 3 dL_law_19 rfl rfl 20 rfl ?_
      refine lw_slen C dL_law_20 21 rfl ?_
      refine lw_bipush C (7 : Int32) dL_law_21 (by decide) 23 rfl ?_
      refine lw_isub C dL_law_23 24 rfl ?_
      have e1 : Int32.ofNat L - 7 = i32 (L - 7) := i32_sub (a := L) (b := 7) (by omega)
      refine lw_gtF C 1672 dL_law_24 (by decide) (by rw [e1, i32_lt (by omega) (by omega)]; omega) 27 rfl ?_
      refine lw_aload_n C 3 dL_law_27 rfl rfl 28 rfl ?_
      refine lw_iload_n C 0 dL_law_28 rfl rfl 29 rfl ?_
      have vp : ∀ k, k < L → vp_in (i32 k) L := fun k hk => vp_d (by rw [i32_lit, i32_lt (by omega) (by omega)]; omega) (by rw [i32_tn (by omega)]; exact hk)
      refine lw_sld C (vp _ (by omega)) dL_law_29 30 rfl ?_
      refine lw_bipush C (63 : Int32) dL_law_30 (by decide) 32 rfl ?_
      refine lw_iand C dL_law_32 33 rfl ?_
      refine lw_pick C hR (fun v hv => ?_) (fun g1 g2 hR2 => ?_)
      · simp only [List.mem_cons, List.not_mem_nil, or_false] at hv
        rcases hv with rfl | rfl | rfl | rfl | rfl | rfl <;> rw [i32_lit, i32_add] <;> exact vp _ (by omega)
      · refine lw_iinc C 0 (i32 (7 * (j + 1))) (lvL b adI adM (i32 (7 * (j + 1)))) dL_law_1666 rfl ?_ (by decide) rfl 1669 rfl ?_
        · show i32 (7 * j) + i32 7 = _
          rw [i32_add]; rfl
        · refine lw_goto C 18 dL_law_1669 (by decide) ?_
          exact ih (j + 1) g1 g2 (by omega) (by omega) hR2
    · exact lw_exit C hL fin h2 hx
end LWL
