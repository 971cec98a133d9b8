theorem wc_799 : Cond.methodLink RX6 1 objectInit ∈ TT := TT_of (i := 799) (by decide +kernel) rfl
theorem wc_848 : Cond.fieldLink RX6 7 (TX6 1).1 (TX6 1).2.1 (TX6 1).2.2.1 ∈ TT := TT_of (i := 848) (by decide +kernel) rfl
theorem wc_849 : Cond.fieldLink RX6 13 (TX6 2).1 (TX6 2).2.1 (TX6 2).2.2.1 ∈ TT := TT_of (i := 849) (by decide +kernel) rfl
theorem wc_850 : Cond.fieldLink RX6 16 (TX6 3).1 (TX6 3).2.1 (TX6 3).2.2.1 ∈ TT := TT_of (i := 850) (by decide +kernel) rfl
theorem wc_851 : Cond.fieldLink RX6 19 (TX6 4).1 (TX6 4).2.1 (TX6 4).2.2.1 ∈ TT := TT_of (i := 851) (by decide +kernel) rfl
theorem wc_852 : Cond.fieldLink RX6 22 (TX6 5).1 (TX6 5).2.1 (TX6 5).2.2.1 ∈ TT := TT_of (i := 852) (by decide +kernel) rfl
theorem wc_854 : Cond.fieldLink RX6 25 (TX6 7).1 (TX6 7).2.1 (TX6 7).2.2.1 ∈ TT := TT_of (i := 854) (by decide +kernel) rfl
theorem wc_856 : Cond.fieldLink RX6 28 (TX6 9).1 (TX6 9).2.1 (TX6 9).2.2.1 ∈ TT := TT_of (i := 856) (by decide +kernel) rfl
theorem wc_857 : Cond.fieldLink RX6 31 (TX6 10).1 (TX6 10).2.1 (TX6 10).2.2.1 ∈ TT := TT_of (i := 857) (by decide +kernel) rfl
theorem wc_861 : Cond.fieldLink RX6 34 (TX6 14).1 (TX6 14).2.1 (TX6 14).2.2.1 ∈ TT := TT_of (i := 861) (by decide +kernel) rfl
theorem wc_862 : Cond.fieldLink RX6 37 (TX6 15).1 (TX6 15).2.1 (TX6 15).2.2.1 ∈ TT := TT_of (i := 862) (by decide +kernel) rfl
theorem wc_863 : Cond.fieldLink RX6 40 (TX6 16).1 (TX6 16).2.1 (TX6 16).2.2.1 ∈ TT := TT_of (i := 863) (by decide +kernel) rfl
theorem wc_864 : Cond.fieldLink RX6 43 (TX6 17).1 (TX6 17).2.1 (TX6 17).2.2.1 ∈ TT := TT_of (i := 864) (by decide +kernel) rfl
theorem wc_865 : Cond.fieldLink RX6 46 (TX6 18).1 (TX6 18).2.1 (TX6 18).2.2.1 ∈ TT := TT_of (i := 865) (by decide +kernel) rfl
theorem wc_866 : Cond.fieldLink RX6 49 (TX6 19).1 (TX6 19).2.1 (TX6 19).2.2.1 ∈ TT := TT_of (i := 866) (by decide +kernel) rfl
theorem wc_871 : Cond.fieldLink RX6 52 (TX6 24).1 (TX6 24).2.1 (TX6 24).2.2.1 ∈ TT := TT_of (i := 871) (by decide +kernel) rfl
theorem wc_872 : Cond.fieldLink RX6 55 (TX6 25).1 (TX6 25).2.1 (TX6 25).2.2.1 ∈ TT := TT_of (i := 872) (by decide +kernel) rfl
theorem wc_876 : Cond.fieldLink RX6 58 (TX6 29).1 (TX6 29).2.1 (TX6 29).2.2.1 ∈ TT := TT_of (i := 876) (by decide +kernel) rfl
theorem wc_877 : Cond.fieldLink RX6 61 (TX6 30).1 (TX6 30).2.1 (TX6 30).2.2.1 ∈ TT := TT_of (i := 877) (by decide +kernel) rfl
theorem wc_878 : Cond.fieldLink RX6 64 (TX6 31).1 (TX6 31).2.1 (TX6 31).2.2.1 ∈ TT := TT_of (i := 878) (by decide +kernel) rfl
theorem wc_855 : Cond.fieldLink RX6 67 (TX6 8).1 (TX6 8).2.1 (TX6 8).2.2.1 ∈ TT := TT_of (i := 855) (by decide +kernel) rfl
theorem wc_800 : Cond.methodLink RX6 71 yX6_text ∈ TT := TT_of (i := 800) (by decide +kernel) rfl
theorem ap_get (X : va_W) (c : Nat × va_E) : (X ++ [c])[X.length]? = some c := by rw [List.getElem?_append_right (Nat.le_refl _), Nat.sub_self]; rfl
theorem ap_set (X : va_W) (c d : Nat × va_E) : (X ++ [c]).set X.length d = X ++ [d] := by rw [List.set_append_right _ _ (Nat.le_refl _), Nat.sub_self]; rfl
theorem st_self {ws : va_W} {k : Nat} {c : Nat × va_E} (h : ws[k]? = some c) : ws.set k c = ws := by
  apply List.ext_getElem?
  intro i
  by_cases hi : k = i
  · subst hi
    rw [List.getElem?_set_self (List.getElem?_eq_some_iff.mp h).1, h]
  · rw [List.getElem?_set_ne hi]
theorem st_ne {ws : va_W} {k j : Nat} {c : Nat × va_E} (h : k ≠ j) : (ws.set k c)[j]? = ws[j]? := List.getElem?_set_ne h
theorem st_get {ws : va_W} {k : Nat} {c d : Nat × va_E} (h : ws[k]? = some c) : (ws.set k d)[k]? = some d := List.getElem?_set_self (List.getElem?_eq_some_iff.mp h).1
def mA33 : List Int32 := [0, 20, 0, 0, 1, 20, 3, 0, 2, 20, 6, 0, 3, 20, 9, 0, 4, 20, 12, 0, 5, 20, 15, 0, 0, 20, 18, 0, 1, 20, 21, 0, 2, 20, 24, 0, 3, 20, 27, 0, 4, 20, 30, 0, 5, 20, 33, 0]
set_option maxRecDepth 100000 in
set_option maxHeartbeats 4000000 in
theorem seg_33 {p : Program} {l : Launch} {e : Env} {R : Room} {s : State} {m : MethodId} {args : Array Value} {below : List Frame} {meth : Method} {c : Code} {D : va_G} {tys : List (ClassId × FieldType)} {A : Nat → Prop} {sa : Nat → Nat} {Q : State → Prop} {cells slots rk : Nat} (C : CY p R s m args meth c cX6_init 2 RX6 rk D tys A sa) {cI : ClassId} (ht0 : tys[0]? = some (cI, .int)) (X : va_W) (q h0 : Nat) (k : VV p l e R s m args below meth c 2 D A cells slots Q (X ++ [(q, .inl (cI, 48, .inl (pl mA33)))]) 289 [(0, .ref h0)] [.ref q, .ref h0]) : VV p l e R s m args below meth c 2 D A cells slots Q (X ++ [(q, .inl (cI, 48, .inl (pl [])))]) 33 [(0, .ref h0)] [.ref q, .ref h0] := by
  refine vv_dup C dX6_init_33 rfl 34 rfl ?_
  refine vv_iconst C (0 : Int32) dX6_init_34 (by decide) 35 rfl ?_
  refine vv_iconst C (0 : Int32) dX6_init_35 (by decide) 36 rfl ?_
  refine vv_iastI C X.length ht0 (ap_get _ _) (vp_d (by decide) (by decide)) (by decide) (X ++ [(q, .inl (cI, 48, .inl (pl [0])))]) (ap_set _ _ _) dX6_init_36 37 rfl ?_
  refine vv_dup C dX6_init_37 rfl 38 rfl ?_
  refine vv_iconst C (1 : Int32) dX6_init_38 (by decide) 39 rfl ?_
  refine vv_bipush C (20 : Int32) dX6_init_39 (by decide) 41 rfl ?_
  refine vv_iastI C X.length ht0 (ap_get _ _) (vp_d (by decide) (by decide)) (by decide) (X ++ [(q, .inl (cI, 48, .inl (pl [0, 20])))]) (ap_set _ _ _) dX6_init_41 42 rfl ?_
  refine vv_dup C dX6_init_42 rfl 43 rfl ?_
  refine vv_iconst C (2 : Int32) dX6_init_43 (by decide) 44 rfl ?_
  refine vv_iconst C (0 : Int32) dX6_init_44 (by decide) 45 rfl ?_
  refine vv_iastI C X.length ht0 (ap_get _ _) (vp_d (by decide) (by decide)) (by decide) (X ++ [(q, .inl (cI, 48, .inl (pl [0, 20, 0])))]) (ap_set _ _ _) dX6_init_45 46 rfl ?_
  refine vv_dup C dX6_init_46 rfl 47 rfl ?_
  refine vv_iconst C (3 : Int32) dX6_init_47 (by decide) 48 rfl ?_
  refine vv_iconst C (0 : Int32) dX6_init_48 (by decide) 49 rfl ?_
  refine vv_iastI C X.length ht0 (ap_get _ _) (vp_d (by decide) (by decide)) (by decide) (X ++ [(q, .inl (cI, 48, .inl (pl [0, 20, 0, 0])))]) (ap_set _ _ _) dX6_init_49 50 rfl ?_
  refine vv_dup C dX6_init_50 rfl 51 rfl ?_
  refine vv_iconst C (4 : Int32) dX6_init_51 (by decide) 52 rfl ?_
  refine vv_iconst C (1 : Int32) dX6_init_52 (by decide) 53 rfl ?_
  refine vv_iastI C X.length ht0 (ap_get _ _) (vp_d (by decide) (by decide)) (by decide) (X ++ [(q, .inl (cI, 48, .inl (pl [0, 20, 0, 0, 1])))]) (ap_set _ _ _) dX6_init_53 54 rfl ?_
  refine vv_dup C dX6_init_54 rfl 55 rfl ?_
  refine vv_iconst C (5 : Int32) dX6_init_55 (by decide) 56 rfl ?_
  refine vv_bipush C (20 : Int32) dX6_init_56 (by decide) 58 rfl ?_
  refine vv_iastI C X.length ht0 (ap_get _ _) (vp_d (by decide) (by decide)) (by decide) (X ++ [(q, .inl (cI, 48, .inl (pl [0, 20, 0, 0, 1, 20])))]) (ap_set _ _ _) dX6_init_58 59 rfl ?_
  refine vv_dup C dX6_init_59 rfl 60 rfl ?_
  refine vv_bipush C (6 : Int32) dX6_init_60 (by decide) 62 rfl ?_
  refine vv_iconst C (3 : Int32) dX6_init_62 (by decide) 63 rfl ?_
  refine vv_iastI C X.length ht0 (ap_get _ _) (vp_d (by decide) (by decide)) (by decide) (X ++ [(q, .inl (cI, 48, .inl (pl [0, 20, 0, 0, 1, 20, 3])))]) (ap_set _ _ _) dX6_init_63 64 rfl ?_
  refine vv_dup C dX6_init_64 rfl 65 rfl ?_
  refine vv_bipush C (7 : Int32) dX6_init_65 (by decide) 67 rfl ?_
  refine vv_iconst C (0 : Int32) dX6_init_67 (by decide) 68 rfl ?_
  refine vv_iastI C X.length ht0 (ap_get _ _) (vp_d (by decide) (by decide)) (by decide) (X ++ [(q, .inl (cI, 48, .inl (pl [0, 20, 0, 0, 1, 20, 3, 0])))]) (ap_set _ _ _) dX6_init_68 69 rfl ?_
  refine vv_dup C dX6_init_69 rfl 70 rfl ?_
  refine vv_bipush C (8 : Int32) dX6_init_70 (by decide) 72 rfl ?_
  refine vv_iconst C (2 : Int32) dX6_init_72 (by decide) 73 rfl ?_
  refine vv_iastI C X.length ht0 (ap_get _ _) (vp_d (by decide) (by decide)) (by decide) (X ++ [(q, .inl (cI, 48, .inl (pl [0, 20, 0, 0, 1, 20, 3, 0, 2])))]) (ap_set _ _ _) dX6_init_73 74 rfl ?_
  refine vv_dup C dX6_init_74 rfl 75 rfl ?_
  refine vv_bipush C (9 : Int32) dX6_init_75 (by decide) 77 rfl ?_
  refine vv_bipush C (20 : Int32) dX6_init_77 (by decide) 79 rfl ?_
  refine vv_iastI C X.length ht0 (ap_get _ _) (vp_d (by decide) (by decide)) (by decide) (X ++ [(q, .inl (cI, 48, .inl (pl [0, 20, 0, 0, 1, 20, 3, 0, 2, 20])))]) (ap_set _ _ _) dX6_init_79 80 rfl ?_
  refine vv_dup C dX6_init_80 rfl 81 rfl ?_
  refine vv_bipush C (10 : Int32) dX6_init_81 (by decide) 83 rfl ?_
  refine vv_bipush C (6 : Int32) dX6_init_83 (by decide) 85 rfl ?_
  refine vv_iastI C X.length ht0 (ap_get _ _) (vp_d (by decide) (by decide)) (by decide) (X ++ [(q, .inl (cI, 48, .inl (pl [0, 20, 0, 0, 1, 20, 3, 0, 2, 20, 6])))]) (ap_set _ _ _) dX6_init_85 86 rfl ?_
  refine vv_dup C dX6_init_86 rfl 87 rfl ?_
  refine vv_bipush C (11 : Int32) dX6_init_87 (by decide) 89 rfl ?_
  refine vv_iconst C (0 : Int32) dX6_init_89 (by decide) 90 rfl ?_
  refine vv_iastI C X.length ht0 (ap_get _ _) (vp_d (by decide) (by decide)) (by decide) (X ++ [(q, .inl (cI, 48, .inl (pl [0, 20, 0, 0, 1, 20, 3, 0, 2, 20, 6, 0])))]) (ap_set _ _ _) dX6_init_90 91 rfl ?_
  refine vv_dup C dX6_init_91 rfl 92 rfl ?_
  refine vv_bipush C (12 : Int32) dX6_init_92 (by decide) 94 rfl ?_
  refine vv_iconst C (3 : Int32) dX6_init_94 (by decide) 95 rfl ?_
  refine vv_iastI C X.length ht0 (ap_get _ _) (vp_d (by decide) (by decide)) (by decide) (X ++ [(q, .inl (cI, 48, .inl (pl [0, 20, 0, 0, 1, 20, 3, 0, 2, 20, 6, 0, 3])))]) (ap_set _ _ _) dX6_init_95 96 rfl ?_
  refine vv_dup C dX6_init_96 rfl 97 rfl ?_
  refine vv_bipush C (13 : Int32) dX6_init_97 (by decide) 99 rfl ?_
  refine vv_bipush C (20 : Int32) dX6_init_99 (by decide) 101 rfl ?_
  refine vv_iastI C X.length ht0 (ap_get _ _) (vp_d (by decide) (by decide)) (by decide) (X ++ [(q, .inl (cI, 48, .inl (pl [0, 20, 0, 0, 1, 20, 3, 0, 2, 20, 6, 0, 3, 20])))]) (ap_set _ _ _) dX6_init_101 102 rfl ?_
  refine vv_dup C dX6_init_102 rfl 103 rfl ?_
  refine vv_bipush C (14 : Int32) dX6_init_103 (by decide) 105 rfl ?_
  refine vv_bipush C (9 : Int32) dX6_init_105 (by decide) 107 rfl ?_
  refine vv_iastI C X.length ht0 (ap_get _ _) (vp_d (by decide) (by decide)) (by decide) (X ++ [(q, .inl (cI, 48, .inl (pl [0, 20, 0, 0, 1, 20, 3, 0, 2, 20, 6, 0, 3, 20, 9])))]) (ap_set _ _ _) dX6_init_107 108 rfl ?_
  refine vv_dup C dX6_init_108 rfl 109 rfl ?_
  refine vv_bipush C (15 : Int32) dX6_init_109 (by decide) 111 rfl ?_
  refine vv_iconst C (0 : Int32) dX6_init_111 (by decide) 112 rfl ?_
  refine vv_iastI C X.length ht0 (ap_get _ _) (vp_d (by decide) (by decide)) (by decide) (X ++ [(q, .inl (cI, 48, .inl (pl [0, 20, 0, 0, 1, 20, 3, 0, 2, 20, 6, 0, 3, 20, 9, 0])))]) (ap_set _ _ _) dX6_init_112 113 rfl ?_
  refine vv_dup C dX6_init_113 rfl 114 rfl ?_
  refine vv_bipush C (16 : Int32) dX6_init_114 (by decide) 116 rfl ?_
  refine vv_iconst C (4 : Int32) dX6_init_116 (by decide) 117 rfl ?_
  refine vv_iastI C X.length ht0 (ap_get _ _) (vp_d (by decide) (by decide)) (by decide) (X ++ [(q, .inl (cI, 48, .inl (pl [0, 20, 0, 0, 1, 20, 3, 0, 2, 20, 6, 0, 3, 20, 9, 0, 4])))]) (ap_set _ _ _) dX6_init_117 118 rfl ?_
  refine vv_dup C dX6_init_118 rfl 119 rfl ?_
  refine vv_bipush C (17 : Int32) dX6_init_119 (by decide) 121 rfl ?_
  refine vv_bipush C (20 : Int32) dX6_init_121 (by decide) 123 rfl ?_
  refine vv_iastI C X.length ht0 (ap_get _ _) (vp_d (by decide) (by decide)) (by decide) (X ++ [(q, .inl (cI, 48, .inl (pl [0, 20, 0, 0, 1, 20, 3, 0, 2, 20, 6, 0, 3, 20, 9, 0, 4, 20])))]) (ap_set _ _ _) dX6_init_123 124 rfl ?_
  refine vv_dup C dX6_init_124 rfl 125 rfl ?_
  refine vv_bipush C (18 : Int32) dX6_init_125 (by decide) 127 rfl ?_
  refine vv_bipush C (12 : Int32) dX6_init_127 (by decide) 129 rfl ?_
  refine vv_iastI C X.length ht0 (ap_get _ _) (vp_d (by decide) (by decide)) (by decide) (X ++ [(q, .inl (cI, 48, .inl (pl [0, 20, 0, 0, 1, 20, 3, 0, 2, 20, 6, 0, 3, 20, 9, 0, 4, 20, 12])))]) (ap_set _ _ _) dX6_init_129 130 rfl ?_
  refine vv_dup C dX6_init_130 rfl 131 rfl ?_
  refine vv_bipush C (19 : Int32) dX6_init_131 (by decide) 133 rfl ?_
  refine vv_iconst C (0 : Int32) dX6_init_133 (by decide) 134 rfl ?_
  refine vv_iastI C X.length ht0 (ap_get _ _) (vp_d (by decide) (by decide)) (by decide) (X ++ [(q, .inl (cI, 48, .inl (pl [0, 20, 0, 0, 1, 20, 3, 0, 2, 20, 6, 0, 3, 20, 9, 0, 4, 20, 12, 0])))]) (ap_set _ _ _) dX6_init_134 135 rfl ?_
  refine vv_dup C dX6_init_135 rfl 136 rfl ?_
  refine vv_bipush C (20 : Int32) dX6_init_136 (by decide) 138 rfl ?_
  refine vv_iconst C (5 : Int32) dX6_init_138 (by decide) 139 rfl ?_
  refine vv_iastI C X.length ht0 (ap_get _ _) (vp_d (by decide) (by decide)) (by decide) (X ++ [(q, .inl (cI, 48, .inl (pl [0, 20, 0, 0, 1, 20, 3, 0, 2, 20, 6, 0, 3, 20, 9, 0, 4, 20, 12, 0, 5])))]) (ap_set _ _ _) dX6_init_139 140 rfl ?_
  refine vv_dup C dX6_init_140 rfl 141 rfl ?_
  refine vv_bipush C (21 : Int32) dX6_init_141 (by decide) 143 rfl ?_
  refine vv_bipush C (20 : Int32) dX6_init_143 (by decide) 145 rfl ?_
  refine vv_iastI C X.length ht0 (ap_get _ _) (vp_d (by decide) (by decide)) (by decide) (X ++ [(q, .inl (cI, 48, .inl (pl [0, 20, 0, 0, 1, 20, 3, 0, 2, 20, 6, 0, 3, 20, 9, 0, 4, 20, 12, 0, 5, 20])))]) (ap_set _ _ _) dX6_init_145 146 rfl ?_
  refine vv_dup C dX6_init_146 rfl 147 rfl ?_
  refine vv_bipush C (22 : Int32) dX6_init_147 (by decide) 149 rfl ?_
  refine vv_bipush C (15 : Int32) dX6_init_149 (by decide) 151 rfl ?_
  refine vv_iastI C X.length ht0 (ap_get _ _) (vp_d (by decide) (by decide)) (by decide) (X ++ [(q, .inl (cI, 48, .inl (pl [0, 20, 0, 0, 1, 20, 3, 0, 2, 20, 6, 0, 3, 20, 9, 0, 4, 20, 12, 0, 5, 20, 15])))]) (ap_set _ _ _) dX6_init_151 152 rfl ?_
  refine vv_dup C dX6_init_152 rfl 153 rfl ?_
  refine vv_bipush C (23 : Int32) dX6_init_153 (by decide) 155 rfl ?_
  refine vv_iconst C (0 : Int32) dX6_init_155 (by decide) 156 rfl ?_
  refine vv_iastI C X.length ht0 (ap_get _ _) (vp_d (by decide) (by decide)) (by decide) (X ++ [(q, .inl (cI, 48, .inl (pl [0, 20, 0, 0, 1, 20, 3, 0, 2, 20, 6, 0, 3, 20, 9, 0, 4, 20, 12, 0, 5, 20, 15, 0])))]) (ap_set _ _ _) dX6_init_156 157 rfl ?_
  refine vv_dup C dX6_init_157 rfl 158 rfl ?_
  refine vv_bipush C (24 : Int32) dX6_init_158 (by decide) 160 rfl ?_
  refine vv_iconst C (0 : Int32) dX6_init_160 (by decide) 161 rfl ?_
  refine vv_iastI C X.length ht0 (ap_get _ _) (vp_d (by decide) (by decide)) (by decide) (X ++ [(q, .inl (cI, 48, .inl (pl [0, 20, 0, 0, 1, 20, 3, 0, 2, 20, 6, 0, 3, 20, 9, 0, 4, 20, 12, 0, 5, 20, 15, 0, 0])))]) (ap_set _ _ _) dX6_init_161 162 rfl ?_
  refine vv_dup C dX6_init_162 rfl 163 rfl ?_
  refine vv_bipush C (25 : Int32) dX6_init_163 (by decide) 165 rfl ?_
  refine vv_bipush C (20 : Int32) dX6_init_165 (by decide) 167 rfl ?_
  refine vv_iastI C X.length ht0 (ap_get _ _) (vp_d (by decide) (by decide)) (by decide) (X ++ [(q, .inl (cI, 48, .inl (pl [0, 20, 0, 0, 1, 20, 3, 0, 2, 20, 6, 0, 3, 20, 9, 0, 4, 20, 12, 0, 5, 20, 15, 0, 0, 20])))]) (ap_set _ _ _) dX6_init_167 168 rfl ?_
  refine vv_dup C dX6_init_168 rfl 169 rfl ?_
  refine vv_bipush C (26 : Int32) dX6_init_169 (by decide) 171 rfl ?_
  refine vv_bipush C (18 : Int32) dX6_init_171 (by decide) 173 rfl ?_
  refine vv_iastI C X.length ht0 (ap_get _ _) (vp_d (by decide) (by decide)) (by decide) (X ++ [(q, .inl (cI, 48, .inl (pl [0, 20, 0, 0, 1, 20, 3, 0, 2, 20, 6, 0, 3, 20, 9, 0, 4, 20, 12, 0, 5, 20, 15, 0, 0, 20, 18])))]) (ap_set _ _ _) dX6_init_173 174 rfl ?_
  refine vv_dup C dX6_init_174 rfl 175 rfl ?_
  refine vv_bipush C (27 : Int32) dX6_init_175 (by decide) 177 rfl ?_
  refine vv_iconst C (0 : Int32) dX6_init_177 (by decide) 178 rfl ?_
  refine vv_iastI C X.length ht0 (ap_get _ _) (vp_d (by decide) (by decide)) (by decide) (X ++ [(q, .inl (cI, 48, .inl (pl [0, 20, 0, 0, 1, 20, 3, 0, 2, 20, 6, 0, 3, 20, 9, 0, 4, 20, 12, 0, 5, 20, 15, 0, 0, 20, 18, 0])))]) (ap_set _ _ _) dX6_init_178 179 rfl ?_
  refine vv_dup C dX6_init_179 rfl 180 rfl ?_
  refine vv_bipush C (28 : Int32) dX6_init_180 (by decide) 182 rfl ?_
  refine vv_iconst C (1 : Int32) dX6_init_182 (by decide) 183 rfl ?_
  refine vv_iastI C X.length ht0 (ap_get _ _) (vp_d (by decide) (by decide)) (by decide) (X ++ [(q, .inl (cI, 48, .inl (pl [0, 20, 0, 0, 1, 20, 3, 0, 2, 20, 6, 0, 3, 20, 9, 0, 4, 20, 12, 0, 5, 20, 15, 0, 0, 20, 18, 0, 1])))]) (ap_set _ _ _) dX6_init_183 184 rfl ?_
  refine vv_dup C dX6_init_184 rfl 185 rfl ?_
  refine vv_bipush C (29 : Int32) dX6_init_185 (by decide) 187 rfl ?_
  refine vv_bipush C (20 : Int32) dX6_init_187 (by decide) 189 rfl ?_
  refine vv_iastI C X.length ht0 (ap_get _ _) (vp_d (by decide) (by decide)) (by decide) (X ++ [(q, .inl (cI, 48, .inl (pl [0, 20, 0, 0, 1, 20, 3, 0, 2, 20, 6, 0, 3, 20, 9, 0, 4, 20, 12, 0, 5, 20, 15, 0, 0, 20, 18, 0, 1, 20])))]) (ap_set _ _ _) dX6_init_189 190 rfl ?_
  refine vv_dup C dX6_init_190 rfl 191 rfl ?_
  refine vv_bipush C (30 : Int32) dX6_init_191 (by decide) 193 rfl ?_
  refine vv_bipush C (21 : Int32) dX6_init_193 (by decide) 195 rfl ?_
  refine vv_iastI C X.length ht0 (ap_get _ _) (vp_d (by decide) (by decide)) (by decide) (X ++ [(q, .inl (cI, 48, .inl (pl [0, 20, 0, 0, 1, 20, 3, 0, 2, 20, 6, 0, 3, 20, 9, 0, 4, 20, 12, 0, 5, 20, 15, 0, 0, 20, 18, 0, 1, 20, 21])))]) (ap_set _ _ _) dX6_init_195 196 rfl ?_
  refine vv_dup C dX6_init_196 rfl 197 rfl ?_
  refine vv_bipush C (31 : Int32) dX6_init_197 (by decide) 199 rfl ?_
  refine vv_iconst C (0 : Int32) dX6_init_199 (by decide) 200 rfl ?_
  refine vv_iastI C X.length ht0 (ap_get _ _) (vp_d (by decide) (by decide)) (by decide) (X ++ [(q, .inl (cI, 48, .inl (pl [0, 20, 0, 0, 1, 20, 3, 0, 2, 20, 6, 0, 3, 20, 9, 0, 4, 20, 12, 0, 5, 20, 15, 0, 0, 20, 18, 0, 1, 20, 21, 0])))]) (ap_set _ _ _) dX6_init_200 201 rfl ?_
  refine vv_dup C dX6_init_201 rfl 202 rfl ?_
  refine vv_bipush C (32 : Int32) dX6_init_202 (by decide) 204 rfl ?_
  refine vv_iconst C (2 : Int32) dX6_init_204 (by decide) 205 rfl ?_
  refine vv_iastI C X.length ht0 (ap_get _ _) (vp_d (by decide) (by decide)) (by decide) (X ++ [(q, .inl (cI, 48, .inl (pl [0, 20, 0, 0, 1, 20, 3, 0, 2, 20, 6, 0, 3, 20, 9, 0, 4, 20, 12, 0, 5, 20, 15, 0, 0, 20, 18, 0, 1, 20, 21, 0, 2])))]) (ap_set _ _ _) dX6_init_205 206 rfl ?_
  refine vv_dup C dX6_init_206 rfl 207 rfl ?_
  refine vv_bipush C (33 : Int32) dX6_init_207 (by decide) 209 rfl ?_
  refine vv_bipush C (20 : Int32) dX6_init_209 (by decide) 211 rfl ?_
  refine vv_iastI C X.length ht0 (ap_get _ _) (vp_d (by decide) (by decide)) (by decide) (X ++ [(q, .inl (cI, 48, .inl (pl [0, 20, 0, 0, 1, 20, 3, 0, 2, 20, 6, 0, 3, 20, 9, 0, 4, 20, 12, 0, 5, 20, 15, 0, 0, 20, 18, 0, 1, 20, 21, 0, 2, 20])))]) (ap_set _ _ _) dX6_init_211 212 rfl ?_
  refine vv_dup C dX6_init_212 rfl 213 rfl ?_
  refine vv_bipush C (34 : Int32) dX6_init_213 (by decide) 215 rfl ?_
  refine vv_bipush C (24 : Int32) dX6_init_215 (by decide) 217 rfl ?_
  refine vv_iastI C X.length ht0 (ap_get _ _) (vp_d (by decide) (by decide)) (by decide) (X ++ [(q, .inl (cI, 48, .inl (pl [0, 20, 0, 0, 1, 20, 3, 0, 2, 20, 6, 0, 3, 20, 9, 0, 4, 20, 12, 0, 5, 20, 15, 0, 0, 20, 18, 0, 1, 20, 21, 0, 2, 20, 24])))]) (ap_set _ _ _) dX6_init_217 218 rfl ?_
  refine vv_dup C dX6_init_218 rfl 219 rfl ?_
  refine vv_bipush C (35 : Int32) dX6_init_219 (by decide) 221 rfl ?_
  refine vv_iconst C (0 : Int32) dX6_init_221 (by decide) 222 rfl ?_
  refine vv_iastI C X.length ht0 (ap_get _ _) (vp_d (by decide) (by decide)) (by decide) (X ++ [(q, .inl (cI, 48, .inl (pl [0, 20, 0, 0, 1, 20, 3, 0, 2, 20, 6, 0, 3, 20, 9, 0, 4, 20, 12, 0, 5, 20, 15, 0, 0, 20, 18, 0, 1, 20, 21, 0, 2, 20, 24, 0])))]) (ap_set _ _ _) dX6_init_222 223 rfl ?_
  refine vv_dup C dX6_init_223 rfl 224 rfl ?_
  refine vv_bipush C (36 : Int32) dX6_init_224 (by decide) 226 rfl ?_
  refine vv_iconst C (3 : Int32) dX6_init_226 (by decide) 227 rfl ?_
  refine vv_iastI C X.length ht0 (ap_get _ _) (vp_d (by decide) (by decide)) (by decide) (X ++ [(q, .inl (cI, 48, .inl (pl [0, 20, 0, 0, 1, 20, 3, 0, 2, 20, 6, 0, 3, 20, 9, 0, 4, 20, 12, 0, 5, 20, 15, 0, 0, 20, 18, 0, 1, 20, 21, 0, 2, 20, 24, 0, 3])))]) (ap_set _ _ _) dX6_init_227 228 rfl ?_
  refine vv_dup C dX6_init_228 rfl 229 rfl ?_
  refine vv_bipush C (37 : Int32) dX6_init_229 (by decide) 231 rfl ?_
  refine vv_bipush C (20 : Int32) dX6_init_231 (by decide) 233 rfl ?_
  refine vv_iastI C X.length ht0 (ap_get _ _) (vp_d (by decide) (by decide)) (by decide) (X ++ [(q, .inl (cI, 48, .inl (pl [0, 20, 0, 0, 1, 20, 3, 0, 2, 20, 6, 0, 3, 20, 9, 0, 4, 20, 12, 0, 5, 20, 15, 0, 0, 20, 18, 0, 1, 20, 21, 0, 2, 20, 24, 0, 3, 20])))]) (ap_set _ _ _) dX6_init_233 234 rfl ?_
  refine vv_dup C dX6_init_234 rfl 235 rfl ?_
  refine vv_bipush C (38 : Int32) dX6_init_235 (by decide) 237 rfl ?_
  refine vv_bipush C (27 : Int32) dX6_init_237 (by decide) 239 rfl ?_
  refine vv_iastI C X.length ht0 (ap_get _ _) (vp_d (by decide) (by decide)) (by decide) (X ++ [(q, .inl (cI, 48, .inl (pl [0, 20, 0, 0, 1, 20, 3, 0, 2, 20, 6, 0, 3, 20, 9, 0, 4, 20, 12, 0, 5, 20, 15, 0, 0, 20, 18, 0, 1, 20, 21, 0, 2, 20, 24, 0, 3, 20, 27])))]) (ap_set _ _ _) dX6_init_239 240 rfl ?_
  refine vv_dup C dX6_init_240 rfl 241 rfl ?_
  refine vv_bipush C (39 : Int32) dX6_init_241 (by decide) 243 rfl ?_
  refine vv_iconst C (0 : Int32) dX6_init_243 (by decide) 244 rfl ?_
  refine vv_iastI C X.length ht0 (ap_get _ _) (vp_d (by decide) (by decide)) (by decide) (X ++ [(q, .inl (cI, 48, .inl (pl [0, 20, 0, 0, 1, 20, 3, 0, 2, 20, 6, 0, 3, 20, 9, 0, 4, 20, 12, 0, 5, 20, 15, 0, 0, 20, 18, 0, 1, 20, 21, 0, 2, 20, 24, 0, 3, 20, 27, 0])))]) (ap_set _ _ _) dX6_init_244 245 rfl ?_
  refine vv_dup C dX6_init_245 rfl 246 rfl ?_
  refine vv_bipush C (40 : Int32) dX6_init_246 (by decide) 248 rfl ?_
  refine vv_iconst C (4 : Int32) dX6_init_248 (by decide) 249 rfl ?_
  refine vv_iastI C X.length ht0 (ap_get _ _) (vp_d (by decide) (by decide)) (by decide) (X ++ [(q, .inl (cI, 48, .inl (pl [0, 20, 0, 0, 1, 20, 3, 0, 2, 20, 6, 0, 3, 20, 9, 0, 4, 20, 12, 0, 5, 20, 15, 0, 0, 20, 18, 0, 1, 20, 21, 0, 2, 20, 24, 0, 3, 20, 27, 0, 4])))]) (ap_set _ _ _) dX6_init_249 250 rfl ?_
  refine vv_dup C dX6_init_250 rfl 251 rfl ?_
  refine vv_bipush C (41 : Int32) dX6_init_251 (by decide) 253 rfl ?_
  refine vv_bipush C (20 : Int32) dX6_init_253 (by decide) 255 rfl ?_
  refine vv_iastI C X.length ht0 (ap_get _ _) (vp_d (by decide) (by decide)) (by decide) (X ++ [(q, .inl (cI, 48, .inl (pl [0, 20, 0, 0, 1, 20, 3, 0, 2, 20, 6, 0, 3, 20, 9, 0, 4, 20, 12, 0, 5, 20, 15, 0, 0, 20, 18, 0, 1, 20, 21, 0, 2, 20, 24, 0, 3, 20, 27, 0, 4, 20])))]) (ap_set _ _ _) dX6_init_255 256 rfl ?_
  refine vv_dup C dX6_init_256 rfl 257 rfl ?_
  refine vv_bipush C (42 : Int32) dX6_init_257 (by decide) 259 rfl ?_
  refine vv_bipush C (30 : Int32) dX6_init_259 (by decide) 261 rfl ?_
  refine vv_iastI C X.length ht0 (ap_get _ _) (vp_d (by decide) (by decide)) (by decide) (X ++ [(q, .inl (cI, 48, .inl (pl [0, 20, 0, 0, 1, 20, 3, 0, 2, 20, 6, 0, 3, 20, 9, 0, 4, 20, 12, 0, 5, 20, 15, 0, 0, 20, 18, 0, 1, 20, 21, 0, 2, 20, 24, 0, 3, 20, 27, 0, 4, 20, 30])))]) (ap_set _ _ _) dX6_init_261 262 rfl ?_
  refine vv_dup C dX6_init_262 rfl 263 rfl ?_
  refine vv_bipush C (43 : Int32) dX6_init_263 (by decide) 265 rfl ?_
  refine vv_iconst C (0 : Int32) dX6_init_265 (by decide) 266 rfl ?_
  refine vv_iastI C X.length ht0 (ap_get _ _) (vp_d (by decide) (by decide)) (by decide) (X ++ [(q, .inl (cI, 48, .inl (pl [0, 20, 0, 0, 1, 20, 3, 0, 2, 20, 6, 0, 3, 20, 9, 0, 4, 20, 12, 0, 5, 20, 15, 0, 0, 20, 18, 0, 1, 20, 21, 0, 2, 20, 24, 0, 3, 20, 27, 0, 4, 20, 30, 0])))]) (ap_set _ _ _) dX6_init_266 267 rfl ?_
  refine vv_dup C dX6_init_267 rfl 268 rfl ?_
  refine vv_bipush C (44 : Int32) dX6_init_268 (by decide) 270 rfl ?_
  refine vv_iconst C (5 : Int32) dX6_init_270 (by decide) 271 rfl ?_
  refine vv_iastI C X.length ht0 (ap_get _ _) (vp_d (by decide) (by decide)) (by decide) (X ++ [(q, .inl (cI, 48, .inl (pl [0, 20, 0, 0, 1, 20, 3, 0, 2, 20, 6, 0, 3, 20, 9, 0, 4, 20, 12, 0, 5, 20, 15, 0, 0, 20, 18, 0, 1, 20, 21, 0, 2, 20, 24, 0, 3, 20, 27, 0, 4, 20, 30, 0, 5])))]) (ap_set _ _ _) dX6_init_271 272 rfl ?_
  refine vv_dup C dX6_init_272 rfl 273 rfl ?_
  refine vv_bipush C (45 : Int32) dX6_init_273 (by decide) 275 rfl ?_
  refine vv_bipush C (20 : Int32) dX6_init_275 (by decide) 277 rfl ?_
  refine vv_iastI C X.length ht0 (ap_get _ _) (vp_d (by decide) (by decide)) (by decide) (X ++ [(q, .inl (cI, 48, .inl (pl [0, 20, 0, 0, 1, 20, 3, 0, 2, 20, 6, 0, 3, 20, 9, 0, 4, 20, 12, 0, 5, 20, 15, 0, 0, 20, 18, 0, 1, 20, 21, 0, 2, 20, 24, 0, 3, 20, 27, 0, 4, 20, 30, 0, 5, 20])))]) (ap_set _ _ _) dX6_init_277 278 rfl ?_
  refine vv_dup C dX6_init_278 rfl 279 rfl ?_
  refine vv_bipush C (46 : Int32) dX6_init_279 (by decide) 281 rfl ?_
  refine vv_bipush C (33 : Int32) dX6_init_281 (by decide) 283 rfl ?_
  refine vv_iastI C X.length ht0 (ap_get _ _) (vp_d (by decide) (by decide)) (by decide) (X ++ [(q, .inl (cI, 48, .inl (pl [0, 20, 0, 0, 1, 20, 3, 0, 2, 20, 6, 0, 3, 20, 9, 0, 4, 20, 12, 0, 5, 20, 15, 0, 0, 20, 18, 0, 1, 20, 21, 0, 2, 20, 24, 0, 3, 20, 27, 0, 4, 20, 30, 0, 5, 20, 33])))]) (ap_set _ _ _) dX6_init_283 284 rfl ?_
  refine vv_dup C dX6_init_284 rfl 285 rfl ?_
  refine vv_bipush C (47 : Int32) dX6_init_285 (by decide) 287 rfl ?_
  refine vv_iconst C (0 : Int32) dX6_init_287 (by decide) 288 rfl ?_
  refine vv_iastI C X.length ht0 (ap_get _ _) (vp_d (by decide) (by decide)) (by decide) (X ++ [(q, .inl (cI, 48, .inl (pl [0, 20, 0, 0, 1, 20, 3, 0, 2, 20, 6, 0, 3, 20, 9, 0, 4, 20, 12, 0, 5, 20, 15, 0, 0, 20, 18, 0, 1, 20, 21, 0, 2, 20, 24, 0, 3, 20, 27, 0, 4, 20, 30, 0, 5, 20, 33, 0])))]) (ap_set _ _ _) dX6_init_288 289 rfl ?_
  exact k
def mA345 : List Int32 := [-1, -1, -1, -1]
set_option maxRecDepth 100000 in
set_option maxHeartbeats 4000000 in
theorem seg_345 {p : Program} {l : Launch} {e : Env} {R : Room} {s : State} {m : MethodId} {args : Array Value} {below : List Frame} {meth : Method} {c : Code} {D : va_G} {tys : List (ClassId × FieldType)} {A : Nat → Prop} {sa : Nat → Nat} {Q : State → Prop} {cells slots rk : Nat} (C : CY p R s m args meth c cX6_init 2 RX6 rk D tys A sa) {cI : ClassId} (ht0 : tys[0]? = some (cI, .int)) (X : va_W) (q h0 : Nat) (k : VV p l e R s m args below meth c 2 D A cells slots Q (X ++ [(q, .inl (cI, 4, .inl (pl mA345)))]) 361 [(0, .ref h0)] [.ref q, .ref h0]) : VV p l e R s m args below meth c 2 D A cells slots Q (X ++ [(q, .inl (cI, 4, .inl (pl [])))]) 345 [(0, .ref h0)] [.ref q, .ref h0] := by
  refine vv_dup C dX6_init_345 rfl 346 rfl ?_
  refine vv_iconst C (0 : Int32) dX6_init_346 (by decide) 347 rfl ?_
  refine vv_iconst C (-1 : Int32) dX6_init_347 (by decide) 348 rfl ?_
  refine vv_iastI C X.length ht0 (ap_get _ _) (vp_d (by decide) (by decide)) (by decide) (X ++ [(q, .inl (cI, 4, .inl (pl [-1])))]) (ap_set _ _ _) dX6_init_348 349 rfl ?_
  refine vv_dup C dX6_init_349 rfl 350 rfl ?_
  refine vv_iconst C (1 : Int32) dX6_init_350 (by decide) 351 rfl ?_
  refine vv_iconst C (-1 : Int32) dX6_init_351 (by decide) 352 rfl ?_
  refine vv_iastI C X.length ht0 (ap_get _ _) (vp_d (by decide) (by decide)) (by decide) (X ++ [(q, .inl (cI, 4, .inl (pl [-1, -1])))]) (ap_set _ _ _) dX6_init_352 353 rfl ?_
  refine vv_dup C dX6_init_353 rfl 354 rfl ?_
  refine vv_iconst C (2 : Int32) dX6_init_354 (by decide) 355 rfl ?_
  refine vv_iconst C (-1 : Int32) dX6_init_355 (by decide) 356 rfl ?_
  refine vv_iastI C X.length ht0 (ap_get _ _) (vp_d (by decide) (by decide)) (by decide) (X ++ [(q, .inl (cI, 4, .inl (pl [-1, -1, -1])))]) (ap_set _ _ _) dX6_init_356 357 rfl ?_
  refine vv_dup C dX6_init_357 rfl 358 rfl ?_
  refine vv_iconst C (3 : Int32) dX6_init_358 (by decide) 359 rfl ?_
  refine vv_iconst C (-1 : Int32) dX6_init_359 (by decide) 360 rfl ?_
  refine vv_iastI C X.length ht0 (ap_get _ _) (vp_d (by decide) (by decide)) (by decide) (X ++ [(q, .inl (cI, 4, .inl (pl [-1, -1, -1, -1])))]) (ap_set _ _ _) dX6_init_360 361 rfl ?_
  exact k
def mA385 : List Int32 := [114, 101, 97, 99, 104, 101, 115, 32, 98, 114, 101, 97, 116, 104, 32, 59, 32, 99, 111, 115, 116, 115, 32, 100, 101, 101, 112, 32, 42, 32, 50, 32, 59, 32, 102, 97, 100, 101, 115, 32, 51, 32, 59]
set_option maxRecDepth 100000 in
set_option maxHeartbeats 4000000 in
theorem seg_385 {p : Program} {l : Launch} {e : Env} {R : Room} {s : State} {m : MethodId} {args : Array Value} {below : List Frame} {meth : Method} {c : Code} {D : va_G} {tys : List (ClassId × FieldType)} {A : Nat → Prop} {sa : Nat → Nat} {Q : State → Prop} {cells slots rk : Nat} (C : CY p R s m args meth c cX6_init 2 RX6 rk D tys A sa) {cI : ClassId} (ht0 : tys[0]? = some (cI, .int)) (X : va_W) (q h0 : Nat) (k : VV p l e R s m args below meth c 2 D A cells slots Q (X ++ [(q, .inl (cI, 43, .inl (pl mA385)))]) 637 [(0, .ref h0)] [.ref q, .ref h0]) : VV p l e R s m args below meth c 2 D A cells slots Q (X ++ [(q, .inl (cI, 43, .inl (pl [])))]) 385 [(0, .ref h0)] [.ref q, .ref h0] := by
  refine vv_dup C dX6_init_385 rfl 386 rfl ?_
  refine vv_iconst C (0 : Int32) dX6_init_386 (by decide) 387 rfl ?_
  refine vv_bipush C (114 : Int32) dX6_init_387 (by decide) 389 rfl ?_
  refine vv_iastI C X.length ht0 (ap_get _ _) (vp_d (by decide) (by decide)) (by decide) (X ++ [(q, .inl (cI, 43, .inl (pl [114])))]) (ap_set _ _ _) dX6_init_389 390 rfl ?_
  refine vv_dup C dX6_init_390 rfl 391 rfl ?_
  refine vv_iconst C (1 : Int32) dX6_init_391 (by decide) 392 rfl ?_
  refine vv_bipush C (101 : Int32) dX6_init_392 (by decide) 394 rfl ?_
  refine vv_iastI C X.length ht0 (ap_get _ _) (vp_d (by decide) (by decide)) (by decide) (X ++ [(q, .inl (cI, 43, .inl (pl [114, 101])))]) (ap_set _ _ _) dX6_init_394 395 rfl ?_
  refine vv_dup C dX6_init_395 rfl 396 rfl ?_
  refine vv_iconst C (2 : Int32) dX6_init_396 (by decide) 397 rfl ?_
  refine vv_bipush C (97 : Int32) dX6_init_397 (by decide) 399 rfl ?_
  refine vv_iastI C X.length ht0 (ap_get _ _) (vp_d (by decide) (by decide)) (by decide) (X ++ [(q, .inl (cI, 43, .inl (pl [114, 101, 97])))]) (ap_set _ _ _) dX6_init_399 400 rfl ?_
  refine vv_dup C dX6_init_400 rfl 401 rfl ?_
  refine vv_iconst C (3 : Int32) dX6_init_401 (by decide) 402 rfl ?_
  refine vv_bipush C (99 : Int32) dX6_init_402 (by decide) 404 rfl ?_
  refine vv_iastI C X.length ht0 (ap_get _ _) (vp_d (by decide) (by decide)) (by decide) (X ++ [(q, .inl (cI, 43, .inl (pl [114, 101, 97, 99])))]) (ap_set _ _ _) dX6_init_404 405 rfl ?_
  refine vv_dup C dX6_init_405 rfl 406 rfl ?_
  refine vv_iconst C (4 : Int32) dX6_init_406 (by decide) 407 rfl ?_
  refine vv_bipush C (104 : Int32) dX6_init_407 (by decide) 409 rfl ?_
  refine vv_iastI C X.length ht0 (ap_get _ _) (vp_d (by decide) (by decide)) (by decide) (X ++ [(q, .inl (cI, 43, .inl (pl [114, 101, 97, 99, 104])))]) (ap_set _ _ _) dX6_init_409 410 rfl ?_
  refine vv_dup C dX6_init_410 rfl 411 rfl ?_
  refine vv_iconst C (5 : Int32) dX6_init_411 (by decide) 412 rfl ?_
  refine vv_bipush C (101 : Int32) dX6_init_412 (by decide) 414 rfl ?_
  refine vv_iastI C X.length ht0 (ap_get _ _) (vp_d (by decide) (by decide)) (by decide) (X ++ [(q, .inl (cI, 43, .inl (pl [114, 101, 97, 99, 104, 101])))]) (ap_set _ _ _) dX6_init_414 415 rfl ?_
  refine vv_dup C dX6_init_415 rfl 416 rfl ?_
  refine vv_bipush C (6 : Int32) dX6_init_416 (by decide) 418 rfl ?_
  refine vv_bipush C (115 : Int32) dX6_init_418 (by decide) 420 rfl ?_
  refine vv_iastI C X.length ht0 (ap_get _ _) (vp_d (by decide) (by decide)) (by decide) (X ++ [(q, .inl (cI, 43, .inl (pl [114, 101, 97, 99, 104, 101, 115])))]) (ap_set _ _ _) dX6_init_420 421 rfl ?_
  refine vv_dup C dX6_init_421 rfl 422 rfl ?_
  refine vv_bipush C (7 : Int32) dX6_init_422 (by decide) 424 rfl ?_
  refine vv_bipush C (32 : Int32) dX6_init_424 (by decide) 426 rfl ?_
  refine vv_iastI C X.length ht0 (ap_get _ _) (vp_d (by decide) (by decide)) (by decide) (X ++ [(q, .inl (cI, 43, .inl (pl [114, 101, 97, 99, 104, 101, 115, 32])))]) (ap_set _ _ _) dX6_init_426 427 rfl ?_
  refine vv_dup C dX6_init_427 rfl 428 rfl ?_
  refine vv_bipush C (8 : Int32) dX6_init_428 (by decide) 430 rfl ?_
  refine vv_bipush C (98 : Int32) dX6_init_430 (by decide) 432 rfl ?_
  refine vv_iastI C X.length ht0 (ap_get _ _) (vp_d (by decide) (by decide)) (by decide) (X ++ [(q, .inl (cI, 43, .inl (pl [114, 101, 97, 99, 104, 101, 115, 32, 98])))]) (ap_set _ _ _) dX6_init_432 433 rfl ?_
  refine vv_dup C dX6_init_433 rfl 434 rfl ?_
  refine vv_bipush C (9 : Int32) dX6_init_434 (by decide) 436 rfl ?_
  refine vv_bipush C (114 : Int32) dX6_init_436 (by decide) 438 rfl ?_
  refine vv_iastI C X.length ht0 (ap_get _ _) (vp_d (by decide) (by decide)) (by decide) (X ++ [(q, .inl (cI, 43, .inl (pl [114, 101, 97, 99, 104, 101, 115, 32, 98, 114])))]) (ap_set _ _ _) dX6_init_438 439 rfl ?_
  refine vv_dup C dX6_init_439 rfl 440 rfl ?_
  refine vv_bipush C (10 : Int32) dX6_init_440 (by decide) 442 rfl ?_
  refine vv_bipush C (101 : Int32) dX6_init_442 (by decide) 444 rfl ?_
  refine vv_iastI C X.length ht0 (ap_get _ _) (vp_d (by decide) (by decide)) (by decide) (X ++ [(q, .inl (cI, 43, .inl (pl [114, 101, 97, 99, 104, 101, 115, 32, 98, 114, 101])))]) (ap_set _ _ _) dX6_init_444 445 rfl ?_
  refine vv_dup C dX6_init_445 rfl 446 rfl ?_
  refine vv_bipush C (11 : Int32) dX6_init_446 (by decide) 448 rfl ?_
  refine vv_bipush C (97 : Int32) dX6_init_448 (by decide) 450 rfl ?_
  refine vv_iastI C X.length ht0 (ap_get _ _) (vp_d (by decide) (by decide)) (by decide) (X ++ [(q, .inl (cI, 43, .inl (pl [114, 101, 97, 99, 104, 101, 115, 32, 98, 114, 101, 97])))]) (ap_set _ _ _) dX6_init_450 451 rfl ?_
  refine vv_dup C dX6_init_451 rfl 452 rfl ?_
  refine vv_bipush C (12 : Int32) dX6_init_452 (by decide) 454 rfl ?_
  refine vv_bipush C (116 : Int32) dX6_init_454 (by decide) 456 rfl ?_
  refine vv_iastI C X.length ht0 (ap_get _ _) (vp_d (by decide) (by decide)) (by decide) (X ++ [(q, .inl (cI, 43, .inl (pl [114, 101, 97, 99, 104, 101, 115, 32, 98, 114, 101, 97, 116])))]) (ap_set _ _ _) dX6_init_456 457 rfl ?_
  refine vv_dup C dX6_init_457 rfl 458 rfl ?_
  refine vv_bipush C (13 : Int32) dX6_init_458 (by decide) 460 rfl ?_
  refine vv_bipush C (104 : Int32) dX6_init_460 (by decide) 462 rfl ?_
  refine vv_iastI C X.length ht0 (ap_get _ _) (vp_d (by decide) (by decide)) (by decide) (X ++ [(q, .inl (cI, 43, .inl (pl [114, 101, 97, 99, 104, 101, 115, 32, 98, 114, 101, 97, 116, 104])))]) (ap_set _ _ _) dX6_init_462 463 rfl ?_
  refine vv_dup C dX6_init_463 rfl 464 rfl ?_
  refine vv_bipush C (14 : Int32) dX6_init_464 (by decide) 466 rfl ?_
  refine vv_bipush C (32 : Int32) dX6_init_466 (by decide) 468 rfl ?_
  refine vv_iastI C X.length ht0 (ap_get _ _) (vp_d (by decide) (by decide)) (by decide) (X ++ [(q, .inl (cI, 43, .inl (pl [114, 101, 97, 99, 104, 101, 115, 32, 98, 114, 101, 97, 116, 104, 32])))]) (ap_set _ _ _) dX6_init_468 469 rfl ?_
  refine vv_dup C dX6_init_469 rfl 470 rfl ?_
  refine vv_bipush C (15 : Int32) dX6_init_470 (by decide) 472 rfl ?_
  refine vv_bipush C (59 : Int32) dX6_init_472 (by decide) 474 rfl ?_
  refine vv_iastI C X.length ht0 (ap_get _ _) (vp_d (by decide) (by decide)) (by decide) (X ++ [(q, .inl (cI, 43, .inl (pl [114, 101, 97, 99, 104, 101, 115, 32, 98, 114, 101, 97, 116, 104, 32, 59])))]) (ap_set _ _ _) dX6_init_474 475 rfl ?_
  refine vv_dup C dX6_init_475 rfl 476 rfl ?_
  refine vv_bipush C (16 : Int32) dX6_init_476 (by decide) 478 rfl ?_
  refine vv_bipush C (32 : Int32) dX6_init_478 (by decide) 480 rfl ?_
  refine vv_iastI C X.length ht0 (ap_get _ _) (vp_d (by decide) (by decide)) (by decide) (X ++ [(q, .inl (cI, 43, .inl (pl [114, 101, 97, 99, 104, 101, 115, 32, 98, 114, 101, 97, 116, 104, 32, 59, 32])))]) (ap_set _ _ _) dX6_init_480 481 rfl ?_
  refine vv_dup C dX6_init_481 rfl 482 rfl ?_
  refine vv_bipush C (17 : Int32) dX6_init_482 (by decide) 484 rfl ?_
  refine vv_bipush C (99 : Int32) dX6_init_484 (by decide) 486 rfl ?_
  refine vv_iastI C X.length ht0 (ap_get _ _) (vp_d (by decide) (by decide)) (by decide) (X ++ [(q, .inl (cI, 43, .inl (pl [114, 101, 97, 99, 104, 101, 115, 32, 98, 114, 101, 97, 116, 104, 32, 59, 32, 99])))]) (ap_set _ _ _) dX6_init_486 487 rfl ?_
  refine vv_dup C dX6_init_487 rfl 488 rfl ?_
  refine vv_bipush C (18 : Int32) dX6_init_488 (by decide) 490 rfl ?_
  refine vv_bipush C (111 : Int32) dX6_init_490 (by decide) 492 rfl ?_
  refine vv_iastI C X.length ht0 (ap_get _ _) (vp_d (by decide) (by decide)) (by decide) (X ++ [(q, .inl (cI, 43, .inl (pl [114, 101, 97, 99, 104, 101, 115, 32, 98, 114, 101, 97, 116, 104, 32, 59, 32, 99, 111])))]) (ap_set _ _ _) dX6_init_492 493 rfl ?_
  refine vv_dup C dX6_init_493 rfl 494 rfl ?_
  refine vv_bipush C (19 : Int32) dX6_init_494 (by decide) 496 rfl ?_
  refine vv_bipush C (115 : Int32) dX6_init_496 (by decide) 498 rfl ?_
  refine vv_iastI C X.length ht0 (ap_get _ _) (vp_d (by decide) (by decide)) (by decide) (X ++ [(q, .inl (cI, 43, .inl (pl [114, 101, 97, 99, 104, 101, 115, 32, 98, 114, 101, 97, 116, 104, 32, 59, 32, 99, 111, 115])))]) (ap_set _ _ _) dX6_init_498 499 rfl ?_
  refine vv_dup C dX6_init_499 rfl 500 rfl ?_
  refine vv_bipush C (20 : Int32) dX6_init_500 (by decide) 502 rfl ?_
  refine vv_bipush C (116 : Int32) dX6_init_502 (by decide) 504 rfl ?_
  refine vv_iastI C X.length ht0 (ap_get _ _) (vp_d (by decide) (by decide)) (by decide) (X ++ [(q, .inl (cI, 43, .inl (pl [114, 101, 97, 99, 104, 101, 115, 32, 98, 114, 101, 97, 116, 104, 32, 59, 32, 99, 111, 115, 116])))]) (ap_set _ _ _) dX6_init_504 505 rfl ?_
  refine vv_dup C dX6_init_505 rfl 506 rfl ?_
  refine vv_bipush C (21 : Int32) dX6_init_506 (by decide) 508 rfl ?_
  refine vv_bipush C (115 : Int32) dX6_init_508 (by decide) 510 rfl ?_
  refine vv_iastI C X.length ht0 (ap_get _ _) (vp_d (by decide) (by decide)) (by decide) (X ++ [(q, .inl (cI, 43, .inl (pl [114, 101, 97, 99, 104, 101, 115, 32, 98, 114, 101, 97, 116, 104, 32, 59, 32, 99, 111, 115, 116, 115])))]) (ap_set _ _ _) dX6_init_510 511 rfl ?_
  refine vv_dup C dX6_init_511 rfl 512 rfl ?_
  refine vv_bipush C (22 : Int32) dX6_init_512 (by decide) 514 rfl ?_
  refine vv_bipush C (32 : Int32) dX6_init_514 (by decide) 516 rfl ?_
  refine vv_iastI C X.length ht0 (ap_get _ _) (vp_d (by decide) (by decide)) (by decide) (X ++ [(q, .inl (cI, 43, .inl (pl [114, 101, 97, 99, 104, 101, 115, 32, 98, 114, 101, 97, 116, 104, 32, 59, 32, 99, 111, 115, 116, 115, 32])))]) (ap_set _ _ _) dX6_init_516 517 rfl ?_
  refine vv_dup C dX6_init_517 rfl 518 rfl ?_
  refine vv_bipush C (23 : Int32) dX6_init_518 (by decide) 520 rfl ?_
  refine vv_bipush C (100 : Int32) dX6_init_520 (by decide) 522 rfl ?_
  refine vv_iastI C X.length ht0 (ap_get _ _) (vp_d (by decide) (by decide)) (by decide) (X ++ [(q, .inl (cI, 43, .inl (pl [114, 101, 97, 99, 104, 101, 115, 32, 98, 114, 101, 97, 116, 104, 32, 59, 32, 99, 111, 115, 116, 115, 32, 100])))]) (ap_set _ _ _) dX6_init_522 523 rfl ?_
  refine vv_dup C dX6_init_523 rfl 524 rfl ?_
  refine vv_bipush C (24 : Int32) dX6_init_524 (by decide) 526 rfl ?_
  refine vv_bipush C (101 : Int32) dX6_init_526 (by decide) 528 rfl ?_
  refine vv_iastI C X.length ht0 (ap_get _ _) (vp_d (by decide) (by decide)) (by decide) (X ++ [(q, .inl (cI, 43, .inl (pl [114, 101, 97, 99, 104, 101, 115, 32, 98, 114, 101, 97, 116, 104, 32, 59, 32, 99, 111, 115, 116, 115, 32, 100, 101])))]) (ap_set _ _ _) dX6_init_528 529 rfl ?_
  refine vv_dup C dX6_init_529 rfl 530 rfl ?_
  refine vv_bipush C (25 : Int32) dX6_init_530 (by decide) 532 rfl ?_
  refine vv_bipush C (101 : Int32) dX6_init_532 (by decide) 534 rfl ?_
  refine vv_iastI C X.length ht0 (ap_get _ _) (vp_d (by decide) (by decide)) (by decide) (X ++ [(q, .inl (cI, 43, .inl (pl [114, 101, 97, 99, 104, 101, 115, 32, 98, 114, 101, 97, 116, 104, 32, 59, 32, 99, 111, 115, 116, 115, 32, 100, 101, 101])))]) (ap_set _ _ _) dX6_init_534 535 rfl ?_
  refine vv_dup C dX6_init_535 rfl 536 rfl ?_
  refine vv_bipush C (26 : Int32) dX6_init_536 (by decide) 538 rfl ?_
  refine vv_bipush C (112 : Int32) dX6_init_538 (by decide) 540 rfl ?_
  refine vv_iastI C X.length ht0 (ap_get _ _) (vp_d (by decide) (by decide)) (by decide) (X ++ [(q, .inl (cI, 43, .inl (pl [114, 101, 97, 99, 104, 101, 115, 32, 98, 114, 101, 97, 116, 104, 32, 59, 32, 99, 111, 115, 116, 115, 32, 100, 101, 101, 112])))]) (ap_set _ _ _) dX6_init_540 541 rfl ?_
  refine vv_dup C dX6_init_541 rfl 542 rfl ?_
  refine vv_bipush C (27 : Int32) dX6_init_542 (by decide) 544 rfl ?_
  refine vv_bipush C (32 : Int32) dX6_init_544 (by decide) 546 rfl ?_
  refine vv_iastI C X.length ht0 (ap_get _ _) (vp_d (by decide) (by decide)) (by decide) (X ++ [(q, .inl (cI, 43, .inl (pl [114, 101, 97, 99, 104, 101, 115, 32, 98, 114, 101, 97, 116, 104, 32, 59, 32, 99, 111, 115, 116, 115, 32, 100, 101, 101, 112, 32])))]) (ap_set _ _ _) dX6_init_546 547 rfl ?_
  refine vv_dup C dX6_init_547 rfl 548 rfl ?_
  refine vv_bipush C (28 : Int32) dX6_init_548 (by decide) 550 rfl ?_
  refine vv_bipush C (42 : Int32) dX6_init_550 (by decide) 552 rfl ?_
  refine vv_iastI C X.length ht0 (ap_get _ _) (vp_d (by decide) (by decide)) (by decide) (X ++ [(q, .inl (cI, 43, .inl (pl [114, 101, 97, 99, 104, 101, 115, 32, 98, 114, 101, 97, 116, 104, 32, 59, 32, 99, 111, 115, 116, 115, 32, 100, 101, 101, 112, 32, 42])))]) (ap_set _ _ _) dX6_init_552 553 rfl ?_
  refine vv_dup C dX6_init_553 rfl 554 rfl ?_
  refine vv_bipush C (29 : Int32) dX6_init_554 (by decide) 556 rfl ?_
  refine vv_bipush C (32 : Int32) dX6_init_556 (by decide) 558 rfl ?_
  refine vv_iastI C X.length ht0 (ap_get _ _) (vp_d (by decide) (by decide)) (by decide) (X ++ [(q, .inl (cI, 43, .inl (pl [114, 101, 97, 99, 104, 101, 115, 32, 98, 114, 101, 97, 116, 104, 32, 59, 32, 99, 111, 115, 116, 115, 32, 100, 101, 101, 112, 32, 42, 32])))]) (ap_set _ _ _) dX6_init_558 559 rfl ?_
  refine vv_dup C dX6_init_559 rfl 560 rfl ?_
  refine vv_bipush C (30 : Int32) dX6_init_560 (by decide) 562 rfl ?_
  refine vv_bipush C (50 : Int32) dX6_init_562 (by decide) 564 rfl ?_
  refine vv_iastI C X.length ht0 (ap_get _ _) (vp_d (by decide) (by decide)) (by decide) (X ++ [(q, .inl (cI, 43, .inl (pl [114, 101, 97, 99, 104, 101, 115, 32, 98, 114, 101, 97, 116, 104, 32, 59, 32, 99, 111, 115, 116, 115, 32, 100, 101, 101, 112, 32, 42, 32, 50])))]) (ap_set _ _ _) dX6_init_564 565 rfl ?_
  refine vv_dup C dX6_init_565 rfl 566 rfl ?_
  refine vv_bipush C (31 : Int32) dX6_init_566 (by decide) 568 rfl ?_
  refine vv_bipush C (32 : Int32) dX6_init_568 (by decide) 570 rfl ?_
  refine vv_iastI C X.length ht0 (ap_get _ _) (vp_d (by decide) (by decide)) (by decide) (X ++ [(q, .inl (cI, 43, .inl (pl [114, 101, 97, 99, 104, 101, 115, 32, 98, 114, 101, 97, 116, 104, 32, 59, 32, 99, 111, 115, 116, 115, 32, 100, 101, 101, 112, 32, 42, 32, 50, 32])))]) (ap_set _ _ _) dX6_init_570 571 rfl ?_
  refine vv_dup C dX6_init_571 rfl 572 rfl ?_
  refine vv_bipush C (32 : Int32) dX6_init_572 (by decide) 574 rfl ?_
  refine vv_bipush C (59 : Int32) dX6_init_574 (by decide) 576 rfl ?_
  refine vv_iastI C X.length ht0 (ap_get _ _) (vp_d (by decide) (by decide)) (by decide) (X ++ [(q, .inl (cI, 43, .inl (pl [114, 101, 97, 99, 104, 101, 115, 32, 98, 114, 101, 97, 116, 104, 32, 59, 32, 99, 111, 115, 116, 115, 32, 100, 101, 101, 112, 32, 42, 32, 50, 32, 59])))]) (ap_set _ _ _) dX6_init_576 577 rfl ?_
  refine vv_dup C dX6_init_577 rfl 578 rfl ?_
  refine vv_bipush C (33 : Int32) dX6_init_578 (by decide) 580 rfl ?_
  refine vv_bipush C (32 : Int32) dX6_init_580 (by decide) 582 rfl ?_
  refine vv_iastI C X.length ht0 (ap_get _ _) (vp_d (by decide) (by decide)) (by decide) (X ++ [(q, .inl (cI, 43, .inl (pl [114, 101, 97, 99, 104, 101, 115, 32, 98, 114, 101, 97, 116, 104, 32, 59, 32, 99, 111, 115, 116, 115, 32, 100, 101, 101, 112, 32, 42, 32, 50, 32, 59, 32])))]) (ap_set _ _ _) dX6_init_582 583 rfl ?_
  refine vv_dup C dX6_init_583 rfl 584 rfl ?_
  refine vv_bipush C (34 : Int32) dX6_init_584 (by decide) 586 rfl ?_
  refine vv_bipush C (102 : Int32) dX6_init_586 (by decide) 588 rfl ?_
  refine vv_iastI C X.length ht0 (ap_get _ _) (vp_d (by decide) (by decide)) (by decide) (X ++ [(q, .inl (cI, 43, .inl (pl [114, 101, 97, 99, 104, 101, 115, 32, 98, 114, 101, 97, 116, 104, 32, 59, 32, 99, 111, 115, 116, 115, 32, 100, 101, 101, 112, 32, 42, 32, 50, 32, 59, 32, 102])))]) (ap_set _ _ _) dX6_init_588 589 rfl ?_
  refine vv_dup C dX6_init_589 rfl 590 rfl ?_
  refine vv_bipush C (35 : Int32) dX6_init_590 (by decide) 592 rfl ?_
  refine vv_bipush C (97 : Int32) dX6_init_592 (by decide) 594 rfl ?_
  refine vv_iastI C X.length ht0 (ap_get _ _) (vp_d (by decide) (by decide)) (by decide) (X ++ [(q, .inl (cI, 43, .inl (pl [114, 101, 97, 99, 104, 101, 115, 32, 98, 114, 101, 97, 116, 104, 32, 59, 32, 99, 111, 115, 116, 115, 32, 100, 101, 101, 112, 32, 42, 32, 50, 32, 59, 32, 102, 97])))]) (ap_set _ _ _) dX6_init_594 595 rfl ?_
  refine vv_dup C dX6_init_595 rfl 596 rfl ?_
  refine vv_bipush C (36 : Int32) dX6_init_596 (by decide) 598 rfl ?_
  refine vv_bipush C (100 : Int32) dX6_init_598 (by decide) 600 rfl ?_
  refine vv_iastI C X.length ht0 (ap_get _ _) (vp_d (by decide) (by decide)) (by decide) (X ++ [(q, .inl (cI, 43, .inl (pl [114, 101, 97, 99, 104, 101, 115, 32, 98, 114, 101, 97, 116, 104, 32, 59, 32, 99, 111, 115, 116, 115, 32, 100, 101, 101, 112, 32, 42, 32, 50, 32, 59, 32, 102, 97, 100])))]) (ap_set _ _ _) dX6_init_600 601 rfl ?_
  refine vv_dup C dX6_init_601 rfl 602 rfl ?_
  refine vv_bipush C (37 : Int32) dX6_init_602 (by decide) 604 rfl ?_
  refine vv_bipush C (101 : Int32) dX6_init_604 (by decide) 606 rfl ?_
  refine vv_iastI C X.length ht0 (ap_get _ _) (vp_d (by decide) (by decide)) (by decide) (X ++ [(q, .inl (cI, 43, .inl (pl [114, 101, 97, 99, 104, 101, 115, 32, 98, 114, 101, 97, 116, 104, 32, 59, 32, 99, 111, 115, 116, 115, 32, 100, 101, 101, 112, 32, 42, 32, 50, 32, 59, 32, 102, 97, 100, 101])))]) (ap_set _ _ _) dX6_init_606 607 rfl ?_
  refine vv_dup C dX6_init_607 rfl 608 rfl ?_
  refine vv_bipush C (38 : Int32) dX6_init_608 (by decide) 610 rfl ?_
  refine vv_bipush C (115 : Int32) dX6_init_610 (by decide) 612 rfl ?_
  refine vv_iastI C X.length ht0 (ap_get _ _) (vp_d (by decide) (by decide)) (by decide) (X ++ [(q, .inl (cI, 43, .inl (pl [114, 101, 97, 99, 104, 101, 115, 32, 98, 114, 101, 97, 116, 104, 32, 59, 32, 99, 111, 115, 116, 115, 32, 100, 101, 101, 112, 32, 42, 32, 50, 32, 59, 32, 102, 97, 100, 101, 115])))]) (ap_set _ _ _) dX6_init_612 613 rfl ?_
  refine vv_dup C dX6_init_613 rfl 614 rfl ?_
  refine vv_bipush C (39 : Int32) dX6_init_614 (by decide) 616 rfl ?_
  refine vv_bipush C (32 : Int32) dX6_init_616 (by decide) 618 rfl ?_
  refine vv_iastI C X.length ht0 (ap_get _ _) (vp_d (by decide) (by decide)) (by decide) (X ++ [(q, .inl (cI, 43, .inl (pl [114, 101, 97, 99, 104, 101, 115, 32, 98, 114, 101, 97, 116, 104, 32, 59, 32, 99, 111, 115, 116, 115, 32, 100, 101, 101, 112, 32, 42, 32, 50, 32, 59, 32, 102, 97, 100, 101, 115, 32])))]) (ap_set _ _ _) dX6_init_618 619 rfl ?_
  refine vv_dup C dX6_init_619 rfl 620 rfl ?_
  refine vv_bipush C (40 : Int32) dX6_init_620 (by decide) 622 rfl ?_
  refine vv_bipush C (51 : Int32) dX6_init_622 (by decide) 624 rfl ?_
  refine vv_iastI C X.length ht0 (ap_get _ _) (vp_d (by decide) (by decide)) (by decide) (X ++ [(q, .inl (cI, 43, .inl (pl [114, 101, 97, 99, 104, 101, 115, 32, 98, 114, 101, 97, 116, 104, 32, 59, 32, 99, 111, 115, 116, 115, 32, 100, 101, 101, 112, 32, 42, 32, 50, 32, 59, 32, 102, 97, 100, 101, 115, 32, 51])))]) (ap_set _ _ _) dX6_init_624 625 rfl ?_
  refine vv_dup C dX6_init_625 rfl 626 rfl ?_
  refine vv_bipush C (41 : Int32) dX6_init_626 (by decide) 628 rfl ?_
  refine vv_bipush C (32 : Int32) dX6_init_628 (by decide) 630 rfl ?_
  refine vv_iastI C X.length ht0 (ap_get _ _) (vp_d (by decide) (by decide)) (by decide) (X ++ [(q, .inl (cI, 43, .inl (pl [114, 101, 97, 99, 104, 101, 115, 32, 98, 114, 101, 97, 116, 104, 32, 59, 32, 99, 111, 115, 116, 115, 32, 100, 101, 101, 112, 32, 42, 32, 50, 32, 59, 32, 102, 97, 100, 101, 115, 32, 51, 32])))]) (ap_set _ _ _) dX6_init_630 631 rfl ?_
  refine vv_dup C dX6_init_631 rfl 632 rfl ?_
  refine vv_bipush C (42 : Int32) dX6_init_632 (by decide) 634 rfl ?_
  refine vv_bipush C (59 : Int32) dX6_init_634 (by decide) 636 rfl ?_
  refine vv_iastI C X.length ht0 (ap_get _ _) (vp_d (by decide) (by decide)) (by decide) (X ++ [(q, .inl (cI, 43, .inl (pl [114, 101, 97, 99, 104, 101, 115, 32, 98, 114, 101, 97, 116, 104, 32, 59, 32, 99, 111, 115, 116, 115, 32, 100, 101, 101, 112, 32, 42, 32, 50, 32, 59, 32, 102, 97, 100, 101, 115, 32, 51, 32, 59])))]) (ap_set _ _ _) dX6_init_636 637 rfl ?_
  exact k
def mA645 : List Int32 := [114, 101, 97, 99, 104, 101, 115, 32, 99, 111, 115, 116, 115, 32, 32, 32, 102, 97, 100, 101, 115, 32, 32, 32, 98, 114, 101, 97, 116, 104, 32, 32, 100, 101, 101, 112, 32, 32, 32, 32, 115, 116, 114, 111, 110, 103, 32, 32, 115, 111, 114, 116, 32, 32, 32, 32, 104, 111, 117, 114, 32, 32, 32, 32, 109, 111, 114, 101, 32, 32, 32, 32, 111, 114, 32, 32, 32, 32, 32, 32, 97, 110, 100, 32, 32, 32, 32, 32, 110, 111, 116, 32, 32, 32, 32, 32]
set_option maxRecDepth 100000 in
set_option maxHeartbeats 4000000 in
theorem seg_645 {p : Program} {l : Launch} {e : Env} {R : Room} {s : State} {m : MethodId} {args : Array Value} {below : List Frame} {meth : Method} {c : Code} {D : va_G} {tys : List (ClassId × FieldType)} {A : Nat → Prop} {sa : Nat → Nat} {Q : State → Prop} {cells slots rk : Nat} (C : CY p R s m args meth c cX6_init 2 RX6 rk D tys A sa) {cI : ClassId} (ht0 : tys[0]? = some (cI, .int)) (X : va_W) (q h0 : Nat) (k : VV p l e R s m args below meth c 2 D A cells slots Q (X ++ [(q, .inl (cI, 96, .inl (pl mA645)))]) 1215 [(0, .ref h0)] [.ref q, .ref h0]) : VV p l e R s m args below meth c 2 D A cells slots Q (X ++ [(q, .inl (cI, 96, .inl (pl [])))]) 645 [(0, .ref h0)] [.ref q, .ref h0] := by
  refine vv_dup C dX6_init_645 rfl 646 rfl ?_
  refine vv_iconst C (0 : Int32) dX6_init_646 (by decide) 647 rfl ?_
  refine vv_bipush C (114 : Int32) dX6_init_647 (by decide) 649 rfl ?_
  refine vv_iastI C X.length ht0 (ap_get _ _) (vp_d (by decide) (by decide)) (by decide) (X ++ [(q, .inl (cI, 96, .inl (pl [114])))]) (ap_set _ _ _) dX6_init_649 650 rfl ?_
  refine vv_dup C dX6_init_650 rfl 651 rfl ?_
  refine vv_iconst C (1 : Int32) dX6_init_651 (by decide) 652 rfl ?_
  refine vv_bipush C (101 : Int32) dX6_init_652 (by decide) 654 rfl ?_
  refine vv_iastI C X.length ht0 (ap_get _ _) (vp_d (by decide) (by decide)) (by decide) (X ++ [(q, .inl (cI, 96, .inl (pl [114, 101])))]) (ap_set _ _ _) dX6_init_654 655 rfl ?_
  refine vv_dup C dX6_init_655 rfl 656 rfl ?_
  refine vv_iconst C (2 : Int32) dX6_init_656 (by decide) 657 rfl ?_
  refine vv_bipush C (97 : Int32) dX6_init_657 (by decide) 659 rfl ?_
  refine vv_iastI C X.length ht0 (ap_get _ _) (vp_d (by decide) (by decide)) (by decide) (X ++ [(q, .inl (cI, 96, .inl (pl [114, 101, 97])))]) (ap_set _ _ _) dX6_init_659 660 rfl ?_
  refine vv_dup C dX6_init_660 rfl 661 rfl ?_
  refine vv_iconst C (3 : Int32) dX6_init_661 (by decide) 662 rfl ?_
  refine vv_bipush C (99 : Int32) dX6_init_662 (by decide) 664 rfl ?_
  refine vv_iastI C X.length ht0 (ap_get _ _) (vp_d (by decide) (by decide)) (by decide) (X ++ [(q, .inl (cI, 96, .inl (pl [114, 101, 97, 99])))]) (ap_set _ _ _) dX6_init_664 665 rfl ?_
  refine vv_dup C dX6_init_665 rfl 666 rfl ?_
  refine vv_iconst C (4 : Int32) dX6_init_666 (by decide) 667 rfl ?_
  refine vv_bipush C (104 : Int32) dX6_init_667 (by decide) 669 rfl ?_
  refine vv_iastI C X.length ht0 (ap_get _ _) (vp_d (by decide) (by decide)) (by decide) (X ++ [(q, .inl (cI, 96, .inl (pl [114, 101, 97, 99, 104])))]) (ap_set _ _ _) dX6_init_669 670 rfl ?_
  refine vv_dup C dX6_init_670 rfl 671 rfl ?_
  refine vv_iconst C (5 : Int32) dX6_init_671 (by decide) 672 rfl ?_
  refine vv_bipush C (101 : Int32) dX6_init_672 (by decide) 674 rfl ?_
  refine vv_iastI C X.length ht0 (ap_get _ _) (vp_d (by decide) (by decide)) (by decide) (X ++ [(q, .inl (cI, 96, .inl (pl [114, 101, 97, 99, 104, 101])))]) (ap_set _ _ _) dX6_init_674 675 rfl ?_
  refine vv_dup C dX6_init_675 rfl 676 rfl ?_
  refine vv_bipush C (6 : Int32) dX6_init_676 (by decide) 678 rfl ?_
  refine vv_bipush C (115 : Int32) dX6_init_678 (by decide) 680 rfl ?_
  refine vv_iastI C X.length ht0 (ap_get _ _) (vp_d (by decide) (by decide)) (by decide) (X ++ [(q, .inl (cI, 96, .inl (pl [114, 101, 97, 99, 104, 101, 115])))]) (ap_set _ _ _) dX6_init_680 681 rfl ?_
  refine vv_dup C dX6_init_681 rfl 682 rfl ?_
  refine vv_bipush C (7 : Int32) dX6_init_682 (by decide) 684 rfl ?_
  refine vv_bipush C (32 : Int32) dX6_init_684 (by decide) 686 rfl ?_
  refine vv_iastI C X.length ht0 (ap_get _ _) (vp_d (by decide) (by decide)) (by decide) (X ++ [(q, .inl (cI, 96, .inl (pl [114, 101, 97, 99, 104, 101, 115, 32])))]) (ap_set _ _ _) dX6_init_686 687 rfl ?_
  refine vv_dup C dX6_init_687 rfl 688 rfl ?_
  refine vv_bipush C (8 : Int32) dX6_init_688 (by decide) 690 rfl ?_
  refine vv_bipush C (99 : Int32) dX6_init_690 (by decide) 692 rfl ?_
  refine vv_iastI C X.length ht0 (ap_get _ _) (vp_d (by decide) (by decide)) (by decide) (X ++ [(q, .inl (cI, 96, .inl (pl [114, 101, 97, 99, 104, 101, 115, 32, 99])))]) (ap_set _ _ _) dX6_init_692 693 rfl ?_
  refine vv_dup C dX6_init_693 rfl 694 rfl ?_
  refine vv_bipush C (9 : Int32) dX6_init_694 (by decide) 696 rfl ?_
  refine vv_bipush C (111 : Int32) dX6_init_696 (by decide) 698 rfl ?_
  refine vv_iastI C X.length ht0 (ap_get _ _) (vp_d (by decide) (by decide)) (by decide) (X ++ [(q, .inl (cI, 96, .inl (pl [114, 101, 97, 99, 104, 101, 115, 32, 99, 111])))]) (ap_set _ _ _) dX6_init_698 699 rfl ?_
  refine vv_dup C dX6_init_699 rfl 700 rfl ?_
  refine vv_bipush C (10 : Int32) dX6_init_700 (by decide) 702 rfl ?_
  refine vv_bipush C (115 : Int32) dX6_init_702 (by decide) 704 rfl ?_
  refine vv_iastI C X.length ht0 (ap_get _ _) (vp_d (by decide) (by decide)) (by decide) (X ++ [(q, .inl (cI, 96, .inl (pl [114, 101, 97, 99, 104, 101, 115, 32, 99, 111, 115])))]) (ap_set _ _ _) dX6_init_704 705 rfl ?_
  refine vv_dup C dX6_init_705 rfl 706 rfl ?_
  refine vv_bipush C (11 : Int32) dX6_init_706 (by decide) 708 rfl ?_
  refine vv_bipush C (116 : Int32) dX6_init_708 (by decide) 710 rfl ?_
  refine vv_iastI C X.length ht0 (ap_get _ _) (vp_d (by decide) (by decide)) (by decide) (X ++ [(q, .inl (cI, 96, .inl (pl [114, 101, 97, 99, 104, 101, 115, 32, 99, 111, 115, 116])))]) (ap_set _ _ _) dX6_init_710 711 rfl ?_
  refine vv_dup C dX6_init_711 rfl 712 rfl ?_
  refine vv_bipush C (12 : Int32) dX6_init_712 (by decide) 714 rfl ?_
  refine vv_bipush C (115 : Int32) dX6_init_714 (by decide) 716 rfl ?_
  refine vv_iastI C X.length ht0 (ap_get _ _) (vp_d (by decide) (by decide)) (by decide) (X ++ [(q, .inl (cI, 96, .inl (pl [114, 101, 97, 99, 104, 101, 115, 32, 99, 111, 115, 116, 115])))]) (ap_set _ _ _) dX6_init_716 717 rfl ?_
  refine vv_dup C dX6_init_717 rfl 718 rfl ?_
  refine vv_bipush C (13 : Int32) dX6_init_718 (by decide) 720 rfl ?_
  refine vv_bipush C (32 : Int32) dX6_init_720 (by decide) 722 rfl ?_
  refine vv_iastI C X.length ht0 (ap_get _ _) (vp_d (by decide) (by decide)) (by decide) (X ++ [(q, .inl (cI, 96, .inl (pl [114, 101, 97, 99, 104, 101, 115, 32, 99, 111, 115, 116, 115, 32])))]) (ap_set _ _ _) dX6_init_722 723 rfl ?_
  refine vv_dup C dX6_init_723 rfl 724 rfl ?_
  refine vv_bipush C (14 : Int32) dX6_init_724 (by decide) 726 rfl ?_
  refine vv_bipush C (32 : Int32) dX6_init_726 (by decide) 728 rfl ?_
  refine vv_iastI C X.length ht0 (ap_get _ _) (vp_d (by decide) (by decide)) (by decide) (X ++ [(q, .inl (cI, 96, .inl (pl [114, 101, 97, 99, 104, 101, 115, 32, 99, 111, 115, 116, 115, 32, 32])))]) (ap_set _ _ _) dX6_init_728 729 rfl ?_
  refine vv_dup C dX6_init_729 rfl 730 rfl ?_
  refine vv_bipush C (15 : Int32) dX6_init_730 (by decide) 732 rfl ?_
  refine vv_bipush C (32 : Int32) dX6_init_732 (by decide) 734 rfl ?_
  refine vv_iastI C X.length ht0 (ap_get _ _) (vp_d (by decide) (by decide)) (by decide) (X ++ [(q, .inl (cI, 96, .inl (pl [114, 101, 97, 99, 104, 101, 115, 32, 99, 111, 115, 116, 115, 32, 32, 32])))]) (ap_set _ _ _) dX6_init_734 735 rfl ?_
  refine vv_dup C dX6_init_735 rfl 736 rfl ?_
  refine vv_bipush C (16 : Int32) dX6_init_736 (by decide) 738 rfl ?_
  refine vv_bipush C (102 : Int32) dX6_init_738 (by decide) 740 rfl ?_
  refine vv_iastI C X.length ht0 (ap_get _ _) (vp_d (by decide) (by decide)) (by decide) (X ++ [(q, .inl (cI, 96, .inl (pl [114, 101, 97, 99, 104, 101, 115, 32, 99, 111, 115, 116, 115, 32, 32, 32, 102])))]) (ap_set _ _ _) dX6_init_740 741 rfl ?_
  refine vv_dup C dX6_init_741 rfl 742 rfl ?_
  refine vv_bipush C (17 : Int32) dX6_init_742 (by decide) 744 rfl ?_
  refine vv_bipush C (97 : Int32) dX6_init_744 (by decide) 746 rfl ?_
  refine vv_iastI C X.length ht0 (ap_get _ _) (vp_d (by decide) (by decide)) (by decide) (X ++ [(q, .inl (cI, 96, .inl (pl [114, 101, 97, 99, 104, 101, 115, 32, 99, 111, 115, 116, 115, 32, 32, 32, 102, 97])))]) (ap_set _ _ _) dX6_init_746 747 rfl ?_
  refine vv_dup C dX6_init_747 rfl 748 rfl ?_
  refine vv_bipush C (18 : Int32) dX6_init_748 (by decide) 750 rfl ?_
  refine vv_bipush C (100 : Int32) dX6_init_750 (by decide) 752 rfl ?_
  refine vv_iastI C X.length ht0 (ap_get _ _) (vp_d (by decide) (by decide)) (by decide) (X ++ [(q, .inl (cI, 96, .inl (pl [114, 101, 97, 99, 104, 101, 115, 32, 99, 111, 115, 116, 115, 32, 32, 32, 102, 97, 100])))]) (ap_set _ _ _) dX6_init_752 753 rfl ?_
  refine vv_dup C dX6_init_753 rfl 754 rfl ?_
  refine vv_bipush C (19 : Int32) dX6_init_754 (by decide) 756 rfl ?_
  refine vv_bipush C (101 : Int32) dX6_init_756 (by decide) 758 rfl ?_
  refine vv_iastI C X.length ht0 (ap_get _ _) (vp_d (by decide) (by decide)) (by decide) (X ++ [(q, .inl (cI, 96, .inl (pl [114, 101, 97, 99, 104, 101, 115, 32, 99, 111, 115, 116, 115, 32, 32, 32, 102, 97, 100, 101])))]) (ap_set _ _ _) dX6_init_758 759 rfl ?_
  refine vv_dup C dX6_init_759 rfl 760 rfl ?_
  refine vv_bipush C (20 : Int32) dX6_init_760 (by decide) 762 rfl ?_
  refine vv_bipush C (115 : Int32) dX6_init_762 (by decide) 764 rfl ?_
  refine vv_iastI C X.length ht0 (ap_get _ _) (vp_d (by decide) (by decide)) (by decide) (X ++ [(q, .inl (cI, 96, .inl (pl [114, 101, 97, 99, 104, 101, 115, 32, 99, 111, 115, 116, 115, 32, 32, 32, 102, 97, 100, 101, 115])))]) (ap_set _ _ _) dX6_init_764 765 rfl ?_
  refine vv_dup C dX6_init_765 rfl 766 rfl ?_
  refine vv_bipush C (21 : Int32) dX6_init_766 (by decide) 768 rfl ?_
  refine vv_bipush C (32 : Int32) dX6_init_768 (by decide) 770 rfl ?_
  refine vv_iastI C X.length ht0 (ap_get _ _) (vp_d (by decide) (by decide)) (by decide) (X ++ [(q, .inl (cI, 96, .inl (pl [114, 101, 97, 99, 104, 101, 115, 32, 99, 111, 115, 116, 115, 32, 32, 32, 102, 97, 100, 101, 115, 32])))]) (ap_set _ _ _) dX6_init_770 771 rfl ?_
  refine vv_dup C dX6_init_771 rfl 772 rfl ?_
  refine vv_bipush C (22 : Int32) dX6_init_772 (by decide) 774 rfl ?_
  refine vv_bipush C (32 : Int32) dX6_init_774 (by decide) 776 rfl ?_
  refine vv_iastI C X.length ht0 (ap_get _ _) (vp_d (by decide) (by decide)) (by decide) (X ++ [(q, .inl (cI, 96, .inl (pl [114, 101, 97, 99, 104, 101, 115, 32, 99, 111, 115, 116, 115, 32, 32, 32, 102, 97, 100, 101, 115, 32, 32])))]) (ap_set _ _ _) dX6_init_776 777 rfl ?_
  refine vv_dup C dX6_init_777 rfl 778 rfl ?_
  refine vv_bipush C (23 : Int32) dX6_init_778 (by decide) 780 rfl ?_
  refine vv_bipush C (32 : Int32) dX6_init_780 (by decide) 782 rfl ?_
  refine vv_iastI C X.length ht0 (ap_get _ _) (vp_d (by decide) (by decide)) (by decide) (X ++ [(q, .inl (cI, 96, .inl (pl [114, 101, 97, 99, 104, 101, 115, 32, 99, 111, 115, 116, 115, 32, 32, 32, 102, 97, 100, 101, 115, 32, 32, 32])))]) (ap_set _ _ _) dX6_init_782 783 rfl ?_
  refine vv_dup C dX6_init_783 rfl 784 rfl ?_
  refine vv_bipush C (24 : Int32) dX6_init_784 (by decide) 786 rfl ?_
  refine vv_bipush C (98 : Int32) dX6_init_786 (by decide) 788 rfl ?_
  refine vv_iastI C X.length ht0 (ap_get _ _) (vp_d (by decide) (by decide)) (by decide) (X ++ [(q, .inl (cI, 96, .inl (pl [114, 101, 97, 99, 104, 101, 115, 32, 99, 111, 115, 116, 115, 32, 32, 32, 102, 97, 100, 101, 115, 32, 32, 32, 98])))]) (ap_set _ _ _) dX6_init_788 789 rfl ?_
  refine vv_dup C dX6_init_789 rfl 790 rfl ?_
  refine vv_bipush C (25 : Int32) dX6_init_790 (by decide) 792 rfl ?_
  refine vv_bipush C (114 : Int32) dX6_init_792 (by decide) 794 rfl ?_
  refine vv_iastI C X.length ht0 (ap_get _ _) (vp_d (by decide) (by decide)) (by decide) (X ++ [(q, .inl (cI, 96, .inl (pl [114, 101, 97, 99, 104, 101, 115, 32, 99, 111, 115, 116, 115, 32, 32, 32, 102, 97, 100, 101, 115, 32, 32, 32, 98, 114])))]) (ap_set _ _ _) dX6_init_794 795 rfl ?_
  refine vv_dup C dX6_init_795 rfl 796 rfl ?_
  refine vv_bipush C (26 : Int32) dX6_init_796 (by decide) 798 rfl ?_
  refine vv_bipush C (101 : Int32) dX6_init_798 (by decide) 800 rfl ?_
  refine vv_iastI C X.length ht0 (ap_get _ _) (vp_d (by decide) (by decide)) (by decide) (X ++ [(q, .inl (cI, 96, .inl (pl [114, 101, 97, 99, 104, 101, 115, 32, 99, 111, 115, 116, 115, 32, 32, 32, 102, 97, 100, 101, 115, 32, 32, 32, 98, 114, 101])))]) (ap_set _ _ _) dX6_init_800 801 rfl ?_
  refine vv_dup C dX6_init_801 rfl 802 rfl ?_
  refine vv_bipush C (27 : Int32) dX6_init_802 (by decide) 804 rfl ?_
  refine vv_bipush C (97 : Int32) dX6_init_804 (by decide) 806 rfl ?_
  refine vv_iastI C X.length ht0 (ap_get _ _) (vp_d (by decide) (by decide)) (by decide) (X ++ [(q, .inl (cI, 96, .inl (pl [114, 101, 97, 99, 104, 101, 115, 32, 99, 111, 115, 116, 115, 32, 32, 32, 102, 97, 100, 101, 115, 32, 32, 32, 98, 114, 101, 97])))]) (ap_set _ _ _) dX6_init_806 807 rfl ?_
  refine vv_dup C dX6_init_807 rfl 808 rfl ?_
  refine vv_bipush C (28 : Int32) dX6_init_808 (by decide) 810 rfl ?_
  refine vv_bipush C (116 : Int32) dX6_init_810 (by decide) 812 rfl ?_
  refine vv_iastI C X.length ht0 (ap_get _ _) (vp_d (by decide) (by decide)) (by decide) (X ++ [(q, .inl (cI, 96, .inl (pl [114, 101, 97, 99, 104, 101, 115, 32, 99, 111, 115, 116, 115, 32, 32, 32, 102, 97, 100, 101, 115, 32, 32, 32, 98, 114, 101, 97, 116])))]) (ap_set _ _ _) dX6_init_812 813 rfl ?_
  refine vv_dup C dX6_init_813 rfl 814 rfl ?_
  refine vv_bipush C (29 : Int32) dX6_init_814 (by decide) 816 rfl ?_
  refine vv_bipush C (104 : Int32) dX6_init_816 (by decide) 818 rfl ?_
  refine vv_iastI C X.length ht0 (ap_get _ _) (vp_d (by decide) (by decide)) (by decide) (X ++ [(q, .inl (cI, 96, .inl (pl [114, 101, 97, 99, 104, 101, 115, 32, 99, 111, 115, 116, 115, 32, 32, 32, 102, 97, 100, 101, 115, 32, 32, 32, 98, 114, 101, 97, 116, 104])))]) (ap_set _ _ _) dX6_init_818 819 rfl ?_
  refine vv_dup C dX6_init_819 rfl 820 rfl ?_
  refine vv_bipush C (30 : Int32) dX6_init_820 (by decide) 822 rfl ?_
  refine vv_bipush C (32 : Int32) dX6_init_822 (by decide) 824 rfl ?_
  refine vv_iastI C X.length ht0 (ap_get _ _) (vp_d (by decide) (by decide)) (by decide) (X ++ [(q, .inl (cI, 96, .inl (pl [114, 101, 97, 99, 104, 101, 115, 32, 99, 111, 115, 116, 115, 32, 32, 32, 102, 97, 100, 101, 115, 32, 32, 32, 98, 114, 101, 97, 116, 104, 32])))]) (ap_set _ _ _) dX6_init_824 825 rfl ?_
  refine vv_dup C dX6_init_825 rfl 826 rfl ?_
  refine vv_bipush C (31 : Int32) dX6_init_826 (by decide) 828 rfl ?_
  refine vv_bipush C (32 : Int32) dX6_init_828 (by decide) 830 rfl ?_
  refine vv_iastI C X.length ht0 (ap_get _ _) (vp_d (by decide) (by decide)) (by decide) (X ++ [(q, .inl (cI, 96, .inl (pl [114, 101, 97, 99, 104, 101, 115, 32, 99, 111, 115, 116, 115, 32, 32, 32, 102, 97, 100, 101, 115, 32, 32, 32, 98, 114, 101, 97, 116, 104, 32, 32])))]) (ap_set _ _ _) dX6_init_830 831 rfl ?_
  refine vv_dup C dX6_init_831 rfl 832 rfl ?_
  refine vv_bipush C (32 : Int32) dX6_init_832 (by decide) 834 rfl ?_
  refine vv_bipush C (100 : Int32) dX6_init_834 (by decide) 836 rfl ?_
  refine vv_iastI C X.length ht0 (ap_get _ _) (vp_d (by decide) (by decide)) (by decide) (X ++ [(q, .inl (cI, 96, .inl (pl [114, 101, 97, 99, 104, 101, 115, 32, 99, 111, 115, 116, 115, 32, 32, 32, 102, 97, 100, 101, 115, 32, 32, 32, 98, 114, 101, 97, 116, 104, 32, 32, 100])))]) (ap_set _ _ _) dX6_init_836 837 rfl ?_
  refine vv_dup C dX6_init_837 rfl 838 rfl ?_
  refine vv_bipush C (33 : Int32) dX6_init_838 (by decide) 840 rfl ?_
  refine vv_bipush C (101 : Int32) dX6_init_840 (by decide) 842 rfl ?_
  refine vv_iastI C X.length ht0 (ap_get _ _) (vp_d (by decide) (by decide)) (by decide) (X ++ [(q, .inl (cI, 96, .inl (pl [114, 101, 97, 99, 104, 101, 115, 32, 99, 111, 115, 116, 115, 32, 32, 32, 102, 97, 100, 101, 115, 32, 32, 32, 98, 114, 101, 97, 116, 104, 32, 32, 100, 101])))]) (ap_set _ _ _) dX6_init_842 843 rfl ?_
  refine vv_dup C dX6_init_843 rfl 844 rfl ?_
  refine vv_bipush C (34 : Int32) dX6_init_844 (by decide) 846 rfl ?_
  refine vv_bipush C (101 : Int32) dX6_init_846 (by decide) 848 rfl ?_
  refine vv_iastI C X.length ht0 (ap_get _ _) (vp_d (by decide) (by decide)) (by decide) (X ++ [(q, .inl (cI, 96, .inl (pl [114, 101, 97, 99, 104, 101, 115, 32, 99, 111, 115, 116, 115, 32, 32, 32, 102, 97, 100, 101, 115, 32, 32, 32, 98, 114, 101, 97, 116, 104, 32, 32, 100, 101, 101])))]) (ap_set _ _ _) dX6_init_848 849 rfl ?_
  refine vv_dup C dX6_init_849 rfl 850 rfl ?_
  refine vv_bipush C (35 : Int32) dX6_init_850 (by decide) 852 rfl ?_
  refine vv_bipush C (112 : Int32) dX6_init_852 (by decide) 854 rfl ?_
  refine vv_iastI C X.length ht0 (ap_get _ _) (vp_d (by decide) (by decide)) (by decide) (X ++ [(q, .inl (cI, 96, .inl (pl [114, 101, 97, 99, 104, 101, 115, 32, 99, 111, 115, 116, 115, 32, 32, 32, 102, 97, 100, 101, 115, 32, 32, 32, 98, 114, 101, 97, 116, 104, 32, 32, 100, 101, 101, 112])))]) (ap_set _ _ _) dX6_init_854 855 rfl ?_
  refine vv_dup C dX6_init_855 rfl 856 rfl ?_
  refine vv_bipush C (36 : Int32) dX6_init_856 (by decide) 858 rfl ?_
  refine vv_bipush C (32 : Int32) dX6_init_858 (by decide) 860 rfl ?_
  refine vv_iastI C X.length ht0 (ap_get _ _) (vp_d (by decide) (by decide)) (by decide) (X ++ [(q, .inl (cI, 96, .inl (pl [114, 101, 97, 99, 104, 101, 115, 32, 99, 111, 115, 116, 115, 32, 32, 32, 102, 97, 100, 101, 115, 32, 32, 32, 98, 114, 101, 97, 116, 104, 32, 32, 100, 101, 101, 112, 32])))]) (ap_set _ _ _) dX6_init_860 861 rfl ?_
  refine vv_dup C dX6_init_861 rfl 862 rfl ?_
  refine vv_bipush C (37 : Int32) dX6_init_862 (by decide) 864 rfl ?_
  refine vv_bipush C (32 : Int32) dX6_init_864 (by decide) 866 rfl ?_
  refine vv_iastI C X.length ht0 (ap_get _ _) (vp_d (by decide) (by decide)) (by decide) (X ++ [(q, .inl (cI, 96, .inl (pl [114, 101, 97, 99, 104, 101, 115, 32, 99, 111, 115, 116, 115, 32, 32, 32, 102, 97, 100, 101, 115, 32, 32, 32, 98, 114, 101, 97, 116, 104, 32, 32, 100, 101, 101, 112, 32, 32])))]) (ap_set _ _ _) dX6_init_866 867 rfl ?_
  refine vv_dup C dX6_init_867 rfl 868 rfl ?_
  refine vv_bipush C (38 : Int32) dX6_init_868 (by decide) 870 rfl ?_
  refine vv_bipush C (32 : Int32) dX6_init_870 (by decide) 872 rfl ?_
  refine vv_iastI C X.length ht0 (ap_get _ _) (vp_d (by decide) (by decide)) (by decide) (X ++ [(q, .inl (cI, 96, .inl (pl [114, 101, 97, 99, 104, 101, 115, 32, 99, 111, 115, 116, 115, 32, 32, 32, 102, 97, 100, 101, 115, 32, 32, 32, 98, 114, 101, 97, 116, 104, 32, 32, 100, 101, 101, 112, 32, 32, 32])))]) (ap_set _ _ _) dX6_init_872 873 rfl ?_
  refine vv_dup C dX6_init_873 rfl 874 rfl ?_
  refine vv_bipush C (39 : Int32) dX6_init_874 (by decide) 876 rfl ?_
  refine vv_bipush C (32 : Int32) dX6_init_876 (by decide) 878 rfl ?_
  refine vv_iastI C X.length ht0 (ap_get _ _) (vp_d (by decide) (by decide)) (by decide) (X ++ [(q, .inl (cI, 96, .inl (pl [114, 101, 97, 99, 104, 101, 115, 32, 99, 111, 115, 116, 115, 32, 32, 32, 102, 97, 100, 101, 115, 32, 32, 32, 98, 114, 101, 97, 116, 104, 32, 32, 100, 101, 101, 112, 32, 32, 32, 32])))]) (ap_set _ _ _) dX6_init_878 879 rfl ?_
  refine vv_dup C dX6_init_879 rfl 880 rfl ?_
  refine vv_bipush C (40 : Int32) dX6_init_880 (by decide) 882 rfl ?_
  refine vv_bipush C (115 : Int32) dX6_init_882 (by decide) 884 rfl ?_
  refine vv_iastI C X.length ht0 (ap_get _ _) (vp_d (by decide) (by decide)) (by decide) (X ++ [(q, .inl (cI, 96, .inl (pl [114, 101, 97, 99, 104, 101, 115, 32, 99, 111, 115, 116, 115, 32, 32, 32, 102, 97, 100, 101, 115, 32, 32, 32, 98, 114, 101, 97, 116, 104, 32, 32, 100, 101, 101, 112, 32, 32, 32, 32, 115])))]) (ap_set _ _ _) dX6_init_884 885 rfl ?_
  refine vv_dup C dX6_init_885 rfl 886 rfl ?_
  refine vv_bipush C (41 : Int32) dX6_init_886 (by decide) 888 rfl ?_
  refine vv_bipush C (116 : Int32) dX6_init_888 (by decide) 890 rfl ?_
  refine vv_iastI C X.length ht0 (ap_get _ _) (vp_d (by decide) (by decide)) (by decide) (X ++ [(q, .inl (cI, 96, .inl (pl [114, 101, 97, 99, 104, 101, 115, 32, 99, 111, 115, 116, 115, 32, 32, 32, 102, 97, 100, 101, 115, 32, 32, 32, 98, 114, 101, 97, 116, 104, 32, 32, 100, 101, 101, 112, 32, 32, 32, 32, 115, 116])))]) (ap_set _ _ _) dX6_init_890 891 rfl ?_
  refine vv_dup C dX6_init_891 rfl 892 rfl ?_
  refine vv_bipush C (42 : Int32) dX6_init_892 (by decide) 894 rfl ?_
  refine vv_bipush C (114 : Int32) dX6_init_894 (by decide) 896 rfl ?_
  refine vv_iastI C X.length ht0 (ap_get _ _) (vp_d (by decide) (by decide)) (by decide) (X ++ [(q, .inl (cI, 96, .inl (pl [114, 101, 97, 99, 104, 101, 115, 32, 99, 111, 115, 116, 115, 32, 32, 32, 102, 97, 100, 101, 115, 32, 32, 32, 98, 114, 101, 97, 116, 104, 32, 32, 100, 101, 101, 112, 32, 32, 32, 32, 115, 116, 114])))]) (ap_set _ _ _) dX6_init_896 897 rfl ?_
  refine vv_dup C dX6_init_897 rfl 898 rfl ?_
  refine vv_bipush C (43 : Int32) dX6_init_898 (by decide) 900 rfl ?_
  refine vv_bipush C (111 : Int32) dX6_init_900 (by decide) 902 rfl ?_
  refine vv_iastI C X.length ht0 (ap_get _ _) (vp_d (by decide) (by decide)) (by decide) (X ++ [(q, .inl (cI, 96, .inl (pl [114, 101, 97, 99, 104, 101, 115, 32, 99, 111, 115, 116, 115, 32, 32, 32, 102, 97, 100, 101, 115, 32, 32, 32, 98, 114, 101, 97, 116, 104, 32, 32, 100, 101, 101, 112, 32, 32, 32, 32, 115, 116, 114, 111])))]) (ap_set _ _ _) dX6_init_902 903 rfl ?_
  refine vv_dup C dX6_init_903 rfl 904 rfl ?_
  refine vv_bipush C (44 : Int32) dX6_init_904 (by decide) 906 rfl ?_
  refine vv_bipush C (110 : Int32) dX6_init_906 (by decide) 908 rfl ?_
  refine vv_iastI C X.length ht0 (ap_get _ _) (vp_d (by decide) (by decide)) (by decide) (X ++ [(q, .inl (cI, 96, .inl (pl [114, 101, 97, 99, 104, 101, 115, 32, 99, 111, 115, 116, 115, 32, 32, 32, 102, 97, 100, 101, 115, 32, 32, 32, 98, 114, 101, 97, 116, 104, 32, 32, 100, 101, 101, 112, 32, 32, 32, 32, 115, 116, 114, 111, 110])))]) (ap_set _ _ _) dX6_init_908 909 rfl ?_
  refine vv_dup C dX6_init_909 rfl 910 rfl ?_
  refine vv_bipush C (45 : Int32) dX6_init_910 (by decide) 912 rfl ?_
  refine vv_bipush C (103 : Int32) dX6_init_912 (by decide) 914 rfl ?_
  refine vv_iastI C X.length ht0 (ap_get _ _) (vp_d (by decide) (by decide)) (by decide) (X ++ [(q, .inl (cI, 96, .inl (pl [114, 101, 97, 99, 104, 101, 115, 32, 99, 111, 115, 116, 115, 32, 32, 32, 102, 97, 100, 101, 115, 32, 32, 32, 98, 114, 101, 97, 116, 104, 32, 32, 100, 101, 101, 112, 32, 32, 32, 32, 115, 116, 114, 111, 110, 103])))]) (ap_set _ _ _) dX6_init_914 915 rfl ?_
  refine vv_dup C dX6_init_915 rfl 916 rfl ?_
  refine vv_bipush C (46 : Int32) dX6_init_916 (by decide) 918 rfl ?_
  refine vv_bipush C (32 : Int32) dX6_init_918 (by decide) 920 rfl ?_
  refine vv_iastI C X.length ht0 (ap_get _ _) (vp_d (by decide) (by decide)) (by decide) (X ++ [(q, .inl (cI, 96, .inl (pl [114, 101, 97, 99, 104, 101, 115, 32, 99, 111, 115, 116, 115, 32, 32, 32, 102, 97, 100, 101, 115, 32, 32, 32, 98, 114, 101, 97, 116, 104, 32, 32, 100, 101, 101, 112, 32, 32, 32, 32, 115, 116, 114, 111, 110, 103, 32])))]) (ap_set _ _ _) dX6_init_920 921 rfl ?_
  refine vv_dup C dX6_init_921 rfl 922 rfl ?_
  refine vv_bipush C (47 : Int32) dX6_init_922 (by decide) 924 rfl ?_
  refine vv_bipush C (32 : Int32) dX6_init_924 (by decide) 926 rfl ?_
  refine vv_iastI C X.length ht0 (ap_get _ _) (vp_d (by decide) (by decide)) (by decide) (X ++ [(q, .inl (cI, 96, .inl (pl [114, 101, 97, 99, 104, 101, 115, 32, 99, 111, 115, 116, 115, 32, 32, 32, 102, 97, 100, 101, 115, 32, 32, 32, 98, 114, 101, 97, 116, 104, 32, 32, 100, 101, 101, 112, 32, 32, 32, 32, 115, 116, 114, 111, 110, 103, 32, 32])))]) (ap_set _ _ _) dX6_init_926 927 rfl ?_
  refine vv_dup C dX6_init_927 rfl 928 rfl ?_
  refine vv_bipush C (48 : Int32) dX6_init_928 (by decide) 930 rfl ?_
  refine vv_bipush C (115 : Int32) dX6_init_930 (by decide) 932 rfl ?_
  refine vv_iastI C X.length ht0 (ap_get _ _) (vp_d (by decide) (by decide)) (by decide) (X ++ [(q, .inl (cI, 96, .inl (pl [114, 101, 97, 99, 104, 101, 115, 32, 99, 111, 115, 116, 115, 32, 32, 32, 102, 97, 100, 101, 115, 32, 32, 32, 98, 114, 101, 97, 116, 104, 32, 32, 100, 101, 101, 112, 32, 32, 32, 32, 115, 116, 114, 111, 110, 103, 32, 32, 115])))]) (ap_set _ _ _) dX6_init_932 933 rfl ?_
  refine vv_dup C dX6_init_933 rfl 934 rfl ?_
  refine vv_bipush C (49 : Int32) dX6_init_934 (by decide) 936 rfl ?_
  refine vv_bipush C (111 : Int32) dX6_init_936 (by decide) 938 rfl ?_
  refine vv_iastI C X.length ht0 (ap_get _ _) (vp_d (by decide) (by decide)) (by decide) (X ++ [(q, .inl (cI, 96, .inl (pl [114, 101, 97, 99, 104, 101, 115, 32, 99, 111, 115, 116, 115, 32, 32, 32, 102, 97, 100, 101, 115, 32, 32, 32, 98, 114, 101, 97, 116, 104, 32, 32, 100, 101, 101, 112, 32, 32, 32, 32, 115, 116, 114, 111, 110, 103, 32, 32, 115, 111])))]) (ap_set _ _ _) dX6_init_938 939 rfl ?_
  refine vv_dup C dX6_init_939 rfl 940 rfl ?_
  refine vv_bipush C (50 : Int32) dX6_init_940 (by decide) 942 rfl ?_
  refine vv_bipush C (114 : Int32) dX6_init_942 (by decide) 944 rfl ?_
  refine vv_iastI C X.length ht0 (ap_get _ _) (vp_d (by decide) (by decide)) (by decide) (X ++ [(q, .inl (cI, 96, .inl (pl [114, 101, 97, 99, 104, 101, 115, 32, 99, 111, 115, 116, 115, 32, 32, 32, 102, 97, 100, 101, 115, 32, 32, 32, 98, 114, 101, 97, 116, 104, 32, 32, 100, 101, 101, 112, 32, 32, 32, 32, 115, 116, 114, 111, 110, 103, 32, 32, 115, 111, 114])))]) (ap_set _ _ _) dX6_init_944 945 rfl ?_
  refine vv_dup C dX6_init_945 rfl 946 rfl ?_
  refine vv_bipush C (51 : Int32) dX6_init_946 (by decide) 948 rfl ?_
  refine vv_bipush C (116 : Int32) dX6_init_948 (by decide) 950 rfl ?_
  refine vv_iastI C X.length ht0 (ap_get _ _) (vp_d (by decide) (by decide)) (by decide) (X ++ [(q, .inl (cI, 96, .inl (pl [114, 101, 97, 99, 104, 101, 115, 32, 99, 111, 115, 116, 115, 32, 32, 32, 102, 97, 100, 101, 115, 32, 32, 32, 98, 114, 101, 97, 116, 104, 32, 32, 100, 101, 101, 112, 32, 32, 32, 32, 115, 116, 114, 111, 110, 103, 32, 32, 115, 111, 114, 116])))]) (ap_set _ _ _) dX6_init_950 951 rfl ?_
  refine vv_dup C dX6_init_951 rfl 952 rfl ?_
  refine vv_bipush C (52 : Int32) dX6_init_952 (by decide) 954 rfl ?_
  refine vv_bipush C (32 : Int32) dX6_init_954 (by decide) 956 rfl ?_
  refine vv_iastI C X.length ht0 (ap_get _ _) (vp_d (by decide) (by decide)) (by decide) (X ++ [(q, .inl (cI, 96, .inl (pl [114, 101, 97, 99, 104, 101, 115, 32, 99, 111, 115, 116, 115, 32, 32, 32, 102, 97, 100, 101, 115, 32, 32, 32, 98, 114, 101, 97, 116, 104, 32, 32, 100, 101, 101, 112, 32, 32, 32, 32, 115, 116, 114, 111, 110, 103, 32, 32, 115, 111, 114, 116, 32])))]) (ap_set _ _ _) dX6_init_956 957 rfl ?_
  refine vv_dup C dX6_init_957 rfl 958 rfl ?_
  refine vv_bipush C (53 : Int32) dX6_init_958 (by decide) 960 rfl ?_
  refine vv_bipush C (32 : Int32) dX6_init_960 (by decide) 962 rfl ?_
  refine vv_iastI C X.length ht0 (ap_get _ _) (vp_d (by decide) (by decide)) (by decide) (X ++ [(q, .inl (cI, 96, .inl (pl [114, 101, 97, 99, 104, 101, 115, 32, 99, 111, 115, 116, 115, 32, 32, 32, 102, 97, 100, 101, 115, 32, 32, 32, 98, 114, 101, 97, 116, 104, 32, 32, 100, 101, 101, 112, 32, 32, 32, 32, 115, 116, 114, 111, 110, 103, 32, 32, 115, 111, 114, 116, 32, 32])))]) (ap_set _ _ _) dX6_init_962 963 rfl ?_
  refine vv_dup C dX6_init_963 rfl 964 rfl ?_
  refine vv_bipush C (54 : Int32) dX6_init_964 (by decide) 966 rfl ?_
  refine vv_bipush C (32 : Int32) dX6_init_966 (by decide) 968 rfl ?_
  refine vv_iastI C X.length ht0 (ap_get _ _) (vp_d (by decide) (by decide)) (by decide) (X ++ [(q, .inl (cI, 96, .inl (pl [114, 101, 97, 99, 104, 101, 115, 32, 99, 111, 115, 116, 115, 32, 32, 32, 102, 97, 100, 101, 115, 32, 32, 32, 98, 114, 101, 97, 116, 104, 32, 32, 100, 101, 101, 112, 32, 32, 32, 32, 115, 116, 114, 111, 110, 103, 32, 32, 115, 111, 114, 116, 32, 32, 32])))]) (ap_set _ _ _) dX6_init_968 969 rfl ?_
  refine vv_dup C dX6_init_969 rfl 970 rfl ?_
  refine vv_bipush C (55 : Int32) dX6_init_970 (by decide) 972 rfl ?_
  refine vv_bipush C (32 : Int32) dX6_init_972 (by decide) 974 rfl ?_
  refine vv_iastI C X.length ht0 (ap_get _ _) (vp_d (by decide) (by decide)) (by decide) (X ++ [(q, .inl (cI, 96, .inl (pl [114, 101, 97, 99, 104, 101, 115, 32, 99, 111, 115, 116, 115, 32, 32, 32, 102, 97, 100, 101, 115, 32, 32, 32, 98, 114, 101, 97, 116, 104, 32, 32, 100, 101, 101, 112, 32, 32, 32, 32, 115, 116, 114, 111, 110, 103, 32, 32, 115, 111, 114, 116, 32, 32, 32, 32])))]) (ap_set _ _ _) dX6_init_974 975 rfl ?_
  refine vv_dup C dX6_init_975 rfl 976 rfl ?_
  refine vv_bipush C (56 : Int32) dX6_init_976 (by decide) 978 rfl ?_
  refine vv_bipush C (104 : Int32) dX6_init_978 (by decide) 980 rfl ?_
  refine vv_iastI C X.length ht0 (ap_get _ _) (vp_d (by decide) (by decide)) (by decide) (X ++ [(q, .inl (cI, 96, .inl (pl [114, 101, 97, 99, 104, 101, 115, 32, 99, 111, 115, 116, 115, 32, 32, 32, 102, 97, 100, 101, 115, 32, 32, 32, 98, 114, 101, 97, 116, 104, 32, 32, 100, 101, 101, 112, 32, 32, 32, 32, 115, 116, 114, 111, 110, 103, 32, 32, 115, 111, 114, 116, 32, 32, 32, 32, 104])))]) (ap_set _ _ _) dX6_init_980 981 rfl ?_
  refine vv_dup C dX6_init_981 rfl 982 rfl ?_
  refine vv_bipush C (57 : Int32) dX6_init_982 (by decide) 984 rfl ?_
  refine vv_bipush C (111 : Int32) dX6_init_984 (by decide) 986 rfl ?_
  refine vv_iastI C X.length ht0 (ap_get _ _) (vp_d (by decide) (by decide)) (by decide) (X ++ [(q, .inl (cI, 96, .inl (pl [114, 101, 97, 99, 104, 101, 115, 32, 99, 111, 115, 116, 115, 32, 32, 32, 102, 97, 100, 101, 115, 32, 32, 32, 98, 114, 101, 97, 116, 104, 32, 32, 100, 101, 101, 112, 32, 32, 32, 32, 115, 116, 114, 111, 110, 103, 32, 32, 115, 111, 114, 116, 32, 32, 32, 32, 104, 111])))]) (ap_set _ _ _) dX6_init_986 987 rfl ?_
  refine vv_dup C dX6_init_987 rfl 988 rfl ?_
  refine vv_bipush C (58 : Int32) dX6_init_988 (by decide) 990 rfl ?_
  refine vv_bipush C (117 : Int32) dX6_init_990 (by decide) 992 rfl ?_
  refine vv_iastI C X.length ht0 (ap_get _ _) (vp_d (by decide) (by decide)) (by decide) (X ++ [(q, .inl (cI, 96, .inl (pl [114, 101, 97, 99, 104, 101, 115, 32, 99, 111, 115, 116, 115, 32, 32, 32, 102, 97, 100, 101, 115, 32, 32, 32, 98, 114, 101, 97, 116, 104, 32, 32, 100, 101, 101, 112, 32, 32, 32, 32, 115, 116, 114, 111, 110, 103, 32, 32, 115, 111, 114, 116, 32, 32, 32, 32, 104, 111, 117])))]) (ap_set _ _ _) dX6_init_992 993 rfl ?_
  refine vv_dup C dX6_init_993 rfl 994 rfl ?_
  refine vv_bipush C (59 : Int32) dX6_init_994 (by decide) 996 rfl ?_
  refine vv_bipush C (114 : Int32) dX6_init_996 (by decide) 998 rfl ?_
  refine vv_iastI C X.length ht0 (ap_get _ _) (vp_d (by decide) (by decide)) (by decide) (X ++ [(q, .inl (cI, 96, .inl (pl [114, 101, 97, 99, 104, 101, 115, 32, 99, 111, 115, 116, 115, 32, 32, 32, 102, 97, 100, 101, 115, 32, 32, 32, 98, 114, 101, 97, 116, 104, 32, 32, 100, 101, 101, 112, 32, 32, 32, 32, 115, 116, 114, 111, 110, 103, 32, 32, 115, 111, 114, 116, 32, 32, 32, 32, 104, 111, 117, 114])))]) (ap_set _ _ _) dX6_init_998 999 rfl ?_
  refine vv_dup C dX6_init_999 rfl 1000 rfl ?_
  refine vv_bipush C (60 : Int32) dX6_init_1000 (by decide) 1002 rfl ?_
  refine vv_bipush C (32 : Int32) dX6_init_1002 (by decide) 1004 rfl ?_
  refine vv_iastI C X.length ht0 (ap_get _ _) (vp_d (by decide) (by decide)) (by decide) (X ++ [(q, .inl (cI, 96, .inl (pl [114, 101, 97, 99, 104, 101, 115, 32, 99, 111, 115, 116, 115, 32, 32, 32, 102, 97, 100, 101, 115, 32, 32, 32, 98, 114, 101, 97, 116, 104, 32, 32, 100, 101, 101, 112, 32, 32, 32, 32, 115, 116, 114, 111, 110, 103, 32, 32, 115, 111, 114, 116, 32, 32, 32, 32, 104, 111, 117, 114, 32])))]) (ap_set _ _ _) dX6_init_1004 1005 rfl ?_
  refine vv_dup C dX6_init_1005 rfl 1006 rfl ?_
  refine vv_bipush C (61 : Int32) dX6_init_1006 (by decide) 1008 rfl ?_
  refine vv_bipush C (32 : Int32) dX6_init_1008 (by decide) 1010 rfl ?_
  refine vv_iastI C X.length ht0 (ap_get _ _) (vp_d (by decide) (by decide)) (by decide) (X ++ [(q, .inl (cI, 96, .inl (pl [114, 101, 97, 99, 104, 101, 115, 32, 99, 111, 115, 116, 115, 32, 32, 32, 102, 97, 100, 101, 115, 32, 32, 32, 98, 114, 101, 97, 116, 104, 32, 32, 100, 101, 101, 112, 32, 32, 32, 32, 115, 116, 114, 111, 110, 103, 32, 32, 115, 111, 114, 116, 32, 32, 32, 32, 104, 111, 117, 114, 32, 32])))]) (ap_set _ _ _) dX6_init_1010 1011 rfl ?_
  refine vv_dup C dX6_init_1011 rfl 1012 rfl ?_
  refine vv_bipush C (62 : Int32) dX6_init_1012 (by decide) 1014 rfl ?_
  refine vv_bipush C (32 : Int32) dX6_init_1014 (by decide) 1016 rfl ?_
  refine vv_iastI C X.length ht0 (ap_get _ _) (vp_d (by decide) (by decide)) (by decide) (X ++ [(q, .inl (cI, 96, .inl (pl [114, 101, 97, 99, 104, 101, 115, 32, 99, 111, 115, 116, 115, 32, 32, 32, 102, 97, 100, 101, 115, 32, 32, 32, 98, 114, 101, 97, 116, 104, 32, 32, 100, 101, 101, 112, 32, 32, 32, 32, 115, 116, 114, 111, 110, 103, 32, 32, 115, 111, 114, 116, 32, 32, 32, 32, 104, 111, 117, 114, 32, 32, 32])))]) (ap_set _ _ _) dX6_init_1016 1017 rfl ?_
  refine vv_dup C dX6_init_1017 rfl 1018 rfl ?_
  refine vv_bipush C (63 : Int32) dX6_init_1018 (by decide) 1020 rfl ?_
  refine vv_bipush C (32 : Int32) dX6_init_1020 (by decide) 1022 rfl ?_
  refine vv_iastI C X.length ht0 (ap_get _ _) (vp_d (by decide) (by decide)) (by decide) (X ++ [(q, .inl (cI, 96, .inl (pl [114, 101, 97, 99, 104, 101, 115, 32, 99, 111, 115, 116, 115, 32, 32, 32, 102, 97, 100, 101, 115, 32, 32, 32, 98, 114, 101, 97, 116, 104, 32, 32, 100, 101, 101, 112, 32, 32, 32, 32, 115, 116, 114, 111, 110, 103, 32, 32, 115, 111, 114, 116, 32, 32, 32, 32, 104, 111, 117, 114, 32, 32, 32, 32])))]) (ap_set _ _ _) dX6_init_1022 1023 rfl ?_
  refine vv_dup C dX6_init_1023 rfl 1024 rfl ?_
  refine vv_bipush C (64 : Int32) dX6_init_1024 (by decide) 1026 rfl ?_
  refine vv_bipush C (109 : Int32) dX6_init_1026 (by decide) 1028 rfl ?_
  refine vv_iastI C X.length ht0 (ap_get _ _) (vp_d (by decide) (by decide)) (by decide) (X ++ [(q, .inl (cI, 96, .inl (pl [114, 101, 97, 99, 104, 101, 115, 32, 99, 111, 115, 116, 115, 32, 32, 32, 102, 97, 100, 101, 115, 32, 32, 32, 98, 114, 101, 97, 116, 104, 32, 32, 100, 101, 101, 112, 32, 32, 32, 32, 115, 116, 114, 111, 110, 103, 32, 32, 115, 111, 114, 116, 32, 32, 32, 32, 104, 111, 117, 114, 32, 32, 32, 32, 109])))]) (ap_set _ _ _) dX6_init_1028 1029 rfl ?_
  refine vv_dup C dX6_init_1029 rfl 1030 rfl ?_
  refine vv_bipush C (65 : Int32) dX6_init_1030 (by decide) 1032 rfl ?_
  refine vv_bipush C (111 : Int32) dX6_init_1032 (by decide) 1034 rfl ?_
  refine vv_iastI C X.length ht0 (ap_get _ _) (vp_d (by decide) (by decide)) (by decide) (X ++ [(q, .inl (cI, 96, .inl (pl [114, 101, 97, 99, 104, 101, 115, 32, 99, 111, 115, 116, 115, 32, 32, 32, 102, 97, 100, 101, 115, 32, 32, 32, 98, 114, 101, 97, 116, 104, 32, 32, 100, 101, 101, 112, 32, 32, 32, 32, 115, 116, 114, 111, 110, 103, 32, 32, 115, 111, 114, 116, 32, 32, 32, 32, 104, 111, 117, 114, 32, 32, 32, 32, 109, 111])))]) (ap_set _ _ _) dX6_init_1034 1035 rfl ?_
  refine vv_dup C dX6_init_1035 rfl 1036 rfl ?_
  refine vv_bipush C (66 : Int32) dX6_init_1036 (by decide) 1038 rfl ?_
  refine vv_bipush C (114 : Int32) dX6_init_1038 (by decide) 1040 rfl ?_
  refine vv_iastI C X.length ht0 (ap_get _ _) (vp_d (by decide) (by decide)) (by decide) (X ++ [(q, .inl (cI, 96, .inl (pl [114, 101, 97, 99, 104, 101, 115, 32, 99, 111, 115, 116, 115, 32, 32, 32, 102, 97, 100, 101, 115, 32, 32, 32, 98, 114, 101, 97, 116, 104, 32, 32, 100, 101, 101, 112, 32, 32, 32, 32, 115, 116, 114, 111, 110, 103, 32, 32, 115, 111, 114, 116, 32, 32, 32, 32, 104, 111, 117, 114, 32, 32, 32, 32, 109, 111, 114])))]) (ap_set _ _ _) dX6_init_1040 1041 rfl ?_
  refine vv_dup C dX6_init_1041 rfl 1042 rfl ?_
  refine vv_bipush C (67 : Int32) dX6_init_1042 (by decide) 1044 rfl ?_
  refine vv_bipush C (101 : Int32) dX6_init_1044 (by decide) 1046 rfl ?_
  refine vv_iastI C X.length ht0 (ap_get _ _) (vp_d (by decide) (by decide)) (by decide) (X ++ [(q, .inl (cI, 96, .inl (pl [114, 101, 97, 99, 104, 101, 115, 32, 99, 111, 115, 116, 115, 32, 32, 32, 102, 97, 100, 101, 115, 32, 32, 32, 98, 114, 101, 97, 116, 104, 32, 32, 100, 101, 101, 112, 32, 32, 32, 32, 115, 116, 114, 111, 110, 103, 32, 32, 115, 111, 114, 116, 32, 32, 32, 32, 104, 111, 117, 114, 32, 32, 32, 32, 109, 111, 114, 101])))]) (ap_set _ _ _) dX6_init_1046 1047 rfl ?_
  refine vv_dup C dX6_init_1047 rfl 1048 rfl ?_
  refine vv_bipush C (68 : Int32) dX6_init_1048 (by decide) 1050 rfl ?_
  refine vv_bipush C (32 : Int32) dX6_init_1050 (by decide) 1052 rfl ?_
  refine vv_iastI C X.length ht0 (ap_get _ _) (vp_d (by decide) (by decide)) (by decide) (X ++ [(q, .inl (cI, 96, .inl (pl [114, 101, 97, 99, 104, 101, 115, 32, 99, 111, 115, 116, 115, 32, 32, 32, 102, 97, 100, 101, 115, 32, 32, 32, 98, 114, 101, 97, 116, 104, 32, 32, 100, 101, 101, 112, 32, 32, 32, 32, 115, 116, 114, 111, 110, 103, 32, 32, 115, 111, 114, 116, 32, 32, 32, 32, 104, 111, 117, 114, 32, 32, 32, 32, 109, 111, 114, 101, 32])))]) (ap_set _ _ _) dX6_init_1052 1053 rfl ?_
  refine vv_dup C dX6_init_1053 rfl 1054 rfl ?_
  refine vv_bipush C (69 : Int32) dX6_init_1054 (by decide) 1056 rfl ?_
  refine vv_bipush C (32 : Int32) dX6_init_1056 (by decide) 1058 rfl ?_
  refine vv_iastI C X.length ht0 (ap_get _ _) (vp_d (by decide) (by decide)) (by decide) (X ++ [(q, .inl (cI, 96, .inl (pl [114, 101, 97, 99, 104, 101, 115, 32, 99, 111, 115, 116, 115, 32, 32, 32, 102, 97, 100, 101, 115, 32, 32, 32, 98, 114, 101, 97, 116, 104, 32, 32, 100, 101, 101, 112, 32, 32, 32, 32, 115, 116, 114, 111, 110, 103, 32, 32, 115, 111, 114, 116, 32, 32, 32, 32, 104, 111, 117, 114, 32, 32, 32, 32, 109, 111, 114, 101, 32, 32])))]) (ap_set _ _ _) dX6_init_1058 1059 rfl ?_
  refine vv_dup C dX6_init_1059 rfl 1060 rfl ?_
  refine vv_bipush C (70 : Int32) dX6_init_1060 (by decide) 1062 rfl ?_
  refine vv_bipush C (32 : Int32) dX6_init_1062 (by decide) 1064 rfl ?_
  refine vv_iastI C X.length ht0 (ap_get _ _) (vp_d (by decide) (by decide)) (by decide) (X ++ [(q, .inl (cI, 96, .inl (pl [114, 101, 97, 99, 104, 101, 115, 32, 99, 111, 115, 116, 115, 32, 32, 32, 102, 97, 100, 101, 115, 32, 32, 32, 98, 114, 101, 97, 116, 104, 32, 32, 100, 101, 101, 112, 32, 32, 32, 32, 115, 116, 114, 111, 110, 103, 32, 32, 115, 111, 114, 116, 32, 32, 32, 32, 104, 111, 117, 114, 32, 32, 32, 32, 109, 111, 114, 101, 32, 32, 32])))]) (ap_set _ _ _) dX6_init_1064 1065 rfl ?_
  refine vv_dup C dX6_init_1065 rfl 1066 rfl ?_
  refine vv_bipush C (71 : Int32) dX6_init_1066 (by decide) 1068 rfl ?_
  refine vv_bipush C (32 : Int32) dX6_init_1068 (by decide) 1070 rfl ?_
  refine vv_iastI C X.length ht0 (ap_get _ _) (vp_d (by decide) (by decide)) (by decide) (X ++ [(q, .inl (cI, 96, .inl (pl [114, 101, 97, 99, 104, 101, 115, 32, 99, 111, 115, 116, 115, 32, 32, 32, 102, 97, 100, 101, 115, 32, 32, 32, 98, 114, 101, 97, 116, 104, 32, 32, 100, 101, 101, 112, 32, 32, 32, 32, 115, 116, 114, 111, 110, 103, 32, 32, 115, 111, 114, 116, 32, 32, 32, 32, 104, 111, 117, 114, 32, 32, 32, 32, 109, 111, 114, 101, 32, 32, 32, 32])))]) (ap_set _ _ _) dX6_init_1070 1071 rfl ?_
  refine vv_dup C dX6_init_1071 rfl 1072 rfl ?_
  refine vv_bipush C (72 : Int32) dX6_init_1072 (by decide) 1074 rfl ?_
  refine vv_bipush C (111 : Int32) dX6_init_1074 (by decide) 1076 rfl ?_
  refine vv_iastI C X.length ht0 (ap_get _ _) (vp_d (by decide) (by decide)) (by decide) (X ++ [(q, .inl (cI, 96, .inl (pl [114, 101, 97, 99, 104, 101, 115, 32, 99, 111, 115, 116, 115, 32, 32, 32, 102, 97, 100, 101, 115, 32, 32, 32, 98, 114, 101, 97, 116, 104, 32, 32, 100, 101, 101, 112, 32, 32, 32, 32, 115, 116, 114, 111, 110, 103, 32, 32, 115, 111, 114, 116, 32, 32, 32, 32, 104, 111, 117, 114, 32, 32, 32, 32, 109, 111, 114, 101, 32, 32, 32, 32, 111])))]) (ap_set _ _ _) dX6_init_1076 1077 rfl ?_
  refine vv_dup C dX6_init_1077 rfl 1078 rfl ?_
  refine vv_bipush C (73 : Int32) dX6_init_1078 (by decide) 1080 rfl ?_
  refine vv_bipush C (114 : Int32) dX6_init_1080 (by decide) 1082 rfl ?_
  refine vv_iastI C X.length ht0 (ap_get _ _) (vp_d (by decide) (by decide)) (by decide) (X ++ [(q, .inl (cI, 96, .inl (pl [114, 101, 97, 99, 104, 101, 115, 32, 99, 111, 115, 116, 115, 32, 32, 32, 102, 97, 100, 101, 115, 32, 32, 32, 98, 114, 101, 97, 116, 104, 32, 32, 100, 101, 101, 112, 32, 32, 32, 32, 115, 116, 114, 111, 110, 103, 32, 32, 115, 111, 114, 116, 32, 32, 32, 32, 104, 111, 117, 114, 32, 32, 32, 32, 109, 111, 114, 101, 32, 32, 32, 32, 111, 114])))]) (ap_set _ _ _) dX6_init_1082 1083 rfl ?_
  refine vv_dup C dX6_init_1083 rfl 1084 rfl ?_
  refine vv_bipush C (74 : Int32) dX6_init_1084 (by decide) 1086 rfl ?_
  refine vv_bipush C (32 : Int32) dX6_init_1086 (by decide) 1088 rfl ?_
  refine vv_iastI C X.length ht0 (ap_get _ _) (vp_d (by decide) (by decide)) (by decide) (X ++ [(q, .inl (cI, 96, .inl (pl [114, 101, 97, 99, 104, 101, 115, 32, 99, 111, 115, 116, 115, 32, 32, 32, 102, 97, 100, 101, 115, 32, 32, 32, 98, 114, 101, 97, 116, 104, 32, 32, 100, 101, 101, 112, 32, 32, 32, 32, 115, 116, 114, 111, 110, 103, 32, 32, 115, 111, 114, 116, 32, 32, 32, 32, 104, 111, 117, 114, 32, 32, 32, 32, 109, 111, 114, 101, 32, 32, 32, 32, 111, 114, 32])))]) (ap_set _ _ _) dX6_init_1088 1089 rfl ?_
  refine vv_dup C dX6_init_1089 rfl 1090 rfl ?_
  refine vv_bipush C (75 : Int32) dX6_init_1090 (by decide) 1092 rfl ?_
  refine vv_bipush C (32 : Int32) dX6_init_1092 (by decide) 1094 rfl ?_
  refine vv_iastI C X.length ht0 (ap_get _ _) (vp_d (by decide) (by decide)) (by decide) (X ++ [(q, .inl (cI, 96, .inl (pl [114, 101, 97, 99, 104, 101, 115, 32, 99, 111, 115, 116, 115, 32, 32, 32, 102, 97, 100, 101, 115, 32, 32, 32, 98, 114, 101, 97, 116, 104, 32, 32, 100, 101, 101, 112, 32, 32, 32, 32, 115, 116, 114, 111, 110, 103, 32, 32, 115, 111, 114, 116, 32, 32, 32, 32, 104, 111, 117, 114, 32, 32, 32, 32, 109, 111, 114, 101, 32, 32, 32, 32, 111, 114, 32, 32])))]) (ap_set _ _ _) dX6_init_1094 1095 rfl ?_
  refine vv_dup C dX6_init_1095 rfl 1096 rfl ?_
  refine vv_bipush C (76 : Int32) dX6_init_1096 (by decide) 1098 rfl ?_
  refine vv_bipush C (32 : Int32) dX6_init_1098 (by decide) 1100 rfl ?_
  refine vv_iastI C X.length ht0 (ap_get _ _) (vp_d (by decide) (by decide)) (by decide) (X ++ [(q, .inl (cI, 96, .inl (pl [114, 101, 97, 99, 104, 101, 115, 32, 99, 111, 115, 116, 115, 32, 32, 32, 102, 97, 100, 101, 115, 32, 32, 32, 98, 114, 101, 97, 116, 104, 32, 32, 100, 101, 101, 112, 32, 32, 32, 32, 115, 116, 114, 111, 110, 103, 32, 32, 115, 111, 114, 116, 32, 32, 32, 32, 104, 111, 117, 114, 32, 32, 32, 32, 109, 111, 114, 101, 32, 32, 32, 32, 111, 114, 32, 32, 32])))]) (ap_set _ _ _) dX6_init_1100 1101 rfl ?_
  refine vv_dup C dX6_init_1101 rfl 1102 rfl ?_
  refine vv_bipush C (77 : Int32) dX6_init_1102 (by decide) 1104 rfl ?_
  refine vv_bipush C (32 : Int32) dX6_init_1104 (by decide) 1106 rfl ?_
  refine vv_iastI C X.length ht0 (ap_get _ _) (vp_d (by decide) (by decide)) (by decide) (X ++ [(q, .inl (cI, 96, .inl (pl [114, 101, 97, 99, 104, 101, 115, 32, 99, 111, 115, 116, 115, 32, 32, 32, 102, 97, 100, 101, 115, 32, 32, 32, 98, 114, 101, 97, 116, 104, 32, 32, 100, 101, 101, 112, 32, 32, 32, 32, 115, 116, 114, 111, 110, 103, 32, 32, 115, 111, 114, 116, 32, 32, 32, 32, 104, 111, 117, 114, 32, 32, 32, 32, 109, 111, 114, 101, 32, 32, 32, 32, 111, 114, 32, 32, 32, 32])))]) (ap_set _ _ _) dX6_init_1106 1107 rfl ?_
  refine vv_dup C dX6_init_1107 rfl 1108 rfl ?_
  refine vv_bipush C (78 : Int32) dX6_init_1108 (by decide) 1110 rfl ?_
  refine vv_bipush C (32 : Int32) dX6_init_1110 (by decide) 1112 rfl ?_
  refine vv_iastI C X.length ht0 (ap_get _ _) (vp_d (by decide) (by decide)) (by decide) (X ++ [(q, .inl (cI, 96, .inl (pl [114, 101, 97, 99, 104, 101, 115, 32, 99, 111, 115, 116, 115, 32, 32, 32, 102, 97, 100, 101, 115, 32, 32, 32, 98, 114, 101, 97, 116, 104, 32, 32, 100, 101, 101, 112, 32, 32, 32, 32, 115, 116, 114, 111, 110, 103, 32, 32, 115, 111, 114, 116, 32, 32, 32, 32, 104, 111, 117, 114, 32, 32, 32, 32, 109, 111, 114, 101, 32, 32, 32, 32, 111, 114, 32, 32, 32, 32, 32])))]) (ap_set _ _ _) dX6_init_1112 1113 rfl ?_
  refine vv_dup C dX6_init_1113 rfl 1114 rfl ?_
  refine vv_bipush C (79 : Int32) dX6_init_1114 (by decide) 1116 rfl ?_
  refine vv_bipush C (32 : Int32) dX6_init_1116 (by decide) 1118 rfl ?_
  refine vv_iastI C X.length ht0 (ap_get _ _) (vp_d (by decide) (by decide)) (by decide) (X ++ [(q, .inl (cI, 96, .inl (pl [114, 101, 97, 99, 104, 101, 115, 32, 99, 111, 115, 116, 115, 32, 32, 32, 102, 97, 100, 101, 115, 32, 32, 32, 98, 114, 101, 97, 116, 104, 32, 32, 100, 101, 101, 112, 32, 32, 32, 32, 115, 116, 114, 111, 110, 103, 32, 32, 115, 111, 114, 116, 32, 32, 32, 32, 104, 111, 117, 114, 32, 32, 32, 32, 109, 111, 114, 101, 32, 32, 32, 32, 111, 114, 32, 32, 32, 32, 32, 32])))]) (ap_set _ _ _) dX6_init_1118 1119 rfl ?_
  refine vv_dup C dX6_init_1119 rfl 1120 rfl ?_
  refine vv_bipush C (80 : Int32) dX6_init_1120 (by decide) 1122 rfl ?_
  refine vv_bipush C (97 : Int32) dX6_init_1122 (by decide) 1124 rfl ?_
  refine vv_iastI C X.length ht0 (ap_get _ _) (vp_d (by decide) (by decide)) (by decide) (X ++ [(q, .inl (cI, 96, .inl (pl [114, 101, 97, 99, 104, 101, 115, 32, 99, 111, 115, 116, 115, 32, 32, 32, 102, 97, 100, 101, 115, 32, 32, 32, 98, 114, 101, 97, 116, 104, 32, 32, 100, 101, 101, 112, 32, 32, 32, 32, 115, 116, 114, 111, 110, 103, 32, 32, 115, 111, 114, 116, 32, 32, 32, 32, 104, 111, 117, 114, 32, 32, 32, 32, 109, 111, 114, 101, 32, 32, 32, 32, 111, 114, 32, 32, 32, 32, 32, 32, 97])))]) (ap_set _ _ _) dX6_init_1124 1125 rfl ?_
  refine vv_dup C dX6_init_1125 rfl 1126 rfl ?_
  refine vv_bipush C (81 : Int32) dX6_init_1126 (by decide) 1128 rfl ?_
  refine vv_bipush C (110 : Int32) dX6_init_1128 (by decide) 1130 rfl ?_
  refine vv_iastI C X.length ht0 (ap_get _ _) (vp_d (by decide) (by decide)) (by decide) (X ++ [(q, .inl (cI, 96, .inl (pl [114, 101, 97, 99, 104, 101, 115, 32, 99, 111, 115, 116, 115, 32, 32, 32, 102, 97, 100, 101, 115, 32, 32, 32, 98, 114, 101, 97, 116, 104, 32, 32, 100, 101, 101, 112, 32, 32, 32, 32, 115, 116, 114, 111, 110, 103, 32, 32, 115, 111, 114, 116, 32, 32, 32, 32, 104, 111, 117, 114, 32, 32, 32, 32, 109, 111, 114, 101, 32, 32, 32, 32, 111, 114, 32, 32, 32, 32, 32, 32, 97, 110])))]) (ap_set _ _ _) dX6_init_1130 1131 rfl ?_
  refine vv_dup C dX6_init_1131 rfl 1132 rfl ?_
  refine vv_bipush C (82 : Int32) dX6_init_1132 (by decide) 1134 rfl ?_
  refine vv_bipush C (100 : Int32) dX6_init_1134 (by decide) 1136 rfl ?_
  refine vv_iastI C X.length ht0 (ap_get _ _) (vp_d (by decide) (by decide)) (by decide) (X ++ [(q, .inl (cI, 96, .inl (pl [114, 101, 97, 99, 104, 101, 115, 32, 99, 111, 115, 116, 115, 32, 32, 32, 102, 97, 100, 101, 115, 32, 32, 32, 98, 114, 101, 97, 116, 104, 32, 32, 100, 101, 101, 112, 32, 32, 32, 32, 115, 116, 114, 111, 110, 103, 32, 32, 115, 111, 114, 116, 32, 32, 32, 32, 104, 111, 117, 114, 32, 32, 32, 32, 109, 111, 114, 101, 32, 32, 32, 32, 111, 114, 32, 32, 32, 32, 32, 32, 97, 110, 100])))]) (ap_set _ _ _) dX6_init_1136 1137 rfl ?_
  refine vv_dup C dX6_init_1137 rfl 1138 rfl ?_
  refine vv_bipush C (83 : Int32) dX6_init_1138 (by decide) 1140 rfl ?_
  refine vv_bipush C (32 : Int32) dX6_init_1140 (by decide) 1142 rfl ?_
  refine vv_iastI C X.length ht0 (ap_get _ _) (vp_d (by decide) (by decide)) (by decide) (X ++ [(q, .inl (cI, 96, .inl (pl [114, 101, 97, 99, 104, 101, 115, 32, 99, 111, 115, 116, 115, 32, 32, 32, 102, 97, 100, 101, 115, 32, 32, 32, 98, 114, 101, 97, 116, 104, 32, 32, 100, 101, 101, 112, 32, 32, 32, 32, 115, 116, 114, 111, 110, 103, 32, 32, 115, 111, 114, 116, 32, 32, 32, 32, 104, 111, 117, 114, 32, 32, 32, 32, 109, 111, 114, 101, 32, 32, 32, 32, 111, 114, 32, 32, 32, 32, 32, 32, 97, 110, 100, 32])))]) (ap_set _ _ _) dX6_init_1142 1143 rfl ?_
  refine vv_dup C dX6_init_1143 rfl 1144 rfl ?_
  refine vv_bipush C (84 : Int32) dX6_init_1144 (by decide) 1146 rfl ?_
  refine vv_bipush C (32 : Int32) dX6_init_1146 (by decide) 1148 rfl ?_
  refine vv_iastI C X.length ht0 (ap_get _ _) (vp_d (by decide) (by decide)) (by decide) (X ++ [(q, .inl (cI, 96, .inl (pl [114, 101, 97, 99, 104, 101, 115, 32, 99, 111, 115, 116, 115, 32, 32, 32, 102, 97, 100, 101, 115, 32, 32, 32, 98, 114, 101, 97, 116, 104, 32, 32, 100, 101, 101, 112, 32, 32, 32, 32, 115, 116, 114, 111, 110, 103, 32, 32, 115, 111, 114, 116, 32, 32, 32, 32, 104, 111, 117, 114, 32, 32, 32, 32, 109, 111, 114, 101, 32, 32, 32, 32, 111, 114, 32, 32, 32, 32, 32, 32, 97, 110, 100, 32, 32])))]) (ap_set _ _ _) dX6_init_1148 1149 rfl ?_
  refine vv_dup C dX6_init_1149 rfl 1150 rfl ?_
  refine vv_bipush C (85 : Int32) dX6_init_1150 (by decide) 1152 rfl ?_
  refine vv_bipush C (32 : Int32) dX6_init_1152 (by decide) 1154 rfl ?_
  refine vv_iastI C X.length ht0 (ap_get _ _) (vp_d (by decide) (by decide)) (by decide) (X ++ [(q, .inl (cI, 96, .inl (pl [114, 101, 97, 99, 104, 101, 115, 32, 99, 111, 115, 116, 115, 32, 32, 32, 102, 97, 100, 101, 115, 32, 32, 32, 98, 114, 101, 97, 116, 104, 32, 32, 100, 101, 101, 112, 32, 32, 32, 32, 115, 116, 114, 111, 110, 103, 32, 32, 115, 111, 114, 116, 32, 32, 32, 32, 104, 111, 117, 114, 32, 32, 32, 32, 109, 111, 114, 101, 32, 32, 32, 32, 111, 114, 32, 32, 32, 32, 32, 32, 97, 110, 100, 32, 32, 32])))]) (ap_set _ _ _) dX6_init_1154 1155 rfl ?_
  refine vv_dup C dX6_init_1155 rfl 1156 rfl ?_
  refine vv_bipush C (86 : Int32) dX6_init_1156 (by decide) 1158 rfl ?_
  refine vv_bipush C (32 : Int32) dX6_init_1158 (by decide) 1160 rfl ?_
  refine vv_iastI C X.length ht0 (ap_get _ _) (vp_d (by decide) (by decide)) (by decide) (X ++ [(q, .inl (cI, 96, .inl (pl [114, 101, 97, 99, 104, 101, 115, 32, 99, 111, 115, 116, 115, 32, 32, 32, 102, 97, 100, 101, 115, 32, 32, 32, 98, 114, 101, 97, 116, 104, 32, 32, 100, 101, 101, 112, 32, 32, 32, 32, 115, 116, 114, 111, 110, 103, 32, 32, 115, 111, 114, 116, 32, 32, 32, 32, 104, 111, 117, 114, 32, 32, 32, 32, 109, 111, 114, 101, 32, 32, 32, 32, 111, 114, 32, 32, 32, 32, 32, 32, 97, 110, 100, 32, 32, 32, 32])))]) (ap_set _ _ _) dX6_init_1160 1161 rfl ?_
  refine vv_dup C dX6_init_1161 rfl 1162 rfl ?_
  refine vv_bipush C (87 : Int32) dX6_init_1162 (by decide) 1164 rfl ?_
  refine vv_bipush C (32 : Int32) dX6_init_1164 (by decide) 1166 rfl ?_
  refine vv_iastI C X.length ht0 (ap_get _ _) (vp_d (by decide) (by decide)) (by decide) (X ++ [(q, .inl (cI, 96, .inl (pl [114, 101, 97, 99, 104, 101, 115, 32, 99, 111, 115, 116, 115, 32, 32, 32, 102, 97, 100, 101, 115, 32, 32, 32, 98, 114, 101, 97, 116, 104, 32, 32, 100, 101, 101, 112, 32, 32, 32, 32, 115, 116, 114, 111, 110, 103, 32, 32, 115, 111, 114, 116, 32, 32, 32, 32, 104, 111, 117, 114, 32, 32, 32, 32, 109, 111, 114, 101, 32, 32, 32, 32, 111, 114, 32, 32, 32, 32, 32, 32, 97, 110, 100, 32, 32, 32, 32, 32])))]) (ap_set _ _ _) dX6_init_1166 1167 rfl ?_
  refine vv_dup C dX6_init_1167 rfl 1168 rfl ?_
  refine vv_bipush C (88 : Int32) dX6_init_1168 (by decide) 1170 rfl ?_
  refine vv_bipush C (110 : Int32) dX6_init_1170 (by decide) 1172 rfl ?_
  refine vv_iastI C X.length ht0 (ap_get _ _) (vp_d (by decide) (by decide)) (by decide) (X ++ [(q, .inl (cI, 96, .inl (pl [114, 101, 97, 99, 104, 101, 115, 32, 99, 111, 115, 116, 115, 32, 32, 32, 102, 97, 100, 101, 115, 32, 32, 32, 98, 114, 101, 97, 116, 104, 32, 32, 100, 101, 101, 112, 32, 32, 32, 32, 115, 116, 114, 111, 110, 103, 32, 32, 115, 111, 114, 116, 32, 32, 32, 32, 104, 111, 117, 114, 32, 32, 32, 32, 109, 111, 114, 101, 32, 32, 32, 32, 111, 114, 32, 32, 32, 32, 32, 32, 97, 110, 100, 32, 32, 32, 32, 32, 110])))]) (ap_set _ _ _) dX6_init_1172 1173 rfl ?_
  refine vv_dup C dX6_init_1173 rfl 1174 rfl ?_
  refine vv_bipush C (89 : Int32) dX6_init_1174 (by decide) 1176 rfl ?_
  refine vv_bipush C (111 : Int32) dX6_init_1176 (by decide) 1178 rfl ?_
  refine vv_iastI C X.length ht0 (ap_get _ _) (vp_d (by decide) (by decide)) (by decide) (X ++ [(q, .inl (cI, 96, .inl (pl [114, 101, 97, 99, 104, 101, 115, 32, 99, 111, 115, 116, 115, 32, 32, 32, 102, 97, 100, 101, 115, 32, 32, 32, 98, 114, 101, 97, 116, 104, 32, 32, 100, 101, 101, 112, 32, 32, 32, 32, 115, 116, 114, 111, 110, 103, 32, 32, 115, 111, 114, 116, 32, 32, 32, 32, 104, 111, 117, 114, 32, 32, 32, 32, 109, 111, 114, 101, 32, 32, 32, 32, 111, 114, 32, 32, 32, 32, 32, 32, 97, 110, 100, 32, 32, 32, 32, 32, 110, 111])))]) (ap_set _ _ _) dX6_init_1178 1179 rfl ?_
  refine vv_dup C dX6_init_1179 rfl 1180 rfl ?_
  refine vv_bipush C (90 : Int32) dX6_init_1180 (by decide) 1182 rfl ?_
  refine vv_bipush C (116 : Int32) dX6_init_1182 (by decide) 1184 rfl ?_
  refine vv_iastI C X.length ht0 (ap_get _ _) (vp_d (by decide) (by decide)) (by decide) (X ++ [(q, .inl (cI, 96, .inl (pl [114, 101, 97, 99, 104, 101, 115, 32, 99, 111, 115, 116, 115, 32, 32, 32, 102, 97, 100, 101, 115, 32, 32, 32, 98, 114, 101, 97, 116, 104, 32, 32, 100, 101, 101, 112, 32, 32, 32, 32, 115, 116, 114, 111, 110, 103, 32, 32, 115, 111, 114, 116, 32, 32, 32, 32, 104, 111, 117, 114, 32, 32, 32, 32, 109, 111, 114, 101, 32, 32, 32, 32, 111, 114, 32, 32, 32, 32, 32, 32, 97, 110, 100, 32, 32, 32, 32, 32, 110, 111, 116])))]) (ap_set _ _ _) dX6_init_1184 1185 rfl ?_
  refine vv_dup C dX6_init_1185 rfl 1186 rfl ?_
  refine vv_bipush C (91 : Int32) dX6_init_1186 (by decide) 1188 rfl ?_
  refine vv_bipush C (32 : Int32) dX6_init_1188 (by decide) 1190 rfl ?_
  refine vv_iastI C X.length ht0 (ap_get _ _) (vp_d (by decide) (by decide)) (by decide) (X ++ [(q, .inl (cI, 96, .inl (pl [114, 101, 97, 99, 104, 101, 115, 32, 99, 111, 115, 116, 115, 32, 32, 32, 102, 97, 100, 101, 115, 32, 32, 32, 98, 114, 101, 97, 116, 104, 32, 32, 100, 101, 101, 112, 32, 32, 32, 32, 115, 116, 114, 111, 110, 103, 32, 32, 115, 111, 114, 116, 32, 32, 32, 32, 104, 111, 117, 114, 32, 32, 32, 32, 109, 111, 114, 101, 32, 32, 32, 32, 111, 114, 32, 32, 32, 32, 32, 32, 97, 110, 100, 32, 32, 32, 32, 32, 110, 111, 116, 32])))]) (ap_set _ _ _) dX6_init_1190 1191 rfl ?_
  refine vv_dup C dX6_init_1191 rfl 1192 rfl ?_
  refine vv_bipush C (92 : Int32) dX6_init_1192 (by decide) 1194 rfl ?_
  refine vv_bipush C (32 : Int32) dX6_init_1194 (by decide) 1196 rfl ?_
  refine vv_iastI C X.length ht0 (ap_get _ _) (vp_d (by decide) (by decide)) (by decide) (X ++ [(q, .inl (cI, 96, .inl (pl [114, 101, 97, 99, 104, 101, 115, 32, 99, 111, 115, 116, 115, 32, 32, 32, 102, 97, 100, 101, 115, 32, 32, 32, 98, 114, 101, 97, 116, 104, 32, 32, 100, 101, 101, 112, 32, 32, 32, 32, 115, 116, 114, 111, 110, 103, 32, 32, 115, 111, 114, 116, 32, 32, 32, 32, 104, 111, 117, 114, 32, 32, 32, 32, 109, 111, 114, 101, 32, 32, 32, 32, 111, 114, 32, 32, 32, 32, 32, 32, 97, 110, 100, 32, 32, 32, 32, 32, 110, 111, 116, 32, 32])))]) (ap_set _ _ _) dX6_init_1196 1197 rfl ?_
  refine vv_dup C dX6_init_1197 rfl 1198 rfl ?_
  refine vv_bipush C (93 : Int32) dX6_init_1198 (by decide) 1200 rfl ?_
  refine vv_bipush C (32 : Int32) dX6_init_1200 (by decide) 1202 rfl ?_
  refine vv_iastI C X.length ht0 (ap_get _ _) (vp_d (by decide) (by decide)) (by decide) (X ++ [(q, .inl (cI, 96, .inl (pl [114, 101, 97, 99, 104, 101, 115, 32, 99, 111, 115, 116, 115, 32, 32, 32, 102, 97, 100, 101, 115, 32, 32, 32, 98, 114, 101, 97, 116, 104, 32, 32, 100, 101, 101, 112, 32, 32, 32, 32, 115, 116, 114, 111, 110, 103, 32, 32, 115, 111, 114, 116, 32, 32, 32, 32, 104, 111, 117, 114, 32, 32, 32, 32, 109, 111, 114, 101, 32, 32, 32, 32, 111, 114, 32, 32, 32, 32, 32, 32, 97, 110, 100, 32, 32, 32, 32, 32, 110, 111, 116, 32, 32, 32])))]) (ap_set _ _ _) dX6_init_1202 1203 rfl ?_
  refine vv_dup C dX6_init_1203 rfl 1204 rfl ?_
  refine vv_bipush C (94 : Int32) dX6_init_1204 (by decide) 1206 rfl ?_
  refine vv_bipush C (32 : Int32) dX6_init_1206 (by decide) 1208 rfl ?_
  refine vv_iastI C X.length ht0 (ap_get _ _) (vp_d (by decide) (by decide)) (by decide) (X ++ [(q, .inl (cI, 96, .inl (pl [114, 101, 97, 99, 104, 101, 115, 32, 99, 111, 115, 116, 115, 32, 32, 32, 102, 97, 100, 101, 115, 32, 32, 32, 98, 114, 101, 97, 116, 104, 32, 32, 100, 101, 101, 112, 32, 32, 32, 32, 115, 116, 114, 111, 110, 103, 32, 32, 115, 111, 114, 116, 32, 32, 32, 32, 104, 111, 117, 114, 32, 32, 32, 32, 109, 111, 114, 101, 32, 32, 32, 32, 111, 114, 32, 32, 32, 32, 32, 32, 97, 110, 100, 32, 32, 32, 32, 32, 110, 111, 116, 32, 32, 32, 32])))]) (ap_set _ _ _) dX6_init_1208 1209 rfl ?_
  refine vv_dup C dX6_init_1209 rfl 1210 rfl ?_
  refine vv_bipush C (95 : Int32) dX6_init_1210 (by decide) 1212 rfl ?_
  refine vv_bipush C (32 : Int32) dX6_init_1212 (by decide) 1214 rfl ?_
  refine vv_iastI C X.length ht0 (ap_get _ _) (vp_d (by decide) (by decide)) (by decide) (X ++ [(q, .inl (cI, 96, .inl (pl [114, 101, 97, 99, 104, 101, 115, 32, 99, 111, 115, 116, 115, 32, 32, 32, 102, 97, 100, 101, 115, 32, 32, 32, 98, 114, 101, 97, 116, 104, 32, 32, 100, 101, 101, 112, 32, 32, 32, 32, 115, 116, 114, 111, 110, 103, 32, 32, 115, 111, 114, 116, 32, 32, 32, 32, 104, 111, 117, 114, 32, 32, 32, 32, 109, 111, 114, 101, 32, 32, 32, 32, 111, 114, 32, 32, 32, 32, 32, 32, 97, 110, 100, 32, 32, 32, 32, 32, 110, 111, 116, 32, 32, 32, 32, 32])))]) (ap_set _ _ _) dX6_init_1214 1215 rfl ?_
  exact k
set_option maxRecDepth 100000 in
set_option maxHeartbeats 4000000 in
theorem seg_loop {p : Program} {l : Launch} {e : Env} {R : Room} {s : State} {m : MethodId} {args : Array Value} {below : List Frame} {meth : Method} {c : Code} {D : va_G} {tys : List (ClassId × FieldType)} {A : Nat → Prop} {sa : Nat → Nat} {Q : State → Prop} {cells slots rk : Nat} (C : CY p R s m args meth c cX6_init 2 RX6 rk D tys A sa) {cI : ClassId} (ht0 : tys[0]? = some (cI, .int)) (ws0 : va_W) (h0 qt ql : Nat) (fs : List Value) (ho : ws0[0]? = some (h0, .inr (5, fs))) (hft : fs[7]? = some (.ref qt)) (hfl : fs[19]? = some (.ref ql)) (hqt : ws0[6]? = some (qt, .inl (cI, 160, .inl (pl [])))) (hql : ws0[14]? = some (ql, .inl (cI, 43, .inl (pl mA385)))) (k : VV p l e R s m args below meth c 2 D A cells slots Q (ws0.set 6 (qt, .inl (cI, 160, .inl (pl mA385)))) 1278 [(1, .int 43), (0, .ref h0)] []) : VV p l e R s m args below meth c 2 D A cells slots Q (ws0) 1252 [(0, .ref h0)] [] := by
  refine vv_iconst C (0 : Int32) dX6_init_1252 (by decide) 1253 rfl ?_
  refine vv_istore_n C [(1, .int 0), (0, .ref h0)] dX6_init_1253 rfl (by decide) rfl 1254 rfl ?_
  refine vv_ws (ws0.set 6 (qt, .inl (cI, 160, .inl (pl [])))) (st_self hqt).symm ?_
  refine vv_iload_n C 0 dX6_init_1254 rfl rfl 1255 rfl ?_
  refine vv_bipush C (43 : Int32) dX6_init_1255 (by decide) 1257 rfl ?_
  refine vv_geF C dX6_init_1257 1278 (by decide) (by decide) 1260 rfl ?_
  refine vv_aload_n C 1 dX6_init_1260 rfl rfl 1261 rfl ?_
  refine vv_get C clw_X6 0 ((st_ne (by decide)).trans ho) 7 (by decide) wc_854 (.ref qt) hft dX6_init_1261 1264 rfl ?_
  refine vv_iload_n C 0 dX6_init_1264 rfl rfl 1265 rfl ?_
  refine vv_aload_n C 1 dX6_init_1265 rfl rfl 1266 rfl ?_
  refine vv_get C clw_X6 0 ((st_ne (by decide)).trans ho) 19 (by decide) wc_866 (.ref ql) hfl dX6_init_1266 1269 rfl ?_
  refine vv_iload_n C 0 dX6_init_1269 rfl rfl 1270 rfl ?_
  refine vv_iald C 14 ht0 ((st_ne (by decide)).trans hql) (vp_d (by decide) (by decide)) (114 : Int32) (by decide) dX6_init_1270 1271 rfl ?_
  refine vv_iastI C 6 ht0 (st_get hqt) (vp_d (by decide) (by decide)) (by decide) (ws0.set 6 (qt, .inl (cI, 160, .inl (pl [114])))) (List.set_set ..) dX6_init_1271 1272 rfl ?_
  refine vv_iinc C 0 (1 : Int32) [(1, .int 1), (0, .ref h0)] dX6_init_1272 rfl (by decide) (by decide) rfl 1275 rfl ?_
  refine vv_goto C 1254 dX6_init_1275 (by decide) ?_
  refine vv_iload_n C 0 dX6_init_1254 rfl rfl 1255 rfl ?_
  refine vv_bipush C (43 : Int32) dX6_init_1255 (by decide) 1257 rfl ?_
  refine vv_geF C dX6_init_1257 1278 (by decide) (by decide) 1260 rfl ?_
  refine vv_aload_n C 1 dX6_init_1260 rfl rfl 1261 rfl ?_
  refine vv_get C clw_X6 0 ((st_ne (by decide)).trans ho) 7 (by decide) wc_854 (.ref qt) hft dX6_init_1261 1264 rfl ?_
  refine vv_iload_n C 0 dX6_init_1264 rfl rfl 1265 rfl ?_
  refine vv_aload_n C 1 dX6_init_1265 rfl rfl 1266 rfl ?_
  refine vv_get C clw_X6 0 ((st_ne (by decide)).trans ho) 19 (by decide) wc_866 (.ref ql) hfl dX6_init_1266 1269 rfl ?_
  refine vv_iload_n C 0 dX6_init_1269 rfl rfl 1270 rfl ?_
  refine vv_iald C 14 ht0 ((st_ne (by decide)).trans hql) (vp_d (by decide) (by decide)) (101 : Int32) (by decide) dX6_init_1270 1271 rfl ?_
  refine vv_iastI C 6 ht0 (st_get hqt) (vp_d (by decide) (by decide)) (by decide) (ws0.set 6 (qt, .inl (cI, 160, .inl (pl [114, 101])))) (List.set_set ..) dX6_init_1271 1272 rfl ?_
  refine vv_iinc C 0 (2 : Int32) [(1, .int 2), (0, .ref h0)] dX6_init_1272 rfl (by decide) (by decide) rfl 1275 rfl ?_
  refine vv_goto C 1254 dX6_init_1275 (by decide) ?_
  refine vv_iload_n C 0 dX6_init_1254 rfl rfl 1255 rfl ?_
  refine vv_bipush C (43 : Int32) dX6_init_1255 (by decide) 1257 rfl ?_
  refine vv_geF C dX6_init_1257 1278 (by decide) (by decide) 1260 rfl ?_
  refine vv_aload_n C 1 dX6_init_1260 rfl rfl 1261 rfl ?_
  refine vv_get C clw_X6 0 ((st_ne (by decide)).trans ho) 7 (by decide) wc_854 (.ref qt) hft dX6_init_1261 1264 rfl ?_
  refine vv_iload_n C 0 dX6_init_1264 rfl rfl 1265 rfl ?_
  refine vv_aload_n C 1 dX6_init_1265 rfl rfl 1266 rfl ?_
  refine vv_get C clw_X6 0 ((st_ne (by decide)).trans ho) 19 (by decide) wc_866 (.ref ql) hfl dX6_init_1266 1269 rfl ?_
  refine vv_iload_n C 0 dX6_init_1269 rfl rfl 1270 rfl ?_
  refine vv_iald C 14 ht0 ((st_ne (by decide)).trans hql) (vp_d (by decide) (by decide)) (97 : Int32) (by decide) dX6_init_1270 1271 rfl ?_
  refine vv_iastI C 6 ht0 (st_get hqt) (vp_d (by decide) (by decide)) (by decide) (ws0.set 6 (qt, .inl (cI, 160, .inl (pl [114, 101, 97])))) (List.set_set ..) dX6_init_1271 1272 rfl ?_
  refine vv_iinc C 0 (3 : Int32) [(1, .int 3), (0, .ref h0)] dX6_init_1272 rfl (by decide) (by decide) rfl 1275 rfl ?_
  refine vv_goto C 1254 dX6_init_1275 (by decide) ?_
  refine vv_iload_n C 0 dX6_init_1254 rfl rfl 1255 rfl ?_
  refine vv_bipush C (43 : Int32) dX6_init_1255 (by decide) 1257 rfl ?_
  refine vv_geF C dX6_init_1257 1278 (by decide) (by decide) 1260 rfl ?_
  refine vv_aload_n C 1 dX6_init_1260 rfl rfl 1261 rfl ?_
  refine vv_get C clw_X6 0 ((st_ne (by decide)).trans ho) 7 (by decide) wc_854 (.ref qt) hft dX6_init_1261 1264 rfl ?_
  refine vv_iload_n C 0 dX6_init_1264 rfl rfl 1265 rfl ?_
  refine vv_aload_n C 1 dX6_init_1265 rfl rfl 1266 rfl ?_
  refine vv_get C clw_X6 0 ((st_ne (by decide)).trans ho) 19 (by decide) wc_866 (.ref ql) hfl dX6_init_1266 1269 rfl ?_
  refine vv_iload_n C 0 dX6_init_1269 rfl rfl 1270 rfl ?_
  refine vv_iald C 14 ht0 ((st_ne (by decide)).trans hql) (vp_d (by decide) (by decide)) (99 : Int32) (by decide) dX6_init_1270 1271 rfl ?_
  refine vv_iastI C 6 ht0 (st_get hqt) (vp_d (by decide) (by decide)) (by decide) (ws0.set 6 (qt, .inl (cI, 160, .inl (pl [114, 101, 97, 99])))) (List.set_set ..) dX6_init_1271 1272 rfl ?_
  refine vv_iinc C 0 (4 : Int32) [(1, .int 4), (0, .ref h0)] dX6_init_1272 rfl (by decide) (by decide) rfl 1275 rfl ?_
  refine vv_goto C 1254 dX6_init_1275 (by decide) ?_
  refine vv_iload_n C 0 dX6_init_1254 rfl rfl 1255 rfl ?_
  refine vv_bipush C (43 : Int32) dX6_init_1255 (by decide) 1257 rfl ?_
  refine vv_geF C dX6_init_1257 1278 (by decide) (by decide) 1260 rfl ?_
  refine vv_aload_n C 1 dX6_init_1260 rfl rfl 1261 rfl ?_
  refine vv_get C clw_X6 0 ((st_ne (by decide)).trans ho) 7 (by decide) wc_854 (.ref qt) hft dX6_init_1261 1264 rfl ?_
  refine vv_iload_n C 0 dX6_init_1264 rfl rfl 1265 rfl ?_
  refine vv_aload_n C 1 dX6_init_1265 rfl rfl 1266 rfl ?_
  refine vv_get C clw_X6 0 ((st_ne (by decide)).trans ho) 19 (by decide) wc_866 (.ref ql) hfl dX6_init_1266 1269 rfl ?_
  refine vv_iload_n C 0 dX6_init_1269 rfl rfl 1270 rfl ?_
  refine vv_iald C 14 ht0 ((st_ne (by decide)).trans hql) (vp_d (by decide) (by decide)) (104 : Int32) (by decide) dX6_init_1270 1271 rfl ?_
  refine vv_iastI C 6 ht0 (st_get hqt) (vp_d (by decide) (by decide)) (by decide) (ws0.set 6 (qt, .inl (cI, 160, .inl (pl [114, 101, 97, 99, 104])))) (List.set_set ..) dX6_init_1271 1272 rfl ?_
  refine vv_iinc C 0 (5 : Int32) [(1, .int 5), (0, .ref h0)] dX6_init_1272 rfl (by decide) (by decide) rfl 1275 rfl ?_
  refine vv_goto C 1254 dX6_init_1275 (by decide) ?_
  refine vv_iload_n C 0 dX6_init_1254 rfl rfl 1255 rfl ?_
  refine vv_bipush C (43 : Int32) dX6_init_1255 (by decide) 1257 rfl ?_
  refine vv_geF C dX6_init_1257 1278 (by decide) (by decide) 1260 rfl ?_
  refine vv_aload_n C 1 dX6_init_1260 rfl rfl 1261 rfl ?_
  refine vv_get C clw_X6 0 ((st_ne (by decide)).trans ho) 7 (by decide) wc_854 (.ref qt) hft dX6_init_1261 1264 rfl ?_
  refine vv_iload_n C 0 dX6_init_1264 rfl rfl 1265 rfl ?_
  refine vv_aload_n C 1 dX6_init_1265 rfl rfl 1266 rfl ?_
  refine vv_get C clw_X6 0 ((st_ne (by decide)).trans ho) 19 (by decide) wc_866 (.ref ql) hfl dX6_init_1266 1269 rfl ?_
  refine vv_iload_n C 0 dX6_init_1269 rfl rfl 1270 rfl ?_
  refine vv_iald C 14 ht0 ((st_ne (by decide)).trans hql) (vp_d (by decide) (by decide)) (101 : Int32) (by decide) dX6_init_1270 1271 rfl ?_
  refine vv_iastI C 6 ht0 (st_get hqt) (vp_d (by decide) (by decide)) (by decide) (ws0.set 6 (qt, .inl (cI, 160, .inl (pl [114, 101, 97, 99, 104, 101])))) (List.set_set ..) dX6_init_1271 1272 rfl ?_
  refine vv_iinc C 0 (6 : Int32) [(1, .int 6), (0, .ref h0)] dX6_init_1272 rfl (by decide) (by decide) rfl 1275 rfl ?_
  refine vv_goto C 1254 dX6_init_1275 (by decide) ?_
  refine vv_iload_n C 0 dX6_init_1254 rfl rfl 1255 rfl ?_
  refine vv_bipush C (43 : Int32) dX6_init_1255 (by decide) 1257 rfl ?_
  refine vv_geF C dX6_init_1257 1278 (by decide) (by decide) 1260 rfl ?_
  refine vv_aload_n C 1 dX6_init_1260 rfl rfl 1261 rfl ?_
  refine vv_get C clw_X6 0 ((st_ne (by decide)).trans ho) 7 (by decide) wc_854 (.ref qt) hft dX6_init_1261 1264 rfl ?_
  refine vv_iload_n C 0 dX6_init_1264 rfl rfl 1265 rfl ?_
  refine vv_aload_n C 1 dX6_init_1265 rfl rfl 1266 rfl ?_
  refine vv_get C clw_X6 0 ((st_ne (by decide)).trans ho) 19 (by decide) wc_866 (.ref ql) hfl dX6_init_1266 1269 rfl ?_
  refine vv_iload_n C 0 dX6_init_1269 rfl rfl 1270 rfl ?_
  refine vv_iald C 14 ht0 ((st_ne (by decide)).trans hql) (vp_d (by decide) (by decide)) (115 : Int32) (by decide) dX6_init_1270 1271 rfl ?_
  refine vv_iastI C 6 ht0 (st_get hqt) (vp_d (by decide) (by decide)) (by decide) (ws0.set 6 (qt, .inl (cI, 160, .inl (pl [114, 101, 97, 99, 104, 101, 115])))) (List.set_set ..) dX6_init_1271 1272 rfl ?_
  refine vv_iinc C 0 (7 : Int32) [(1, .int 7), (0, .ref h0)] dX6_init_1272 rfl (by decide) (by decide) rfl 1275 rfl ?_
  refine vv_goto C 1254 dX6_init_1275 (by decide) ?_
  refine vv_iload_n C 0 dX6_init_1254 rfl rfl 1255 rfl ?_
  refine vv_bipush C (43 : Int32) dX6_init_1255 (by decide) 1257 rfl ?_
  refine vv_geF C dX6_init_1257 1278 (by decide) (by decide) 1260 rfl ?_
  refine vv_aload_n C 1 dX6_init_1260 rfl rfl 1261 rfl ?_
  refine vv_get C clw_X6 0 ((st_ne (by decide)).trans ho) 7 (by decide) wc_854 (.ref qt) hft dX6_init_1261 1264 rfl ?_
  refine vv_iload_n C 0 dX6_init_1264 rfl rfl 1265 rfl ?_
  refine vv_aload_n C 1 dX6_init_1265 rfl rfl 1266 rfl ?_
  refine vv_get C clw_X6 0 ((st_ne (by decide)).trans ho) 19 (by decide) wc_866 (.ref ql) hfl dX6_init_1266 1269 rfl ?_
  refine vv_iload_n C 0 dX6_init_1269 rfl rfl 1270 rfl ?_
  refine vv_iald C 14 ht0 ((st_ne (by decide)).trans hql) (vp_d (by decide) (by decide)) (32 : Int32) (by decide) dX6_init_1270 1271 rfl ?_
  refine vv_iastI C 6 ht0 (st_get hqt) (vp_d (by decide) (by decide)) (by decide) (ws0.set 6 (qt, .inl (cI, 160, .inl (pl [114, 101, 97, 99, 104, 101, 115, 32])))) (List.set_set ..) dX6_init_1271 1272 rfl ?_
  refine vv_iinc C 0 (8 : Int32) [(1, .int 8), (0, .ref h0)] dX6_init_1272 rfl (by decide) (by decide) rfl 1275 rfl ?_
  refine vv_goto C 1254 dX6_init_1275 (by decide) ?_
  refine vv_iload_n C 0 dX6_init_1254 rfl rfl 1255 rfl ?_
  refine vv_bipush C (43 : Int32) dX6_init_1255 (by decide) 1257 rfl ?_
  refine vv_geF C dX6_init_1257 1278 (by decide) (by decide) 1260 rfl ?_
  refine vv_aload_n C 1 dX6_init_1260 rfl rfl 1261 rfl ?_
  refine vv_get C clw_X6 0 ((st_ne (by decide)).trans ho) 7 (by decide) wc_854 (.ref qt) hft dX6_init_1261 1264 rfl ?_
  refine vv_iload_n C 0 dX6_init_1264 rfl rfl 1265 rfl ?_
  refine vv_aload_n C 1 dX6_init_1265 rfl rfl 1266 rfl ?_
  refine vv_get C clw_X6 0 ((st_ne (by decide)).trans ho) 19 (by decide) wc_866 (.ref ql) hfl dX6_init_1266 1269 rfl ?_
  refine vv_iload_n C 0 dX6_init_1269 rfl rfl 1270 rfl ?_
  refine vv_iald C 14 ht0 ((st_ne (by decide)).trans hql) (vp_d (by decide) (by decide)) (98 : Int32) (by decide) dX6_init_1270 1271 rfl ?_
  refine vv_iastI C 6 ht0 (st_get hqt) (vp_d (by decide) (by decide)) (by decide) (ws0.set 6 (qt, .inl (cI, 160, .inl (pl [114, 101, 97, 99, 104, 101, 115, 32, 98])))) (List.set_set ..) dX6_init_1271 1272 rfl ?_
  refine vv_iinc C 0 (9 : Int32) [(1, .int 9), (0, .ref h0)] dX6_init_1272 rfl (by decide) (by decide) rfl 1275 rfl ?_
  refine vv_goto C 1254 dX6_init_1275 (by decide) ?_
  refine vv_iload_n C 0 dX6_init_1254 rfl rfl 1255 rfl ?_
  refine vv_bipush C (43 : Int32) dX6_init_1255 (by decide) 1257 rfl ?_
  refine vv_geF C dX6_init_1257 1278 (by decide) (by decide) 1260 rfl ?_
  refine vv_aload_n C 1 dX6_init_1260 rfl rfl 1261 rfl ?_
  refine vv_get C clw_X6 0 ((st_ne (by decide)).trans ho) 7 (by decide) wc_854 (.ref qt) hft dX6_init_1261 1264 rfl ?_
  refine vv_iload_n C 0 dX6_init_1264 rfl rfl 1265 rfl ?_
  refine vv_aload_n C 1 dX6_init_1265 rfl rfl 1266 rfl ?_
  refine vv_get C clw_X6 0 ((st_ne (by decide)).trans ho) 19 (by decide) wc_866 (.ref ql) hfl dX6_init_1266 1269 rfl ?_
  refine vv_iload_n C 0 dX6_init_1269 rfl rfl 1270 rfl ?_
  refine vv_iald C 14 ht0 ((st_ne (by decide)).trans hql) (vp_d (by decide) (by decide)) (114 : Int32) (by decide) dX6_init_1270 1271 rfl ?_
  refine vv_iastI C 6 ht0 (st_get hqt) (vp_d (by decide) (by decide)) (by decide) (ws0.set 6 (qt, .inl (cI, 160, .inl (pl [114, 101, 97, 99, 104, 101, 115, 32, 98, 114])))) (List.set_set ..) dX6_init_1271 1272 rfl ?_
  refine vv_iinc C 0 (10 : Int32) [(1, .int 10), (0, .ref h0)] dX6_init_1272 rfl (by decide) (by decide) rfl 1275 rfl ?_
  refine vv_goto C 1254 dX6_init_1275 (by decide) ?_
  refine vv_iload_n C 0 dX6_init_1254 rfl rfl 1255 rfl ?_
  refine vv_bipush C (43 : Int32) dX6_init_1255 (by decide) 1257 rfl ?_
  refine vv_geF C dX6_init_1257 1278 (by decide) (by decide) 1260 rfl ?_
  refine vv_aload_n C 1 dX6_init_1260 rfl rfl 1261 rfl ?_
  refine vv_get C clw_X6 0 ((st_ne (by decide)).trans ho) 7 (by decide) wc_854 (.ref qt) hft dX6_init_1261 1264 rfl ?_
  refine vv_iload_n C 0 dX6_init_1264 rfl rfl 1265 rfl ?_
  refine vv_aload_n C 1 dX6_init_1265 rfl rfl 1266 rfl ?_
  refine vv_get C clw_X6 0 ((st_ne (by decide)).trans ho) 19 (by decide) wc_866 (.ref ql) hfl dX6_init_1266 1269 rfl ?_
  refine vv_iload_n C 0 dX6_init_1269 rfl rfl 1270 rfl ?_
  refine vv_iald C 14 ht0 ((st_ne (by decide)).trans hql) (vp_d (by decide) (by decide)) (101 : Int32) (by decide) dX6_init_1270 1271 rfl ?_
  refine vv_iastI C 6 ht0 (st_get hqt) (vp_d (by decide) (by decide)) (by decide) (ws0.set 6 (qt, .inl (cI, 160, .inl (pl [114, 101, 97, 99, 104, 101, 115, 32, 98, 114, 101])))) (List.set_set ..) dX6_init_1271 1272 rfl ?_
  refine vv_iinc C 0 (11 : Int32) [(1, .int 11), (0, .ref h0)] dX6_init_1272 rfl (by decide) (by decide) rfl 1275 rfl ?_
  refine vv_goto C 1254 dX6_init_1275 (by decide) ?_
  refine vv_iload_n C 0 dX6_init_1254 rfl rfl 1255 rfl ?_
  refine vv_bipush C (43 : Int32) dX6_init_1255 (by decide) 1257 rfl ?_
  refine vv_geF C dX6_init_1257 1278 (by decide) (by decide) 1260 rfl ?_
  refine vv_aload_n C 1 dX6_init_1260 rfl rfl 1261 rfl ?_
  refine vv_get C clw_X6 0 ((st_ne (by decide)).trans ho) 7 (by decide) wc_854 (.ref qt) hft dX6_init_1261 1264 rfl ?_
  refine vv_iload_n C 0 dX6_init_1264 rfl rfl 1265 rfl ?_
  refine vv_aload_n C 1 dX6_init_1265 rfl rfl 1266 rfl ?_
  refine vv_get C clw_X6 0 ((st_ne (by decide)).trans ho) 19 (by decide) wc_866 (.ref ql) hfl dX6_init_1266 1269 rfl ?_
  refine vv_iload_n C 0 dX6_init_1269 rfl rfl 1270 rfl ?_
  refine vv_iald C 14 ht0 ((st_ne (by decide)).trans hql) (vp_d (by decide) (by decide)) (97 : Int32) (by decide) dX6_init_1270 1271 rfl ?_
  refine vv_iastI C 6 ht0 (st_get hqt) (vp_d (by decide) (by decide)) (by decide) (ws0.set 6 (qt, .inl (cI, 160, .inl (pl [114, 101, 97, 99, 104, 101, 115, 32, 98, 114, 101, 97])))) (List.set_set ..) dX6_init_1271 1272 rfl ?_
  refine vv_iinc C 0 (12 : Int32) [(1, .int 12), (0, .ref h0)] dX6_init_1272 rfl (by decide) (by decide) rfl 1275 rfl ?_
  refine vv_goto C 1254 dX6_init_1275 (by decide) ?_
  refine vv_iload_n C 0 dX6_init_1254 rfl rfl 1255 rfl ?_
  refine vv_bipush C (43 : Int32) dX6_init_1255 (by decide) 1257 rfl ?_
  refine vv_geF C dX6_init_1257 1278 (by decide) (by decide) 1260 rfl ?_
  refine vv_aload_n C 1 dX6_init_1260 rfl rfl 1261 rfl ?_
  refine vv_get C clw_X6 0 ((st_ne (by decide)).trans ho) 7 (by decide) wc_854 (.ref qt) hft dX6_init_1261 1264 rfl ?_
  refine vv_iload_n C 0 dX6_init_1264 rfl rfl 1265 rfl ?_
  refine vv_aload_n C 1 dX6_init_1265 rfl rfl 1266 rfl ?_
  refine vv_get C clw_X6 0 ((st_ne (by decide)).trans ho) 19 (by decide) wc_866 (.ref ql) hfl dX6_init_1266 1269 rfl ?_
  refine vv_iload_n C 0 dX6_init_1269 rfl rfl 1270 rfl ?_
  refine vv_iald C 14 ht0 ((st_ne (by decide)).trans hql) (vp_d (by decide) (by decide)) (116 : Int32) (by decide) dX6_init_1270 1271 rfl ?_
  refine vv_iastI C 6 ht0 (st_get hqt) (vp_d (by decide) (by decide)) (by decide) (ws0.set 6 (qt, .inl (cI, 160, .inl (pl [114, 101, 97, 99, 104, 101, 115, 32, 98, 114, 101, 97, 116])))) (List.set_set ..) dX6_init_1271 1272 rfl ?_
  refine vv_iinc C 0 (13 : Int32) [(1, .int 13), (0, .ref h0)] dX6_init_1272 rfl (by decide) (by decide) rfl 1275 rfl ?_
  refine vv_goto C 1254 dX6_init_1275 (by decide) ?_
  refine vv_iload_n C 0 dX6_init_1254 rfl rfl 1255 rfl ?_
  refine vv_bipush C (43 : Int32) dX6_init_1255 (by decide) 1257 rfl ?_
  refine vv_geF C dX6_init_1257 1278 (by decide) (by decide) 1260 rfl ?_
  refine vv_aload_n C 1 dX6_init_1260 rfl rfl 1261 rfl ?_
  refine vv_get C clw_X6 0 ((st_ne (by decide)).trans ho) 7 (by decide) wc_854 (.ref qt) hft dX6_init_1261 1264 rfl ?_
  refine vv_iload_n C 0 dX6_init_1264 rfl rfl 1265 rfl ?_
  refine vv_aload_n C 1 dX6_init_1265 rfl rfl 1266 rfl ?_
  refine vv_get C clw_X6 0 ((st_ne (by decide)).trans ho) 19 (by decide) wc_866 (.ref ql) hfl dX6_init_1266 1269 rfl ?_
  refine vv_iload_n C 0 dX6_init_1269 rfl rfl 1270 rfl ?_
  refine vv_iald C 14 ht0 ((st_ne (by decide)).trans hql) (vp_d (by decide) (by decide)) (104 : Int32) (by decide) dX6_init_1270 1271 rfl ?_
  refine vv_iastI C 6 ht0 (st_get hqt) (vp_d (by decide) (by decide)) (by decide) (ws0.set 6 (qt, .inl (cI, 160, .inl (pl [114, 101, 97, 99, 104, 101, 115, 32, 98, 114, 101, 97, 116, 104])))) (List.set_set ..) dX6_init_1271 1272 rfl ?_
  refine vv_iinc C 0 (14 : Int32) [(1, .int 14), (0, .ref h0)] dX6_init_1272 rfl (by decide) (by decide) rfl 1275 rfl ?_
  refine vv_goto C 1254 dX6_init_1275 (by decide) ?_
  refine vv_iload_n C 0 dX6_init_1254 rfl rfl 1255 rfl ?_
  refine vv_bipush C (43 : Int32) dX6_init_1255 (by decide) 1257 rfl ?_
  refine vv_geF C dX6_init_1257 1278 (by decide) (by decide) 1260 rfl ?_
  refine vv_aload_n C 1 dX6_init_1260 rfl rfl 1261 rfl ?_
  refine vv_get C clw_X6 0 ((st_ne (by decide)).trans ho) 7 (by decide) wc_854 (.ref qt) hft dX6_init_1261 1264 rfl ?_
  refine vv_iload_n C 0 dX6_init_1264 rfl rfl 1265 rfl ?_
  refine vv_aload_n C 1 dX6_init_1265 rfl rfl 1266 rfl ?_
  refine vv_get C clw_X6 0 ((st_ne (by decide)).trans ho) 19 (by decide) wc_866 (.ref ql) hfl dX6_init_1266 1269 rfl ?_
  refine vv_iload_n C 0 dX6_init_1269 rfl rfl 1270 rfl ?_
  refine vv_iald C 14 ht0 ((st_ne (by decide)).trans hql) (vp_d (by decide) (by decide)) (32 : Int32) (by decide) dX6_init_1270 1271 rfl ?_
  refine vv_iastI C 6 ht0 (st_get hqt) (vp_d (by decide) (by decide)) (by decide) (ws0.set 6 (qt, .inl (cI, 160, .inl (pl [114, 101, 97, 99, 104, 101, 115, 32, 98, 114, 101, 97, 116, 104, 32])))) (List.set_set ..) dX6_init_1271 1272 rfl ?_
  refine vv_iinc C 0 (15 : Int32) [(1, .int 15), (0, .ref h0)] dX6_init_1272 rfl (by decide) (by decide) rfl 1275 rfl ?_
  refine vv_goto C 1254 dX6_init_1275 (by decide) ?_
  refine vv_iload_n C 0 dX6_init_1254 rfl rfl 1255 rfl ?_
  refine vv_bipush C (43 : Int32) dX6_init_1255 (by decide) 1257 rfl ?_
  refine vv_geF C dX6_init_1257 1278 (by decide) (by decide) 1260 rfl ?_
  refine vv_aload_n C 1 dX6_init_1260 rfl rfl 1261 rfl ?_
  refine vv_get C clw_X6 0 ((st_ne (by decide)).trans ho) 7 (by decide) wc_854 (.ref qt) hft dX6_init_1261 1264 rfl ?_
  refine vv_iload_n C 0 dX6_init_1264 rfl rfl 1265 rfl ?_
  refine vv_aload_n C 1 dX6_init_1265 rfl rfl 1266 rfl ?_
  refine vv_get C clw_X6 0 ((st_ne (by decide)).trans ho) 19 (by decide) wc_866 (.ref ql) hfl dX6_init_1266 1269 rfl ?_
  refine vv_iload_n C 0 dX6_init_1269 rfl rfl 1270 rfl ?_
  refine vv_iald C 14 ht0 ((st_ne (by decide)).trans hql) (vp_d (by decide) (by decide)) (59 : Int32) (by decide) dX6_init_1270 1271 rfl ?_
  refine vv_iastI C 6 ht0 (st_get hqt) (vp_d (by decide) (by decide)) (by decide) (ws0.set 6 (qt, .inl (cI, 160, .inl (pl [114, 101, 97, 99, 104, 101, 115, 32, 98, 114, 101, 97, 116, 104, 32, 59])))) (List.set_set ..) dX6_init_1271 1272 rfl ?_
  refine vv_iinc C 0 (16 : Int32) [(1, .int 16), (0, .ref h0)] dX6_init_1272 rfl (by decide) (by decide) rfl 1275 rfl ?_
  refine vv_goto C 1254 dX6_init_1275 (by decide) ?_
  refine vv_iload_n C 0 dX6_init_1254 rfl rfl 1255 rfl ?_
  refine vv_bipush C (43 : Int32) dX6_init_1255 (by decide) 1257 rfl ?_
  refine vv_geF C dX6_init_1257 1278 (by decide) (by decide) 1260 rfl ?_
  refine vv_aload_n C 1 dX6_init_1260 rfl rfl 1261 rfl ?_
  refine vv_get C clw_X6 0 ((st_ne (by decide)).trans ho) 7 (by decide) wc_854 (.ref qt) hft dX6_init_1261 1264 rfl ?_
  refine vv_iload_n C 0 dX6_init_1264 rfl rfl 1265 rfl ?_
  refine vv_aload_n C 1 dX6_init_1265 rfl rfl 1266 rfl ?_
  refine vv_get C clw_X6 0 ((st_ne (by decide)).trans ho) 19 (by decide) wc_866 (.ref ql) hfl dX6_init_1266 1269 rfl ?_
  refine vv_iload_n C 0 dX6_init_1269 rfl rfl 1270 rfl ?_
  refine vv_iald C 14 ht0 ((st_ne (by decide)).trans hql) (vp_d (by decide) (by decide)) (32 : Int32) (by decide) dX6_init_1270 1271 rfl ?_
  refine vv_iastI C 6 ht0 (st_get hqt) (vp_d (by decide) (by decide)) (by decide) (ws0.set 6 (qt, .inl (cI, 160, .inl (pl [114, 101, 97, 99, 104, 101, 115, 32, 98, 114, 101, 97, 116, 104, 32, 59, 32])))) (List.set_set ..) dX6_init_1271 1272 rfl ?_
  refine vv_iinc C 0 (17 : Int32) [(1, .int 17), (0, .ref h0)] dX6_init_1272 rfl (by decide) (by decide) rfl 1275 rfl ?_
  refine vv_goto C 1254 dX6_init_1275 (by decide) ?_
  refine vv_iload_n C 0 dX6_init_1254 rfl rfl 1255 rfl ?_
  refine vv_bipush C (43 : Int32) dX6_init_1255 (by decide) 1257 rfl ?_
  refine vv_geF C dX6_init_1257 1278 (by decide) (by decide) 1260 rfl ?_
  refine vv_aload_n C 1 dX6_init_1260 rfl rfl 1261 rfl ?_
  refine vv_get C clw_X6 0 ((st_ne (by decide)).trans ho) 7 (by decide) wc_854 (.ref qt) hft dX6_init_1261 1264 rfl ?_
  refine vv_iload_n C 0 dX6_init_1264 rfl rfl 1265 rfl ?_
  refine vv_aload_n C 1 dX6_init_1265 rfl rfl 1266 rfl ?_
  refine vv_get C clw_X6 0 ((st_ne (by decide)).trans ho) 19 (by decide) wc_866 (.ref ql) hfl dX6_init_1266 1269 rfl ?_
  refine vv_iload_n C 0 dX6_init_1269 rfl rfl 1270 rfl ?_
  refine vv_iald C 14 ht0 ((st_ne (by decide)).trans hql) (vp_d (by decide) (by decide)) (99 : Int32) (by decide) dX6_init_1270 1271 rfl ?_
  refine vv_iastI C 6 ht0 (st_get hqt) (vp_d (by decide) (by decide)) (by decide) (ws0.set 6 (qt, .inl (cI, 160, .inl (pl [114, 101, 97, 99, 104, 101, 115, 32, 98, 114, 101, 97, 116, 104, 32, 59, 32, 99])))) (List.set_set ..) dX6_init_1271 1272 rfl ?_
  refine vv_iinc C 0 (18 : Int32) [(1, .int 18), (0, .ref h0)] dX6_init_1272 rfl (by decide) (by decide) rfl 1275 rfl ?_
  refine vv_goto C 1254 dX6_init_1275 (by decide) ?_
  refine vv_iload_n C 0 dX6_init_1254 rfl rfl 1255 rfl ?_
  refine vv_bipush C (43 : Int32) dX6_init_1255 (by decide) 1257 rfl ?_
  refine vv_geF C dX6_init_1257 1278 (by decide) (by decide) 1260 rfl ?_
  refine vv_aload_n C 1 dX6_init_1260 rfl rfl 1261 rfl ?_
  refine vv_get C clw_X6 0 ((st_ne (by decide)).trans ho) 7 (by decide) wc_854 (.ref qt) hft dX6_init_1261 1264 rfl ?_
  refine vv_iload_n C 0 dX6_init_1264 rfl rfl 1265 rfl ?_
  refine vv_aload_n C 1 dX6_init_1265 rfl rfl 1266 rfl ?_
  refine vv_get C clw_X6 0 ((st_ne (by decide)).trans ho) 19 (by decide) wc_866 (.ref ql) hfl dX6_init_1266 1269 rfl ?_
  refine vv_iload_n C 0 dX6_init_1269 rfl rfl 1270 rfl ?_
  refine vv_iald C 14 ht0 ((st_ne (by decide)).trans hql) (vp_d (by decide) (by decide)) (111 : Int32) (by decide) dX6_init_1270 1271 rfl ?_
  refine vv_iastI C 6 ht0 (st_get hqt) (vp_d (by decide) (by decide)) (by decide) (ws0.set 6 (qt, .inl (cI, 160, .inl (pl [114, 101, 97, 99, 104, 101, 115, 32, 98, 114, 101, 97, 116, 104, 32, 59, 32, 99, 111])))) (List.set_set ..) dX6_init_1271 1272 rfl ?_
  refine vv_iinc C 0 (19 : Int32) [(1, .int 19), (0, .ref h0)] dX6_init_1272 rfl (by decide) (by decide) rfl 1275 rfl ?_
  refine vv_goto C 1254 dX6_init_1275 (by decide) ?_
  refine vv_iload_n C 0 dX6_init_1254 rfl rfl 1255 rfl ?_
  refine vv_bipush C (43 : Int32) dX6_init_1255 (by decide) 1257 rfl ?_
  refine vv_geF C dX6_init_1257 1278 (by decide) (by decide) 1260 rfl ?_
  refine vv_aload_n C 1 dX6_init_1260 rfl rfl 1261 rfl ?_
  refine vv_get C clw_X6 0 ((st_ne (by decide)).trans ho) 7 (by decide) wc_854 (.ref qt) hft dX6_init_1261 1264 rfl ?_
  refine vv_iload_n C 0 dX6_init_1264 rfl rfl 1265 rfl ?_
  refine vv_aload_n C 1 dX6_init_1265 rfl rfl 1266 rfl ?_
  refine vv_get C clw_X6 0 ((st_ne (by decide)).trans ho) 19 (by decide) wc_866 (.ref ql) hfl dX6_init_1266 1269 rfl ?_
  refine vv_iload_n C 0 dX6_init_1269 rfl rfl 1270 rfl ?_
  refine vv_iald C 14 ht0 ((st_ne (by decide)).trans hql) (vp_d (by decide) (by decide)) (115 : Int32) (by decide) dX6_init_1270 1271 rfl ?_
  refine vv_iastI C 6 ht0 (st_get hqt) (vp_d (by decide) (by decide)) (by decide) (ws0.set 6 (qt, .inl (cI, 160, .inl (pl [114, 101, 97, 99, 104, 101, 115, 32, 98, 114, 101, 97, 116, 104, 32, 59, 32, 99, 111, 115])))) (List.set_set ..) dX6_init_1271 1272 rfl ?_
  refine vv_iinc C 0 (20 : Int32) [(1, .int 20), (0, .ref h0)] dX6_init_1272 rfl (by decide) (by decide) rfl 1275 rfl ?_
  refine vv_goto C 1254 dX6_init_1275 (by decide) ?_
  refine vv_iload_n C 0 dX6_init_1254 rfl rfl 1255 rfl ?_
  refine vv_bipush C (43 : Int32) dX6_init_1255 (by decide) 1257 rfl ?_
  refine vv_geF C dX6_init_1257 1278 (by decide) (by decide) 1260 rfl ?_
  refine vv_aload_n C 1 dX6_init_1260 rfl rfl 1261 rfl ?_
  refine vv_get C clw_X6 0 ((st_ne (by decide)).trans ho) 7 (by decide) wc_854 (.ref qt) hft dX6_init_1261 1264 rfl ?_
  refine vv_iload_n C 0 dX6_init_1264 rfl rfl 1265 rfl ?_
  refine vv_aload_n C 1 dX6_init_1265 rfl rfl 1266 rfl ?_
  refine vv_get C clw_X6 0 ((st_ne (by decide)).trans ho) 19 (by decide) wc_866 (.ref ql) hfl dX6_init_1266 1269 rfl ?_
  refine vv_iload_n C 0 dX6_init_1269 rfl rfl 1270 rfl ?_
  refine vv_iald C 14 ht0 ((st_ne (by decide)).trans hql) (vp_d (by decide) (by decide)) (116 : Int32) (by decide) dX6_init_1270 1271 rfl ?_
  refine vv_iastI C 6 ht0 (st_get hqt) (vp_d (by decide) (by decide)) (by decide) (ws0.set 6 (qt, .inl (cI, 160, .inl (pl [114, 101, 97, 99, 104, 101, 115, 32, 98, 114, 101, 97, 116, 104, 32, 59, 32, 99, 111, 115, 116])))) (List.set_set ..) dX6_init_1271 1272 rfl ?_
  refine vv_iinc C 0 (21 : Int32) [(1, .int 21), (0, .ref h0)] dX6_init_1272 rfl (by decide) (by decide) rfl 1275 rfl ?_
  refine vv_goto C 1254 dX6_init_1275 (by decide) ?_
  refine vv_iload_n C 0 dX6_init_1254 rfl rfl 1255 rfl ?_
  refine vv_bipush C (43 : Int32) dX6_init_1255 (by decide) 1257 rfl ?_
  refine vv_geF C dX6_init_1257 1278 (by decide) (by decide) 1260 rfl ?_
  refine vv_aload_n C 1 dX6_init_1260 rfl rfl 1261 rfl ?_
  refine vv_get C clw_X6 0 ((st_ne (by decide)).trans ho) 7 (by decide) wc_854 (.ref qt) hft dX6_init_1261 1264 rfl ?_
  refine vv_iload_n C 0 dX6_init_1264 rfl rfl 1265 rfl ?_
  refine vv_aload_n C 1 dX6_init_1265 rfl rfl 1266 rfl ?_
  refine vv_get C clw_X6 0 ((st_ne (by decide)).trans ho) 19 (by decide) wc_866 (.ref ql) hfl dX6_init_1266 1269 rfl ?_
  refine vv_iload_n C 0 dX6_init_1269 rfl rfl 1270 rfl ?_
  refine vv_iald C 14 ht0 ((st_ne (by decide)).trans hql) (vp_d (by decide) (by decide)) (115 : Int32) (by decide) dX6_init_1270 1271 rfl ?_
  refine vv_iastI C 6 ht0 (st_get hqt) (vp_d (by decide) (by decide)) (by decide) (ws0.set 6 (qt, .inl (cI, 160, .inl (pl [114, 101, 97, 99, 104, 101, 115, 32, 98, 114, 101, 97, 116, 104, 32, 59, 32, 99, 111, 115, 116, 115])))) (List.set_set ..) dX6_init_1271 1272 rfl ?_
  refine vv_iinc C 0 (22 : Int32) [(1, .int 22), (0, .ref h0)] dX6_init_1272 rfl (by decide) (by decide) rfl 1275 rfl ?_
  refine vv_goto C 1254 dX6_init_1275 (by decide) ?_
  refine vv_iload_n C 0 dX6_init_1254 rfl rfl 1255 rfl ?_
  refine vv_bipush C (43 : Int32) dX6_init_1255 (by decide) 1257 rfl ?_
  refine vv_geF C dX6_init_1257 1278 (by decide) (by decide) 1260 rfl ?_
  refine vv_aload_n C 1 dX6_init_1260 rfl rfl 1261 rfl ?_
  refine vv_get C clw_X6 0 ((st_ne (by decide)).trans ho) 7 (by decide) wc_854 (.ref qt) hft dX6_init_1261 1264 rfl ?_
  refine vv_iload_n C 0 dX6_init_1264 rfl rfl 1265 rfl ?_
  refine vv_aload_n C 1 dX6_init_1265 rfl rfl 1266 rfl ?_
  refine vv_get C clw_X6 0 ((st_ne (by decide)).trans ho) 19 (by decide) wc_866 (.ref ql) hfl dX6_init_1266 1269 rfl ?_
  refine vv_iload_n C 0 dX6_init_1269 rfl rfl 1270 rfl ?_
  refine vv_iald C 14 ht0 ((st_ne (by decide)).trans hql) (vp_d (by decide) (by decide)) (32 : Int32) (by decide) dX6_init_1270 1271 rfl ?_
  refine vv_iastI C 6 ht0 (st_get hqt) (vp_d (by decide) (by decide)) (by decide) (ws0.set 6 (qt, .inl (cI, 160, .inl (pl [114, 101, 97, 99, 104, 101, 115, 32, 98, 114, 101, 97, 116, 104, 32, 59, 32, 99, 111, 115, 116, 115, 32])))) (List.set_set ..) dX6_init_1271 1272 rfl ?_
  refine vv_iinc C 0 (23 : Int32) [(1, .int 23), (0, .ref h0)] dX6_init_1272 rfl (by decide) (by decide) rfl 1275 rfl ?_
  refine vv_goto C 1254 dX6_init_1275 (by decide) ?_
  refine vv_iload_n C 0 dX6_init_1254 rfl rfl 1255 rfl ?_
  refine vv_bipush C (43 : Int32) dX6_init_1255 (by decide) 1257 rfl ?_
  refine vv_geF C dX6_init_1257 1278 (by decide) (by decide) 1260 rfl ?_
  refine vv_aload_n C 1 dX6_init_1260 rfl rfl 1261 rfl ?_
  refine vv_get C clw_X6 0 ((st_ne (by decide)).trans ho) 7 (by decide) wc_854 (.ref qt) hft dX6_init_1261 1264 rfl ?_
  refine vv_iload_n C 0 dX6_init_1264 rfl rfl 1265 rfl ?_
  refine vv_aload_n C 1 dX6_init_1265 rfl rfl 1266 rfl ?_
  refine vv_get C clw_X6 0 ((st_ne (by decide)).trans ho) 19 (by decide) wc_866 (.ref ql) hfl dX6_init_1266 1269 rfl ?_
  refine vv_iload_n C 0 dX6_init_1269 rfl rfl 1270 rfl ?_
  refine vv_iald C 14 ht0 ((st_ne (by decide)).trans hql) (vp_d (by decide) (by decide)) (100 : Int32) (by decide) dX6_init_1270 1271 rfl ?_
  refine vv_iastI C 6 ht0 (st_get hqt) (vp_d (by decide) (by decide)) (by decide) (ws0.set 6 (qt, .inl (cI, 160, .inl (pl [114, 101, 97, 99, 104, 101, 115, 32, 98, 114, 101, 97, 116, 104, 32, 59, 32, 99, 111, 115, 116, 115, 32, 100])))) (List.set_set ..) dX6_init_1271 1272 rfl ?_
  refine vv_iinc C 0 (24 : Int32) [(1, .int 24), (0, .ref h0)] dX6_init_1272 rfl (by decide) (by decide) rfl 1275 rfl ?_
  refine vv_goto C 1254 dX6_init_1275 (by decide) ?_
  refine vv_iload_n C 0 dX6_init_1254 rfl rfl 1255 rfl ?_
  refine vv_bipush C (43 : Int32) dX6_init_1255 (by decide) 1257 rfl ?_
  refine vv_geF C dX6_init_1257 1278 (by decide) (by decide) 1260 rfl ?_
  refine vv_aload_n C 1 dX6_init_1260 rfl rfl 1261 rfl ?_
  refine vv_get C clw_X6 0 ((st_ne (by decide)).trans ho) 7 (by decide) wc_854 (.ref qt) hft dX6_init_1261 1264 rfl ?_
  refine vv_iload_n C 0 dX6_init_1264 rfl rfl 1265 rfl ?_
  refine vv_aload_n C 1 dX6_init_1265 rfl rfl 1266 rfl ?_
  refine vv_get C clw_X6 0 ((st_ne (by decide)).trans ho) 19 (by decide) wc_866 (.ref ql) hfl dX6_init_1266 1269 rfl ?_
  refine vv_iload_n C 0 dX6_init_1269 rfl rfl 1270 rfl ?_
  refine vv_iald C 14 ht0 ((st_ne (by decide)).trans hql) (vp_d (by decide) (by decide)) (101 : Int32) (by decide) dX6_init_1270 1271 rfl ?_
  refine vv_iastI C 6 ht0 (st_get hqt) (vp_d (by decide) (by decide)) (by decide) (ws0.set 6 (qt, .inl (cI, 160, .inl (pl [114, 101, 97, 99, 104, 101, 115, 32, 98, 114, 101, 97, 116, 104, 32, 59, 32, 99, 111, 115, 116, 115, 32, 100, 101])))) (List.set_set ..) dX6_init_1271 1272 rfl ?_
  refine vv_iinc C 0 (25 : Int32) [(1, .int 25), (0, .ref h0)] dX6_init_1272 rfl (by decide) (by decide) rfl 1275 rfl ?_
  refine vv_goto C 1254 dX6_init_1275 (by decide) ?_
  refine vv_iload_n C 0 dX6_init_1254 rfl rfl 1255 rfl ?_
  refine vv_bipush C (43 : Int32) dX6_init_1255 (by decide) 1257 rfl ?_
  refine vv_geF C dX6_init_1257 1278 (by decide) (by decide) 1260 rfl ?_
  refine vv_aload_n C 1 dX6_init_1260 rfl rfl 1261 rfl ?_
  refine vv_get C clw_X6 0 ((st_ne (by decide)).trans ho) 7 (by decide) wc_854 (.ref qt) hft dX6_init_1261 1264 rfl ?_
  refine vv_iload_n C 0 dX6_init_1264 rfl rfl 1265 rfl ?_
  refine vv_aload_n C 1 dX6_init_1265 rfl rfl 1266 rfl ?_
  refine vv_get C clw_X6 0 ((st_ne (by decide)).trans ho) 19 (by decide) wc_866 (.ref ql) hfl dX6_init_1266 1269 rfl ?_
  refine vv_iload_n C 0 dX6_init_1269 rfl rfl 1270 rfl ?_
  refine vv_iald C 14 ht0 ((st_ne (by decide)).trans hql) (vp_d (by decide) (by decide)) (101 : Int32) (by decide) dX6_init_1270 1271 rfl ?_
  refine vv_iastI C 6 ht0 (st_get hqt) (vp_d (by decide) (by decide)) (by decide) (ws0.set 6 (qt, .inl (cI, 160, .inl (pl [114, 101, 97, 99, 104, 101, 115, 32, 98, 114, 101, 97, 116, 104, 32, 59, 32, 99, 111, 115, 116, 115, 32, 100, 101, 101])))) (List.set_set ..) dX6_init_1271 1272 rfl ?_
  refine vv_iinc C 0 (26 : Int32) [(1, .int 26), (0, .ref h0)] dX6_init_1272 rfl (by decide) (by decide) rfl 1275 rfl ?_
  refine vv_goto C 1254 dX6_init_1275 (by decide) ?_
  refine vv_iload_n C 0 dX6_init_1254 rfl rfl 1255 rfl ?_
  refine vv_bipush C (43 : Int32) dX6_init_1255 (by decide) 1257 rfl ?_
  refine vv_geF C dX6_init_1257 1278 (by decide) (by decide) 1260 rfl ?_
  refine vv_aload_n C 1 dX6_init_1260 rfl rfl 1261 rfl ?_
  refine vv_get C clw_X6 0 ((st_ne (by decide)).trans ho) 7 (by decide) wc_854 (.ref qt) hft dX6_init_1261 1264 rfl ?_
  refine vv_iload_n C 0 dX6_init_1264 rfl rfl 1265 rfl ?_
  refine vv_aload_n C 1 dX6_init_1265 rfl rfl 1266 rfl ?_
  refine vv_get C clw_X6 0 ((st_ne (by decide)).trans ho) 19 (by decide) wc_866 (.ref ql) hfl dX6_init_1266 1269 rfl ?_
  refine vv_iload_n C 0 dX6_init_1269 rfl rfl 1270 rfl ?_
  refine vv_iald C 14 ht0 ((st_ne (by decide)).trans hql) (vp_d (by decide) (by decide)) (112 : Int32) (by decide) dX6_init_1270 1271 rfl ?_
  refine vv_iastI C 6 ht0 (st_get hqt) (vp_d (by decide) (by decide)) (by decide) (ws0.set 6 (qt, .inl (cI, 160, .inl (pl [114, 101, 97, 99, 104, 101, 115, 32, 98, 114, 101, 97, 116, 104, 32, 59, 32, 99, 111, 115, 116, 115, 32, 100, 101, 101, 112])))) (List.set_set ..) dX6_init_1271 1272 rfl ?_
  refine vv_iinc C 0 (27 : Int32) [(1, .int 27), (0, .ref h0)] dX6_init_1272 rfl (by decide) (by decide) rfl 1275 rfl ?_
  refine vv_goto C 1254 dX6_init_1275 (by decide) ?_
  refine vv_iload_n C 0 dX6_init_1254 rfl rfl 1255 rfl ?_
  refine vv_bipush C (43 : Int32) dX6_init_1255 (by decide) 1257 rfl ?_
  refine vv_geF C dX6_init_1257 1278 (by decide) (by decide) 1260 rfl ?_
  refine vv_aload_n C 1 dX6_init_1260 rfl rfl 1261 rfl ?_
  refine vv_get C clw_X6 0 ((st_ne (by decide)).trans ho) 7 (by decide) wc_854 (.ref qt) hft dX6_init_1261 1264 rfl ?_
  refine vv_iload_n C 0 dX6_init_1264 rfl rfl 1265 rfl ?_
  refine vv_aload_n C 1 dX6_init_1265 rfl rfl 1266 rfl ?_
  refine vv_get C clw_X6 0 ((st_ne (by decide)).trans ho) 19 (by decide) wc_866 (.ref ql) hfl dX6_init_1266 1269 rfl ?_
  refine vv_iload_n C 0 dX6_init_1269 rfl rfl 1270 rfl ?_
  refine vv_iald C 14 ht0 ((st_ne (by decide)).trans hql) (vp_d (by decide) (by decide)) (32 : Int32) (by decide) dX6_init_1270 1271 rfl ?_
  refine vv_iastI C 6 ht0 (st_get hqt) (vp_d (by decide) (by decide)) (by decide) (ws0.set 6 (qt, .inl (cI, 160, .inl (pl [114, 101, 97, 99, 104, 101, 115, 32, 98, 114, 101, 97, 116, 104, 32, 59, 32, 99, 111, 115, 116, 115, 32, 100, 101, 101, 112, 32])))) (List.set_set ..) dX6_init_1271 1272 rfl ?_
  refine vv_iinc C 0 (28 : Int32) [(1, .int 28), (0, .ref h0)] dX6_init_1272 rfl (by decide) (by decide) rfl 1275 rfl ?_
  refine vv_goto C 1254 dX6_init_1275 (by decide) ?_
  refine vv_iload_n C 0 dX6_init_1254 rfl rfl 1255 rfl ?_
  refine vv_bipush C (43 : Int32) dX6_init_1255 (by decide) 1257 rfl ?_
  refine vv_geF C dX6_init_1257 1278 (by decide) (by decide) 1260 rfl ?_
  refine vv_aload_n C 1 dX6_init_1260 rfl rfl 1261 rfl ?_
  refine vv_get C clw_X6 0 ((st_ne (by decide)).trans ho) 7 (by decide) wc_854 (.ref qt) hft dX6_init_1261 1264 rfl ?_
  refine vv_iload_n C 0 dX6_init_1264 rfl rfl 1265 rfl ?_
  refine vv_aload_n C 1 dX6_init_1265 rfl rfl 1266 rfl ?_
  refine vv_get C clw_X6 0 ((st_ne (by decide)).trans ho) 19 (by decide) wc_866 (.ref ql) hfl dX6_init_1266 1269 rfl ?_
  refine vv_iload_n C 0 dX6_init_1269 rfl rfl 1270 rfl ?_
  refine vv_iald C 14 ht0 ((st_ne (by decide)).trans hql) (vp_d (by decide) (by decide)) (42 : Int32) (by decide) dX6_init_1270 1271 rfl ?_
  refine vv_iastI C 6 ht0 (st_get hqt) (vp_d (by decide) (by decide)) (by decide) (ws0.set 6 (qt, .inl (cI, 160, .inl (pl [114, 101, 97, 99, 104, 101, 115, 32, 98, 114, 101, 97, 116, 104, 32, 59, 32, 99, 111, 115, 116, 115, 32, 100, 101, 101, 112, 32, 42])))) (List.set_set ..) dX6_init_1271 1272 rfl ?_
  refine vv_iinc C 0 (29 : Int32) [(1, .int 29), (0, .ref h0)] dX6_init_1272 rfl (by decide) (by decide) rfl 1275 rfl ?_
  refine vv_goto C 1254 dX6_init_1275 (by decide) ?_
  refine vv_iload_n C 0 dX6_init_1254 rfl rfl 1255 rfl ?_
  refine vv_bipush C (43 : Int32) dX6_init_1255 (by decide) 1257 rfl ?_
  refine vv_geF C dX6_init_1257 1278 (by decide) (by decide) 1260 rfl ?_
  refine vv_aload_n C 1 dX6_init_1260 rfl rfl 1261 rfl ?_
  refine vv_get C clw_X6 0 ((st_ne (by decide)).trans ho) 7 (by decide) wc_854 (.ref qt) hft dX6_init_1261 1264 rfl ?_
  refine vv_iload_n C 0 dX6_init_1264 rfl rfl 1265 rfl ?_
  refine vv_aload_n C 1 dX6_init_1265 rfl rfl 1266 rfl ?_
  refine vv_get C clw_X6 0 ((st_ne (by decide)).trans ho) 19 (by decide) wc_866 (.ref ql) hfl dX6_init_1266 1269 rfl ?_
  refine vv_iload_n C 0 dX6_init_1269 rfl rfl 1270 rfl ?_
  refine vv_iald C 14 ht0 ((st_ne (by decide)).trans hql) (vp_d (by decide) (by decide)) (32 : Int32) (by decide) dX6_init_1270 1271 rfl ?_
  refine vv_iastI C 6 ht0 (st_get hqt) (vp_d (by decide) (by decide)) (by decide) (ws0.set 6 (qt, .inl (cI, 160, .inl (pl [114, 101, 97, 99, 104, 101, 115, 32, 98, 114, 101, 97, 116, 104, 32, 59, 32, 99, 111, 115, 116, 115, 32, 100, 101, 101, 112, 32, 42, 32])))) (List.set_set ..) dX6_init_1271 1272 rfl ?_
  refine vv_iinc C 0 (30 : Int32) [(1, .int 30), (0, .ref h0)] dX6_init_1272 rfl (by decide) (by decide) rfl 1275 rfl ?_
  refine vv_goto C 1254 dX6_init_1275 (by decide) ?_
  refine vv_iload_n C 0 dX6_init_1254 rfl rfl 1255 rfl ?_
  refine vv_bipush C (43 : Int32) dX6_init_1255 (by decide) 1257 rfl ?_
  refine vv_geF C dX6_init_1257 1278 (by decide) (by decide) 1260 rfl ?_
  refine vv_aload_n C 1 dX6_init_1260 rfl rfl 1261 rfl ?_
  refine vv_get C clw_X6 0 ((st_ne (by decide)).trans ho) 7 (by decide) wc_854 (.ref qt) hft dX6_init_1261 1264 rfl ?_
  refine vv_iload_n C 0 dX6_init_1264 rfl rfl 1265 rfl ?_
  refine vv_aload_n C 1 dX6_init_1265 rfl rfl 1266 rfl ?_
  refine vv_get C clw_X6 0 ((st_ne (by decide)).trans ho) 19 (by decide) wc_866 (.ref ql) hfl dX6_init_1266 1269 rfl ?_
  refine vv_iload_n C 0 dX6_init_1269 rfl rfl 1270 rfl ?_
  refine vv_iald C 14 ht0 ((st_ne (by decide)).trans hql) (vp_d (by decide) (by decide)) (50 : Int32) (by decide) dX6_init_1270 1271 rfl ?_
  refine vv_iastI C 6 ht0 (st_get hqt) (vp_d (by decide) (by decide)) (by decide) (ws0.set 6 (qt, .inl (cI, 160, .inl (pl [114, 101, 97, 99, 104, 101, 115, 32, 98, 114, 101, 97, 116, 104, 32, 59, 32, 99, 111, 115, 116, 115, 32, 100, 101, 101, 112, 32, 42, 32, 50])))) (List.set_set ..) dX6_init_1271 1272 rfl ?_
  refine vv_iinc C 0 (31 : Int32) [(1, .int 31), (0, .ref h0)] dX6_init_1272 rfl (by decide) (by decide) rfl 1275 rfl ?_
  refine vv_goto C 1254 dX6_init_1275 (by decide) ?_
  refine vv_iload_n C 0 dX6_init_1254 rfl rfl 1255 rfl ?_
  refine vv_bipush C (43 : Int32) dX6_init_1255 (by decide) 1257 rfl ?_
  refine vv_geF C dX6_init_1257 1278 (by decide) (by decide) 1260 rfl ?_
  refine vv_aload_n C 1 dX6_init_1260 rfl rfl 1261 rfl ?_
  refine vv_get C clw_X6 0 ((st_ne (by decide)).trans ho) 7 (by decide) wc_854 (.ref qt) hft dX6_init_1261 1264 rfl ?_
  refine vv_iload_n C 0 dX6_init_1264 rfl rfl 1265 rfl ?_
  refine vv_aload_n C 1 dX6_init_1265 rfl rfl 1266 rfl ?_
  refine vv_get C clw_X6 0 ((st_ne (by decide)).trans ho) 19 (by decide) wc_866 (.ref ql) hfl dX6_init_1266 1269 rfl ?_
  refine vv_iload_n C 0 dX6_init_1269 rfl rfl 1270 rfl ?_
  refine vv_iald C 14 ht0 ((st_ne (by decide)).trans hql) (vp_d (by decide) (by decide)) (32 : Int32) (by decide) dX6_init_1270 1271 rfl ?_
  refine vv_iastI C 6 ht0 (st_get hqt) (vp_d (by decide) (by decide)) (by decide) (ws0.set 6 (qt, .inl (cI, 160, .inl (pl [114, 101, 97, 99, 104, 101, 115, 32, 98, 114, 101, 97, 116, 104, 32, 59, 32, 99, 111, 115, 116, 115, 32, 100, 101, 101, 112, 32, 42, 32, 50, 32])))) (List.set_set ..) dX6_init_1271 1272 rfl ?_
  refine vv_iinc C 0 (32 : Int32) [(1, .int 32), (0, .ref h0)] dX6_init_1272 rfl (by decide) (by decide) rfl 1275 rfl ?_
  refine vv_goto C 1254 dX6_init_1275 (by decide) ?_
  refine vv_iload_n C 0 dX6_init_1254 rfl rfl 1255 rfl ?_
  refine vv_bipush C (43 : Int32) dX6_init_1255 (by decide) 1257 rfl ?_
  refine vv_geF C dX6_init_1257 1278 (by decide) (by decide) 1260 rfl ?_
  refine vv_aload_n C 1 dX6_init_1260 rfl rfl 1261 rfl ?_
  refine vv_get C clw_X6 0 ((st_ne (by decide)).trans ho) 7 (by decide) wc_854 (.ref qt) hft dX6_init_1261 1264 rfl ?_
  refine vv_iload_n C 0 dX6_init_1264 rfl rfl 1265 rfl ?_
  refine vv_aload_n C 1 dX6_init_1265 rfl rfl 1266 rfl ?_
  refine vv_get C clw_X6 0 ((st_ne (by decide)).trans ho) 19 (by decide) wc_866 (.ref ql) hfl dX6_init_1266 1269 rfl ?_
  refine vv_iload_n C 0 dX6_init_1269 rfl rfl 1270 rfl ?_
  refine vv_iald C 14 ht0 ((st_ne (by decide)).trans hql) (vp_d (by decide) (by decide)) (59 : Int32) (by decide) dX6_init_1270 1271 rfl ?_
  refine vv_iastI C 6 ht0 (st_get hqt) (vp_d (by decide) (by decide)) (by decide) (ws0.set 6 (qt, .inl (cI, 160, .inl (pl [114, 101, 97, 99, 104, 101, 115, 32, 98, 114, 101, 97, 116, 104, 32, 59, 32, 99, 111, 115, 116, 115, 32, 100, 101, 101, 112, 32, 42, 32, 50, 32, 59])))) (List.set_set ..) dX6_init_1271 1272 rfl ?_
  refine vv_iinc C 0 (33 : Int32) [(1, .int 33), (0, .ref h0)] dX6_init_1272 rfl (by decide) (by decide) rfl 1275 rfl ?_
  refine vv_goto C 1254 dX6_init_1275 (by decide) ?_
  refine vv_iload_n C 0 dX6_init_1254 rfl rfl 1255 rfl ?_
  refine vv_bipush C (43 : Int32) dX6_init_1255 (by decide) 1257 rfl ?_
  refine vv_geF C dX6_init_1257 1278 (by decide) (by decide) 1260 rfl ?_
  refine vv_aload_n C 1 dX6_init_1260 rfl rfl 1261 rfl ?_
  refine vv_get C clw_X6 0 ((st_ne (by decide)).trans ho) 7 (by decide) wc_854 (.ref qt) hft dX6_init_1261 1264 rfl ?_
  refine vv_iload_n C 0 dX6_init_1264 rfl rfl 1265 rfl ?_
  refine vv_aload_n C 1 dX6_init_1265 rfl rfl 1266 rfl ?_
  refine vv_get C clw_X6 0 ((st_ne (by decide)).trans ho) 19 (by decide) wc_866 (.ref ql) hfl dX6_init_1266 1269 rfl ?_
  refine vv_iload_n C 0 dX6_init_1269 rfl rfl 1270 rfl ?_
  refine vv_iald C 14 ht0 ((st_ne (by decide)).trans hql) (vp_d (by decide) (by decide)) (32 : Int32) (by decide) dX6_init_1270 1271 rfl ?_
  refine vv_iastI C 6 ht0 (st_get hqt) (vp_d (by decide) (by decide)) (by decide) (ws0.set 6 (qt, .inl (cI, 160, .inl (pl [114, 101, 97, 99, 104, 101, 115, 32, 98, 114, 101, 97, 116, 104, 32, 59, 32, 99, 111, 115, 116, 115, 32, 100, 101, 101, 112, 32, 42, 32, 50, 32, 59, 32])))) (List.set_set ..) dX6_init_1271 1272 rfl ?_
  refine vv_iinc C 0 (34 : Int32) [(1, .int 34), (0, .ref h0)] dX6_init_1272 rfl (by decide) (by decide) rfl 1275 rfl ?_
  refine vv_goto C 1254 dX6_init_1275 (by decide) ?_
  refine vv_iload_n C 0 dX6_init_1254 rfl rfl 1255 rfl ?_
  refine vv_bipush C (43 : Int32) dX6_init_1255 (by decide) 1257 rfl ?_
  refine vv_geF C dX6_init_1257 1278 (by decide) (by decide) 1260 rfl ?_
  refine vv_aload_n C 1 dX6_init_1260 rfl rfl 1261 rfl ?_
  refine vv_get C clw_X6 0 ((st_ne (by decide)).trans ho) 7 (by decide) wc_854 (.ref qt) hft dX6_init_1261 1264 rfl ?_
  refine vv_iload_n C 0 dX6_init_1264 rfl rfl 1265 rfl ?_
  refine vv_aload_n C 1 dX6_init_1265 rfl rfl 1266 rfl ?_
  refine vv_get C clw_X6 0 ((st_ne (by decide)).trans ho) 19 (by decide) wc_866 (.ref ql) hfl dX6_init_1266 1269 rfl ?_
  refine vv_iload_n C 0 dX6_init_1269 rfl rfl 1270 rfl ?_
  refine vv_iald C 14 ht0 ((st_ne (by decide)).trans hql) (vp_d (by decide) (by decide)) (102 : Int32) (by decide) dX6_init_1270 1271 rfl ?_
  refine vv_iastI C 6 ht0 (st_get hqt) (vp_d (by decide) (by decide)) (by decide) (ws0.set 6 (qt, .inl (cI, 160, .inl (pl [114, 101, 97, 99, 104, 101, 115, 32, 98, 114, 101, 97, 116, 104, 32, 59, 32, 99, 111, 115, 116, 115, 32, 100, 101, 101, 112, 32, 42, 32, 50, 32, 59, 32, 102])))) (List.set_set ..) dX6_init_1271 1272 rfl ?_
  refine vv_iinc C 0 (35 : Int32) [(1, .int 35), (0, .ref h0)] dX6_init_1272 rfl (by decide) (by decide) rfl 1275 rfl ?_
  refine vv_goto C 1254 dX6_init_1275 (by decide) ?_
  refine vv_iload_n C 0 dX6_init_1254 rfl rfl 1255 rfl ?_
  refine vv_bipush C (43 : Int32) dX6_init_1255 (by decide) 1257 rfl ?_
  refine vv_geF C dX6_init_1257 1278 (by decide) (by decide) 1260 rfl ?_
  refine vv_aload_n C 1 dX6_init_1260 rfl rfl 1261 rfl ?_
  refine vv_get C clw_X6 0 ((st_ne (by decide)).trans ho) 7 (by decide) wc_854 (.ref qt) hft dX6_init_1261 1264 rfl ?_
  refine vv_iload_n C 0 dX6_init_1264 rfl rfl 1265 rfl ?_
  refine vv_aload_n C 1 dX6_init_1265 rfl rfl 1266 rfl ?_
  refine vv_get C clw_X6 0 ((st_ne (by decide)).trans ho) 19 (by decide) wc_866 (.ref ql) hfl dX6_init_1266 1269 rfl ?_
  refine vv_iload_n C 0 dX6_init_1269 rfl rfl 1270 rfl ?_
  refine vv_iald C 14 ht0 ((st_ne (by decide)).trans hql) (vp_d (by decide) (by decide)) (97 : Int32) (by decide) dX6_init_1270 1271 rfl ?_
  refine vv_iastI C 6 ht0 (st_get hqt) (vp_d (by decide) (by decide)) (by decide) (ws0.set 6 (qt, .inl (cI, 160, .inl (pl [114, 101, 97, 99, 104, 101, 115, 32, 98, 114, 101, 97, 116, 104, 32, 59, 32, 99, 111, 115, 116, 115, 32, 100, 101, 101, 112, 32, 42, 32, 50, 32, 59, 32, 102, 97])))) (List.set_set ..) dX6_init_1271 1272 rfl ?_
  refine vv_iinc C 0 (36 : Int32) [(1, .int 36), (0, .ref h0)] dX6_init_1272 rfl (by decide) (by decide) rfl 1275 rfl ?_
  refine vv_goto C 1254 dX6_init_1275 (by decide) ?_
  refine vv_iload_n C 0 dX6_init_1254 rfl rfl 1255 rfl ?_
  refine vv_bipush C (43 : Int32) dX6_init_1255 (by decide) 1257 rfl ?_
  refine vv_geF C dX6_init_1257 1278 (by decide) (by decide) 1260 rfl ?_
  refine vv_aload_n C 1 dX6_init_1260 rfl rfl 1261 rfl ?_
  refine vv_get C clw_X6 0 ((st_ne (by decide)).trans ho) 7 (by decide) wc_854 (.ref qt) hft dX6_init_1261 1264 rfl ?_
  refine vv_iload_n C 0 dX6_init_1264 rfl rfl 1265 rfl ?_
  refine vv_aload_n C 1 dX6_init_1265 rfl rfl 1266 rfl ?_
  refine vv_get C clw_X6 0 ((st_ne (by decide)).trans ho) 19 (by decide) wc_866 (.ref ql) hfl dX6_init_1266 1269 rfl ?_
  refine vv_iload_n C 0 dX6_init_1269 rfl rfl 1270 rfl ?_
  refine vv_iald C 14 ht0 ((st_ne (by decide)).trans hql) (vp_d (by decide) (by decide)) (100 : Int32) (by decide) dX6_init_1270 1271 rfl ?_
  refine vv_iastI C 6 ht0 (st_get hqt) (vp_d (by decide) (by decide)) (by decide) (ws0.set 6 (qt, .inl (cI, 160, .inl (pl [114, 101, 97, 99, 104, 101, 115, 32, 98, 114, 101, 97, 116, 104, 32, 59, 32, 99, 111, 115, 116, 115, 32, 100, 101, 101, 112, 32, 42, 32, 50, 32, 59, 32, 102, 97, 100])))) (List.set_set ..) dX6_init_1271 1272 rfl ?_
  refine vv_iinc C 0 (37 : Int32) [(1, .int 37), (0, .ref h0)] dX6_init_1272 rfl (by decide) (by decide) rfl 1275 rfl ?_
  refine vv_goto C 1254 dX6_init_1275 (by decide) ?_
  refine vv_iload_n C 0 dX6_init_1254 rfl rfl 1255 rfl ?_
  refine vv_bipush C (43 : Int32) dX6_init_1255 (by decide) 1257 rfl ?_
  refine vv_geF C dX6_init_1257 1278 (by decide) (by decide) 1260 rfl ?_
  refine vv_aload_n C 1 dX6_init_1260 rfl rfl 1261 rfl ?_
  refine vv_get C clw_X6 0 ((st_ne (by decide)).trans ho) 7 (by decide) wc_854 (.ref qt) hft dX6_init_1261 1264 rfl ?_
  refine vv_iload_n C 0 dX6_init_1264 rfl rfl 1265 rfl ?_
  refine vv_aload_n C 1 dX6_init_1265 rfl rfl 1266 rfl ?_
  refine vv_get C clw_X6 0 ((st_ne (by decide)).trans ho) 19 (by decide) wc_866 (.ref ql) hfl dX6_init_1266 1269 rfl ?_
  refine vv_iload_n C 0 dX6_init_1269 rfl rfl 1270 rfl ?_
  refine vv_iald C 14 ht0 ((st_ne (by decide)).trans hql) (vp_d (by decide) (by decide)) (101 : Int32) (by decide) dX6_init_1270 1271 rfl ?_
  refine vv_iastI C 6 ht0 (st_get hqt) (vp_d (by decide) (by decide)) (by decide) (ws0.set 6 (qt, .inl (cI, 160, .inl (pl [114, 101, 97, 99, 104, 101, 115, 32, 98, 114, 101, 97, 116, 104, 32, 59, 32, 99, 111, 115, 116, 115, 32, 100, 101, 101, 112, 32, 42, 32, 50, 32, 59, 32, 102, 97, 100, 101])))) (List.set_set ..) dX6_init_1271 1272 rfl ?_
  refine vv_iinc C 0 (38 : Int32) [(1, .int 38), (0, .ref h0)] dX6_init_1272 rfl (by decide) (by decide) rfl 1275 rfl ?_
  refine vv_goto C 1254 dX6_init_1275 (by decide) ?_
  refine vv_iload_n C 0 dX6_init_1254 rfl rfl 1255 rfl ?_
  refine vv_bipush C (43 : Int32) dX6_init_1255 (by decide) 1257 rfl ?_
  refine vv_geF C dX6_init_1257 1278 (by decide) (by decide) 1260 rfl ?_
  refine vv_aload_n C 1 dX6_init_1260 rfl rfl 1261 rfl ?_
  refine vv_get C clw_X6 0 ((st_ne (by decide)).trans ho) 7 (by decide) wc_854 (.ref qt) hft dX6_init_1261 1264 rfl ?_
  refine vv_iload_n C 0 dX6_init_1264 rfl rfl 1265 rfl ?_
  refine vv_aload_n C 1 dX6_init_1265 rfl rfl 1266 rfl ?_
  refine vv_get C clw_X6 0 ((st_ne (by decide)).trans ho) 19 (by decide) wc_866 (.ref ql) hfl dX6_init_1266 1269 rfl ?_
  refine vv_iload_n C 0 dX6_init_1269 rfl rfl 1270 rfl ?_
  refine vv_iald C 14 ht0 ((st_ne (by decide)).trans hql) (vp_d (by decide) (by decide)) (115 : Int32) (by decide) dX6_init_1270 1271 rfl ?_
  refine vv_iastI C 6 ht0 (st_get hqt) (vp_d (by decide) (by decide)) (by decide) (ws0.set 6 (qt, .inl (cI, 160, .inl (pl [114, 101, 97, 99, 104, 101, 115, 32, 98, 114, 101, 97, 116, 104, 32, 59, 32, 99, 111, 115, 116, 115, 32, 100, 101, 101, 112, 32, 42, 32, 50, 32, 59, 32, 102, 97, 100, 101, 115])))) (List.set_set ..) dX6_init_1271 1272 rfl ?_
  refine vv_iinc C 0 (39 : Int32) [(1, .int 39), (0, .ref h0)] dX6_init_1272 rfl (by decide) (by decide) rfl 1275 rfl ?_
  refine vv_goto C 1254 dX6_init_1275 (by decide) ?_
  refine vv_iload_n C 0 dX6_init_1254 rfl rfl 1255 rfl ?_
  refine vv_bipush C (43 : Int32) dX6_init_1255 (by decide) 1257 rfl ?_
  refine vv_geF C dX6_init_1257 1278 (by decide) (by decide) 1260 rfl ?_
  refine vv_aload_n C 1 dX6_init_1260 rfl rfl 1261 rfl ?_
  refine vv_get C clw_X6 0 ((st_ne (by decide)).trans ho) 7 (by decide) wc_854 (.ref qt) hft dX6_init_1261 1264 rfl ?_
  refine vv_iload_n C 0 dX6_init_1264 rfl rfl 1265 rfl ?_
  refine vv_aload_n C 1 dX6_init_1265 rfl rfl 1266 rfl ?_
  refine vv_get C clw_X6 0 ((st_ne (by decide)).trans ho) 19 (by decide) wc_866 (.ref ql) hfl dX6_init_1266 1269 rfl ?_
  refine vv_iload_n C 0 dX6_init_1269 rfl rfl 1270 rfl ?_
  refine vv_iald C 14 ht0 ((st_ne (by decide)).trans hql) (vp_d (by decide) (by decide)) (32 : Int32) (by decide) dX6_init_1270 1271 rfl ?_
  refine vv_iastI C 6 ht0 (st_get hqt) (vp_d (by decide) (by decide)) (by decide) (ws0.set 6 (qt, .inl (cI, 160, .inl (pl [114, 101, 97, 99, 104, 101, 115, 32, 98, 114, 101, 97, 116, 104, 32, 59, 32, 99, 111, 115, 116, 115, 32, 100, 101, 101, 112, 32, 42, 32, 50, 32, 59, 32, 102, 97, 100, 101, 115, 32])))) (List.set_set ..) dX6_init_1271 1272 rfl ?_
  refine vv_iinc C 0 (40 : Int32) [(1, .int 40), (0, .ref h0)] dX6_init_1272 rfl (by decide) (by decide) rfl 1275 rfl ?_
  refine vv_goto C 1254 dX6_init_1275 (by decide) ?_
  refine vv_iload_n C 0 dX6_init_1254 rfl rfl 1255 rfl ?_
  refine vv_bipush C (43 : Int32) dX6_init_1255 (by decide) 1257 rfl ?_
  refine vv_geF C dX6_init_1257 1278 (by decide) (by decide) 1260 rfl ?_
  refine vv_aload_n C 1 dX6_init_1260 rfl rfl 1261 rfl ?_
  refine vv_get C clw_X6 0 ((st_ne (by decide)).trans ho) 7 (by decide) wc_854 (.ref qt) hft dX6_init_1261 1264 rfl ?_
  refine vv_iload_n C 0 dX6_init_1264 rfl rfl 1265 rfl ?_
  refine vv_aload_n C 1 dX6_init_1265 rfl rfl 1266 rfl ?_
  refine vv_get C clw_X6 0 ((st_ne (by decide)).trans ho) 19 (by decide) wc_866 (.ref ql) hfl dX6_init_1266 1269 rfl ?_
  refine vv_iload_n C 0 dX6_init_1269 rfl rfl 1270 rfl ?_
  refine vv_iald C 14 ht0 ((st_ne (by decide)).trans hql) (vp_d (by decide) (by decide)) (51 : Int32) (by decide) dX6_init_1270 1271 rfl ?_
  refine vv_iastI C 6 ht0 (st_get hqt) (vp_d (by decide) (by decide)) (by decide) (ws0.set 6 (qt, .inl (cI, 160, .inl (pl [114, 101, 97, 99, 104, 101, 115, 32, 98, 114, 101, 97, 116, 104, 32, 59, 32, 99, 111, 115, 116, 115, 32, 100, 101, 101, 112, 32, 42, 32, 50, 32, 59, 32, 102, 97, 100, 101, 115, 32, 51])))) (List.set_set ..) dX6_init_1271 1272 rfl ?_
  refine vv_iinc C 0 (41 : Int32) [(1, .int 41), (0, .ref h0)] dX6_init_1272 rfl (by decide) (by decide) rfl 1275 rfl ?_
  refine vv_goto C 1254 dX6_init_1275 (by decide) ?_
  refine vv_iload_n C 0 dX6_init_1254 rfl rfl 1255 rfl ?_
  refine vv_bipush C (43 : Int32) dX6_init_1255 (by decide) 1257 rfl ?_
  refine vv_geF C dX6_init_1257 1278 (by decide) (by decide) 1260 rfl ?_
  refine vv_aload_n C 1 dX6_init_1260 rfl rfl 1261 rfl ?_
  refine vv_get C clw_X6 0 ((st_ne (by decide)).trans ho) 7 (by decide) wc_854 (.ref qt) hft dX6_init_1261 1264 rfl ?_
  refine vv_iload_n C 0 dX6_init_1264 rfl rfl 1265 rfl ?_
  refine vv_aload_n C 1 dX6_init_1265 rfl rfl 1266 rfl ?_
  refine vv_get C clw_X6 0 ((st_ne (by decide)).trans ho) 19 (by decide) wc_866 (.ref ql) hfl dX6_init_1266 1269 rfl ?_
  refine vv_iload_n C 0 dX6_init_1269 rfl rfl 1270 rfl ?_
  refine vv_iald C 14 ht0 ((st_ne (by decide)).trans hql) (vp_d (by decide) (by decide)) (32 : Int32) (by decide) dX6_init_1270 1271 rfl ?_
  refine vv_iastI C 6 ht0 (st_get hqt) (vp_d (by decide) (by decide)) (by decide) (ws0.set 6 (qt, .inl (cI, 160, .inl (pl [114, 101, 97, 99, 104, 101, 115, 32, 98, 114, 101, 97, 116, 104, 32, 59, 32, 99, 111, 115, 116, 115, 32, 100, 101, 101, 112, 32, 42, 32, 50, 32, 59, 32, 102, 97, 100, 101, 115, 32, 51, 32])))) (List.set_set ..) dX6_init_1271 1272 rfl ?_
  refine vv_iinc C 0 (42 : Int32) [(1, .int 42), (0, .ref h0)] dX6_init_1272 rfl (by decide) (by decide) rfl 1275 rfl ?_
  refine vv_goto C 1254 dX6_init_1275 (by decide) ?_
  refine vv_iload_n C 0 dX6_init_1254 rfl rfl 1255 rfl ?_
  refine vv_bipush C (43 : Int32) dX6_init_1255 (by decide) 1257 rfl ?_
  refine vv_geF C dX6_init_1257 1278 (by decide) (by decide) 1260 rfl ?_
  refine vv_aload_n C 1 dX6_init_1260 rfl rfl 1261 rfl ?_
  refine vv_get C clw_X6 0 ((st_ne (by decide)).trans ho) 7 (by decide) wc_854 (.ref qt) hft dX6_init_1261 1264 rfl ?_
  refine vv_iload_n C 0 dX6_init_1264 rfl rfl 1265 rfl ?_
  refine vv_aload_n C 1 dX6_init_1265 rfl rfl 1266 rfl ?_
  refine vv_get C clw_X6 0 ((st_ne (by decide)).trans ho) 19 (by decide) wc_866 (.ref ql) hfl dX6_init_1266 1269 rfl ?_
  refine vv_iload_n C 0 dX6_init_1269 rfl rfl 1270 rfl ?_
  refine vv_iald C 14 ht0 ((st_ne (by decide)).trans hql) (vp_d (by decide) (by decide)) (59 : Int32) (by decide) dX6_init_1270 1271 rfl ?_
  refine vv_iastI C 6 ht0 (st_get hqt) (vp_d (by decide) (by decide)) (by decide) (ws0.set 6 (qt, .inl (cI, 160, .inl (pl [114, 101, 97, 99, 104, 101, 115, 32, 98, 114, 101, 97, 116, 104, 32, 59, 32, 99, 111, 115, 116, 115, 32, 100, 101, 101, 112, 32, 42, 32, 50, 32, 59, 32, 102, 97, 100, 101, 115, 32, 51, 32, 59])))) (List.set_set ..) dX6_init_1271 1272 rfl ?_
  refine vv_iinc C 0 (43 : Int32) [(1, .int 43), (0, .ref h0)] dX6_init_1272 rfl (by decide) (by decide) rfl 1275 rfl ?_
  refine vv_goto C 1254 dX6_init_1275 (by decide) ?_
  refine vv_iload_n C 0 dX6_init_1254 rfl rfl 1255 rfl ?_
  refine vv_bipush C (43 : Int32) dX6_init_1255 (by decide) 1257 rfl ?_
  refine vv_geT C 1278 dX6_init_1257 (by decide) (by decide) ?_
  exact k
def LM0 : List (List Int32) := [[0, 0, 0, 0, 0, 0, 0, 0, 43, 0, 0, 0, 0, 0, 0, 0, 0, 0, 0, 0, 0, 0, 0, 0, 0, 0, 0, 0, 0, 0, 0, 0, 0, 0], [], [], [], mA33, [], mA385, [], [], [], [], mA345, [], [], mA385, mA645, [], [], [], []]
def gM0 : Mem := (fun k => pl (LM0.getD k []), fun _ => none)
theorem GE_M {ad : Nat → Nat} {tys : List (ClassId × FieldType)} {cI : ClassId} (ht0 : tys[0]? = some (cI, .int)) (hi : ∀ i j, i < 20 → j < 20 → ad i = ad j → i = j) : GE YM ad (fun _ => cI) tys 20 := by
  refine ⟨hi, fun k hk h0 => ht0, fun k hk h1 => ?_⟩
  have : ∀ k, k < 20 → kdM k ≠ 1 := by decide
  exact absurd h1 (this k hk)
set_option maxRecDepth 100000 in
set_option maxHeartbeats 20000000 in
theorem c_X6_init {l : Launch} {D : va_G} {sa : Nat → Nat} {tys : List (ClassId × FieldType)} {cI : ClassId} (ht0 : tys[0]? = some (cI, .int)) {N : Nat} {gB : Mem} {rB : Int32} (hB : X6_text N gM0 = some (rB, gB)) (h0 : Nat) : CI l yX6_init (wsm yX6_init cX6_init 2 none) 400 19 2311 D tys sa [(h0, .inr (5, [.int 0, .null, .null, .null, .null, .null, .int 0, .null, .int 0, .null, .null, .int 0, .int 0, .int 0, .null, .null, .null, .null, .null, .null, .int 0, .int 0, .int 0, .int 0, .null, .null, .int 0, .int 0, .int 0, .null, .null, .null, .int 0, .int 0]))] [.ref h0] (fun u : {f : Nat → Nat // f 0 = h0} => wl YM u.1 (fun _ => cI) 20 gB) := by
  refine ci_of RX6 rfl (by decide +kernel) (Nat.le_of_ble_eq_true rfl) rfl ?_
  intro p e R s m args below meth c A hA C hRc hRs hin hr
  refine vv_aload_n C 0 dX6_init_0 rfl rfl 1 rfl ?_
  refine vv_objInit C wc_799 wc_oi (by decide) (Nat.le_of_ble_eq_true rfl) dX6_init_1 4 rfl ?_
  refine vv_aload_n C 0 dX6_init_4 rfl rfl 5 rfl ?_
  refine vv_bipush C (6 : Int32) dX6_init_5 (by decide) 7 rfl ?_
  refine vv_newa C ht0 wc_ac 6 (by decide) (by decide) (by decide) (by rw [hRc]; exact Nat.le_of_ble_eq_true rfl) (by rw [hRs]; exact Nat.le_of_ble_eq_true rfl) dX6_init_7 1 6 rfl rfl 9 rfl (fun q0 => ?_)
  refine vv_ws (ws2 := [(h0, .inr (5, [.int 0, .null, .null, .null, .null, .null, .int 0, .null, .int 0, .null, .null, .int 0, .int 0, .int 0, .null, .null, .null, .null, .null, .null, .int 0, .int 0, .int 0, .int 0, .null, .null, .int 0, .int 0, .int 0, .null, .null, .null, .int 0, .int 0])), (q0, .inl (cI, 6, .inl (pl [])))]) rfl ?_
  refine vv_putF C hin clw_X6 0 rfl 1 (by decide) tyX6 tyX6_ok nmX6 rfl rfl wc_848 rfl rfl (Nat.le_of_ble_eq_true rfl) [(h0, .inr (5, [.int 0, .ref q0, .null, .null, .null, .null, .int 0, .null, .int 0, .null, .null, .int 0, .int 0, .int 0, .null, .null, .null, .null, .null, .null, .int 0, .int 0, .int 0, .int 0, .null, .null, .int 0, .int 0, .int 0, .null, .null, .null, .int 0, .int 0])), (q0, .inl (cI, 6, .inl (pl [])))] rfl dX6_init_9 12 rfl ?_
  refine vv_aload_n C 0 dX6_init_12 rfl rfl 13 rfl ?_
  refine vv_bipush C (6 : Int32) dX6_init_13 (by decide) 15 rfl ?_
  refine vv_newa C ht0 wc_ac 6 (by decide) (by decide) (by decide) (by rw [hRc]; exact Nat.le_of_ble_eq_true rfl) (by rw [hRs]; exact Nat.le_of_ble_eq_true rfl) dX6_init_15 2 12 rfl rfl 17 rfl (fun q1 => ?_)
  refine vv_ws (ws2 := [(h0, .inr (5, [.int 0, .ref q0, .null, .null, .null, .null, .int 0, .null, .int 0, .null, .null, .int 0, .int 0, .int 0, .null, .null, .null, .null, .null, .null, .int 0, .int 0, .int 0, .int 0, .null, .null, .int 0, .int 0, .int 0, .null, .null, .null, .int 0, .int 0])), (q0, .inl (cI, 6, .inl (pl []))), (q1, .inl (cI, 6, .inl (pl [])))]) rfl ?_
  refine vv_putF C hin clw_X6 0 rfl 2 (by decide) tyX6 tyX6_ok nmX6 rfl rfl wc_849 rfl rfl (Nat.le_of_ble_eq_true rfl) [(h0, .inr (5, [.int 0, .ref q0, .ref q1, .null, .null, .null, .int 0, .null, .int 0, .null, .null, .int 0, .int 0, .int 0, .null, .null, .null, .null, .null, .null, .int 0, .int 0, .int 0, .int 0, .null, .null, .int 0, .int 0, .int 0, .null, .null, .null, .int 0, .int 0])), (q0, .inl (cI, 6, .inl (pl []))), (q1, .inl (cI, 6, .inl (pl [])))] rfl dX6_init_17 20 rfl ?_
  refine vv_aload_n C 0 dX6_init_20 rfl rfl 21 rfl ?_
  refine vv_bipush C (12 : Int32) dX6_init_21 (by decide) 23 rfl ?_
  refine vv_newa C ht0 wc_ac 12 (by decide) (by decide) (by decide) (by rw [hRc]; exact Nat.le_of_ble_eq_true rfl) (by rw [hRs]; exact Nat.le_of_ble_eq_true rfl) dX6_init_23 3 24 rfl rfl 25 rfl (fun q2 => ?_)
  refine vv_ws (ws2 := [(h0, .inr (5, [.int 0, .ref q0, .ref q1, .null, .null, .null, .int 0, .null, .int 0, .null, .null, .int 0, .int 0, .int 0, .null, .null, .null, .null, .null, .null, .int 0, .int 0, .int 0, .int 0, .null, .null, .int 0, .int 0, .int 0, .null, .null, .null, .int 0, .int 0])), (q0, .inl (cI, 6, .inl (pl []))), (q1, .inl (cI, 6, .inl (pl []))), (q2, .inl (cI, 12, .inl (pl [])))]) rfl ?_
  refine vv_putF C hin clw_X6 0 rfl 3 (by decide) tyX6 tyX6_ok nmX6 rfl rfl wc_850 rfl rfl (Nat.le_of_ble_eq_true rfl) [(h0, .inr (5, [.int 0, .ref q0, .ref q1, .ref q2, .null, .null, .int 0, .null, .int 0, .null, .null, .int 0, .int 0, .int 0, .null, .null, .null, .null, .null, .null, .int 0, .int 0, .int 0, .int 0, .null, .null, .int 0, .int 0, .int 0, .null, .null, .null, .int 0, .int 0])), (q0, .inl (cI, 6, .inl (pl []))), (q1, .inl (cI, 6, .inl (pl []))), (q2, .inl (cI, 12, .inl (pl [])))] rfl dX6_init_25 28 rfl ?_
  refine vv_aload_n C 0 dX6_init_28 rfl rfl 29 rfl ?_
  refine vv_bipush C (48 : Int32) dX6_init_29 (by decide) 31 rfl ?_
  refine vv_newa C ht0 wc_ac 48 (by decide) (by decide) (by decide) (by rw [hRc]; exact Nat.le_of_ble_eq_true rfl) (by rw [hRs]; exact Nat.le_of_ble_eq_true rfl) dX6_init_31 4 72 rfl rfl 33 rfl (fun q3 => ?_)
  refine vv_ws (ws2 := [(h0, .inr (5, [.int 0, .ref q0, .ref q1, .ref q2, .null, .null, .int 0, .null, .int 0, .null, .null, .int 0, .int 0, .int 0, .null, .null, .null, .null, .null, .null, .int 0, .int 0, .int 0, .int 0, .null, .null, .int 0, .int 0, .int 0, .null, .null, .null, .int 0, .int 0])), (q0, .inl (cI, 6, .inl (pl []))), (q1, .inl (cI, 6, .inl (pl []))), (q2, .inl (cI, 12, .inl (pl []))), (q3, .inl (cI, 48, .inl (pl [])))]) rfl ?_
  refine vv_ws ([(h0, .inr (5, [.int 0, .ref q0, .ref q1, .ref q2, .null, .null, .int 0, .null, .int 0, .null, .null, .int 0, .int 0, .int 0, .null, .null, .null, .null, .null, .null, .int 0, .int 0, .int 0, .int 0, .null, .null, .int 0, .int 0, .int 0, .null, .null, .null, .int 0, .int 0])), (q0, .inl (cI, 6, .inl (pl []))), (q1, .inl (cI, 6, .inl (pl []))), (q2, .inl (cI, 12, .inl (pl [])))] ++ [(q3, .inl (cI, 48, .inl (pl [])))]) rfl ?_
  refine seg_33 C ht0 _ q3 h0 ?_
  refine vv_ws ([(h0, .inr (5, [.int 0, .ref q0, .ref q1, .ref q2, .null, .null, .int 0, .null, .int 0, .null, .null, .int 0, .int 0, .int 0, .null, .null, .null, .null, .null, .null, .int 0, .int 0, .int 0, .int 0, .null, .null, .int 0, .int 0, .int 0, .null, .null, .null, .int 0, .int 0])), (q0, .inl (cI, 6, .inl (pl []))), (q1, .inl (cI, 6, .inl (pl []))), (q2, .inl (cI, 12, .inl (pl []))), (q3, .inl (cI, 48, .inl (pl mA33)))]) rfl ?_
  refine vv_putF C hin clw_X6 0 rfl 4 (by decide) tyX6 tyX6_ok nmX6 rfl rfl wc_851 rfl rfl (Nat.le_of_ble_eq_true rfl) [(h0, .inr (5, [.int 0, .ref q0, .ref q1, .ref q2, .ref q3, .null, .int 0, .null, .int 0, .null, .null, .int 0, .int 0, .int 0, .null, .null, .null, .null, .null, .null, .int 0, .int 0, .int 0, .int 0, .null, .null, .int 0, .int 0, .int 0, .null, .null, .null, .int 0, .int 0])), (q0, .inl (cI, 6, .inl (pl []))), (q1, .inl (cI, 6, .inl (pl []))), (q2, .inl (cI, 12, .inl (pl []))), (q3, .inl (cI, 48, .inl (pl mA33)))] rfl dX6_init_289 292 rfl ?_
  refine vv_aload_n C 0 dX6_init_292 rfl rfl 293 rfl ?_
  refine vv_bipush C (6 : Int32) dX6_init_293 (by decide) 295 rfl ?_
  refine vv_newa C ht0 wc_ac 6 (by decide) (by decide) (by decide) (by rw [hRc]; exact Nat.le_of_ble_eq_true rfl) (by rw [hRs]; exact Nat.le_of_ble_eq_true rfl) dX6_init_295 5 78 rfl rfl 297 rfl (fun q4 => ?_)
  refine vv_ws (ws2 := [(h0, .inr (5, [.int 0, .ref q0, .ref q1, .ref q2, .ref q3, .null, .int 0, .null, .int 0, .null, .null, .int 0, .int 0, .int 0, .null, .null, .null, .null, .null, .null, .int 0, .int 0, .int 0, .int 0, .null, .null, .int 0, .int 0, .int 0, .null, .null, .null, .int 0, .int 0])), (q0, .inl (cI, 6, .inl (pl []))), (q1, .inl (cI, 6, .inl (pl []))), (q2, .inl (cI, 12, .inl (pl []))), (q3, .inl (cI, 48, .inl (pl mA33))), (q4, .inl (cI, 6, .inl (pl [])))]) rfl ?_
  refine vv_putF C hin clw_X6 0 rfl 5 (by decide) tyX6 tyX6_ok nmX6 rfl rfl wc_852 rfl rfl (Nat.le_of_ble_eq_true rfl) [(h0, .inr (5, [.int 0, .ref q0, .ref q1, .ref q2, .ref q3, .ref q4, .int 0, .null, .int 0, .null, .null, .int 0, .int 0, .int 0, .null, .null, .null, .null, .null, .null, .int 0, .int 0, .int 0, .int 0, .null, .null, .int 0, .int 0, .int 0, .null, .null, .null, .int 0, .int 0])), (q0, .inl (cI, 6, .inl (pl []))), (q1, .inl (cI, 6, .inl (pl []))), (q2, .inl (cI, 12, .inl (pl []))), (q3, .inl (cI, 48, .inl (pl mA33))), (q4, .inl (cI, 6, .inl (pl [])))] rfl dX6_init_297 300 rfl ?_
  refine vv_aload_n C 0 dX6_init_300 rfl rfl 301 rfl ?_
  refine vv_sipush C (160 : Int32) dX6_init_301 (by decide) 304 rfl ?_
  refine vv_newa C ht0 wc_ac 160 (by decide) (by decide) (by decide) (by rw [hRc]; exact Nat.le_of_ble_eq_true rfl) (by rw [hRs]; exact Nat.le_of_ble_eq_true rfl) dX6_init_304 6 238 rfl rfl 306 rfl (fun q5 => ?_)
  refine vv_ws (ws2 := [(h0, .inr (5, [.int 0, .ref q0, .ref q1, .ref q2, .ref q3, .ref q4, .int 0, .null, .int 0, .null, .null, .int 0, .int 0, .int 0, .null, .null, .null, .null, .null, .null, .int 0, .int 0, .int 0, .int 0, .null, .null, .int 0, .int 0, .int 0, .null, .null, .null, .int 0, .int 0])), (q0, .inl (cI, 6, .inl (pl []))), (q1, .inl (cI, 6, .inl (pl []))), (q2, .inl (cI, 12, .inl (pl []))), (q3, .inl (cI, 48, .inl (pl mA33))), (q4, .inl (cI, 6, .inl (pl []))), (q5, .inl (cI, 160, .inl (pl [])))]) rfl ?_
  refine vv_putF C hin clw_X6 0 rfl 7 (by decide) tyX6 tyX6_ok nmX6 rfl rfl wc_854 rfl rfl (Nat.le_of_ble_eq_true rfl) [(h0, .inr (5, [.int 0, .ref q0, .ref q1, .ref q2, .ref q3, .ref q4, .int 0, .ref q5, .int 0, .null, .null, .int 0, .int 0, .int 0, .null, .null, .null, .null, .null, .null, .int 0, .int 0, .int 0, .int 0, .null, .null, .int 0, .int 0, .int 0, .null, .null, .null, .int 0, .int 0])), (q0, .inl (cI, 6, .inl (pl []))), (q1, .inl (cI, 6, .inl (pl []))), (q2, .inl (cI, 12, .inl (pl []))), (q3, .inl (cI, 48, .inl (pl mA33))), (q4, .inl (cI, 6, .inl (pl []))), (q5, .inl (cI, 160, .inl (pl [])))] rfl dX6_init_306 309 rfl ?_
  refine vv_aload_n C 0 dX6_init_309 rfl rfl 310 rfl ?_
  refine vv_sipush C (1200 : Int32) dX6_init_310 (by decide) 313 rfl ?_
  refine vv_newa C ht0 wc_ac 1200 (by decide) (by decide) (by decide) (by rw [hRc]; exact Nat.le_of_ble_eq_true rfl) (by rw [hRs]; exact Nat.le_of_ble_eq_true rfl) dX6_init_313 7 1438 rfl rfl 315 rfl (fun q6 => ?_)
  refine vv_ws (ws2 := [(h0, .inr (5, [.int 0, .ref q0, .ref q1, .ref q2, .ref q3, .ref q4, .int 0, .ref q5, .int 0, .null, .null, .int 0, .int 0, .int 0, .null, .null, .null, .null, .null, .null, .int 0, .int 0, .int 0, .int 0, .null, .null, .int 0, .int 0, .int 0, .null, .null, .null, .int 0, .int 0])), (q0, .inl (cI, 6, .inl (pl []))), (q1, .inl (cI, 6, .inl (pl []))), (q2, .inl (cI, 12, .inl (pl []))), (q3, .inl (cI, 48, .inl (pl mA33))), (q4, .inl (cI, 6, .inl (pl []))), (q5, .inl (cI, 160, .inl (pl []))), (q6, .inl (cI, 1200, .inl (pl [])))]) rfl ?_
  refine vv_putF C hin clw_X6 0 rfl 9 (by decide) tyX6 tyX6_ok nmX6 rfl rfl wc_856 rfl rfl (Nat.le_of_ble_eq_true rfl) [(h0, .inr (5, [.int 0, .ref q0, .ref q1, .ref q2, .ref q3, .ref q4, .int 0, .ref q5, .int 0, .ref q6, .null, .int 0, .int 0, .int 0, .null, .null, .null, .null, .null, .null, .int 0, .int 0, .int 0, .int 0, .null, .null, .int 0, .int 0, .int 0, .null, .null, .null, .int 0, .int 0])), (q0, .inl (cI, 6, .inl (pl []))), (q1, .inl (cI, 6, .inl (pl []))), (q2, .inl (cI, 12, .inl (pl []))), (q3, .inl (cI, 48, .inl (pl mA33))), (q4, .inl (cI, 6, .inl (pl []))), (q5, .inl (cI, 160, .inl (pl []))), (q6, .inl (cI, 1200, .inl (pl [])))] rfl dX6_init_315 318 rfl ?_
  refine vv_aload_n C 0 dX6_init_318 rfl rfl 319 rfl ?_
  refine vv_bipush C (24 : Int32) dX6_init_319 (by decide) 321 rfl ?_
  refine vv_newa C ht0 wc_ac 24 (by decide) (by decide) (by decide) (by rw [hRc]; exact Nat.le_of_ble_eq_true rfl) (by rw [hRs]; exact Nat.le_of_ble_eq_true rfl) dX6_init_321 8 1462 rfl rfl 323 rfl (fun q7 => ?_)
  refine vv_ws (ws2 := [(h0, .inr (5, [.int 0, .ref q0, .ref q1, .ref q2, .ref q3, .ref q4, .int 0, .ref q5, .int 0, .ref q6, .null, .int 0, .int 0, .int 0, .null, .null, .null, .null, .null, .null, .int 0, .int 0, .int 0, .int 0, .null, .null, .int 0, .int 0, .int 0, .null, .null, .null, .int 0, .int 0])), (q0, .inl (cI, 6, .inl (pl []))), (q1, .inl (cI, 6, .inl (pl []))), (q2, .inl (cI, 12, .inl (pl []))), (q3, .inl (cI, 48, .inl (pl mA33))), (q4, .inl (cI, 6, .inl (pl []))), (q5, .inl (cI, 160, .inl (pl []))), (q6, .inl (cI, 1200, .inl (pl []))), (q7, .inl (cI, 24, .inl (pl [])))]) rfl ?_
  refine vv_putF C hin clw_X6 0 rfl 10 (by decide) tyX6 tyX6_ok nmX6 rfl rfl wc_857 rfl rfl (Nat.le_of_ble_eq_true rfl) [(h0, .inr (5, [.int 0, .ref q0, .ref q1, .ref q2, .ref q3, .ref q4, .int 0, .ref q5, .int 0, .ref q6, .ref q7, .int 0, .int 0, .int 0, .null, .null, .null, .null, .null, .null, .int 0, .int 0, .int 0, .int 0, .null, .null, .int 0, .int 0, .int 0, .null, .null, .null, .int 0, .int 0])), (q0, .inl (cI, 6, .inl (pl []))), (q1, .inl (cI, 6, .inl (pl []))), (q2, .inl (cI, 12, .inl (pl []))), (q3, .inl (cI, 48, .inl (pl mA33))), (q4, .inl (cI, 6, .inl (pl []))), (q5, .inl (cI, 160, .inl (pl []))), (q6, .inl (cI, 1200, .inl (pl []))), (q7, .inl (cI, 24, .inl (pl [])))] rfl dX6_init_323 326 rfl ?_
  refine vv_aload_n C 0 dX6_init_326 rfl rfl 327 rfl ?_
  refine vv_bipush C (66 : Int32) dX6_init_327 (by decide) 329 rfl ?_
  refine vv_newa C ht0 wc_ac 66 (by decide) (by decide) (by decide) (by rw [hRc]; exact Nat.le_of_ble_eq_true rfl) (by rw [hRs]; exact Nat.le_of_ble_eq_true rfl) dX6_init_329 9 1528 rfl rfl 331 rfl (fun q8 => ?_)
  refine vv_ws (ws2 := [(h0, .inr (5, [.int 0, .ref q0, .ref q1, .ref q2, .ref q3, .ref q4, .int 0, .ref q5, .int 0, .ref q6, .ref q7, .int 0, .int 0, .int 0, .null, .null, .null, .null, .null, .null, .int 0, .int 0, .int 0, .int 0, .null, .null, .int 0, .int 0, .int 0, .null, .null, .null, .int 0, .int 0])), (q0, .inl (cI, 6, .inl (pl []))), (q1, .inl (cI, 6, .inl (pl []))), (q2, .inl (cI, 12, .inl (pl []))), (q3, .inl (cI, 48, .inl (pl mA33))), (q4, .inl (cI, 6, .inl (pl []))), (q5, .inl (cI, 160, .inl (pl []))), (q6, .inl (cI, 1200, .inl (pl []))), (q7, .inl (cI, 24, .inl (pl []))), (q8, .inl (cI, 66, .inl (pl [])))]) rfl ?_
  refine vv_putF C hin clw_X6 0 rfl 14 (by decide) tyX6 tyX6_ok nmX6 rfl rfl wc_861 rfl rfl (Nat.le_of_ble_eq_true rfl) [(h0, .inr (5, [.int 0, .ref q0, .ref q1, .ref q2, .ref q3, .ref q4, .int 0, .ref q5, .int 0, .ref q6, .ref q7, .int 0, .int 0, .int 0, .ref q8, .null, .null, .null, .null, .null, .int 0, .int 0, .int 0, .int 0, .null, .null, .int 0, .int 0, .int 0, .null, .null, .null, .int 0, .int 0])), (q0, .inl (cI, 6, .inl (pl []))), (q1, .inl (cI, 6, .inl (pl []))), (q2, .inl (cI, 12, .inl (pl []))), (q3, .inl (cI, 48, .inl (pl mA33))), (q4, .inl (cI, 6, .inl (pl []))), (q5, .inl (cI, 160, .inl (pl []))), (q6, .inl (cI, 1200, .inl (pl []))), (q7, .inl (cI, 24, .inl (pl []))), (q8, .inl (cI, 66, .inl (pl [])))] rfl dX6_init_331 334 rfl ?_
  refine vv_aload_n C 0 dX6_init_334 rfl rfl 335 rfl ?_
  refine vv_iconst C (3 : Int32) dX6_init_335 (by decide) 336 rfl ?_
  refine vv_newa C ht0 wc_ac 3 (by decide) (by decide) (by decide) (by rw [hRc]; exact Nat.le_of_ble_eq_true rfl) (by rw [hRs]; exact Nat.le_of_ble_eq_true rfl) dX6_init_336 10 1531 rfl rfl 338 rfl (fun q9 => ?_)
  refine vv_ws (ws2 := [(h0, .inr (5, [.int 0, .ref q0, .ref q1, .ref q2, .ref q3, .ref q4, .int 0, .ref q5, .int 0, .ref q6, .ref q7, .int 0, .int 0, .int 0, .ref q8, .null, .null, .null, .null, .null, .int 0, .int 0, .int 0, .int 0, .null, .null, .int 0, .int 0, .int 0, .null, .null, .null, .int 0, .int 0])), (q0, .inl (cI, 6, .inl (pl []))), (q1, .inl (cI, 6, .inl (pl []))), (q2, .inl (cI, 12, .inl (pl []))), (q3, .inl (cI, 48, .inl (pl mA33))), (q4, .inl (cI, 6, .inl (pl []))), (q5, .inl (cI, 160, .inl (pl []))), (q6, .inl (cI, 1200, .inl (pl []))), (q7, .inl (cI, 24, .inl (pl []))), (q8, .inl (cI, 66, .inl (pl []))), (q9, .inl (cI, 3, .inl (pl [])))]) rfl ?_
  refine vv_putF C hin clw_X6 0 rfl 15 (by decide) tyX6 tyX6_ok nmX6 rfl rfl wc_862 rfl rfl (Nat.le_of_ble_eq_true rfl) [(h0, .inr (5, [.int 0, .ref q0, .ref q1, .ref q2, .ref q3, .ref q4, .int 0, .ref q5, .int 0, .ref q6, .ref q7, .int 0, .int 0, .int 0, .ref q8, .ref q9, .null, .null, .null, .null, .int 0, .int 0, .int 0, .int 0, .null, .null, .int 0, .int 0, .int 0, .null, .null, .null, .int 0, .int 0])), (q0, .inl (cI, 6, .inl (pl []))), (q1, .inl (cI, 6, .inl (pl []))), (q2, .inl (cI, 12, .inl (pl []))), (q3, .inl (cI, 48, .inl (pl mA33))), (q4, .inl (cI, 6, .inl (pl []))), (q5, .inl (cI, 160, .inl (pl []))), (q6, .inl (cI, 1200, .inl (pl []))), (q7, .inl (cI, 24, .inl (pl []))), (q8, .inl (cI, 66, .inl (pl []))), (q9, .inl (cI, 3, .inl (pl [])))] rfl dX6_init_338 341 rfl ?_
  refine vv_aload_n C 0 dX6_init_341 rfl rfl 342 rfl ?_
  refine vv_iconst C (4 : Int32) dX6_init_342 (by decide) 343 rfl ?_
  refine vv_newa C ht0 wc_ac 4 (by decide) (by decide) (by decide) (by rw [hRc]; exact Nat.le_of_ble_eq_true rfl) (by rw [hRs]; exact Nat.le_of_ble_eq_true rfl) dX6_init_343 11 1535 rfl rfl 345 rfl (fun q10 => ?_)
  refine vv_ws (ws2 := [(h0, .inr (5, [.int 0, .ref q0, .ref q1, .ref q2, .ref q3, .ref q4, .int 0, .ref q5, .int 0, .ref q6, .ref q7, .int 0, .int 0, .int 0, .ref q8, .ref q9, .null, .null, .null, .null, .int 0, .int 0, .int 0, .int 0, .null, .null, .int 0, .int 0, .int 0, .null, .null, .null, .int 0, .int 0])), (q0, .inl (cI, 6, .inl (pl []))), (q1, .inl (cI, 6, .inl (pl []))), (q2, .inl (cI, 12, .inl (pl []))), (q3, .inl (cI, 48, .inl (pl mA33))), (q4, .inl (cI, 6, .inl (pl []))), (q5, .inl (cI, 160, .inl (pl []))), (q6, .inl (cI, 1200, .inl (pl []))), (q7, .inl (cI, 24, .inl (pl []))), (q8, .inl (cI, 66, .inl (pl []))), (q9, .inl (cI, 3, .inl (pl []))), (q10, .inl (cI, 4, .inl (pl [])))]) rfl ?_
  refine vv_ws ([(h0, .inr (5, [.int 0, .ref q0, .ref q1, .ref q2, .ref q3, .ref q4, .int 0, .ref q5, .int 0, .ref q6, .ref q7, .int 0, .int 0, .int 0, .ref q8, .ref q9, .null, .null, .null, .null, .int 0, .int 0, .int 0, .int 0, .null, .null, .int 0, .int 0, .int 0, .null, .null, .null, .int 0, .int 0])), (q0, .inl (cI, 6, .inl (pl []))), (q1, .inl (cI, 6, .inl (pl []))), (q2, .inl (cI, 12, .inl (pl []))), (q3, .inl (cI, 48, .inl (pl mA33))), (q4, .inl (cI, 6, .inl (pl []))), (q5, .inl (cI, 160, .inl (pl []))), (q6, .inl (cI, 1200, .inl (pl []))), (q7, .inl (cI, 24, .inl (pl []))), (q8, .inl (cI, 66, .inl (pl []))), (q9, .inl (cI, 3, .inl (pl [])))] ++ [(q10, .inl (cI, 4, .inl (pl [])))]) rfl ?_
  refine seg_345 C ht0 _ q10 h0 ?_
  refine vv_ws ([(h0, .inr (5, [.int 0, .ref q0, .ref q1, .ref q2, .ref q3, .ref q4, .int 0, .ref q5, .int 0, .ref q6, .ref q7, .int 0, .int 0, .int 0, .ref q8, .ref q9, .null, .null, .null, .null, .int 0, .int 0, .int 0, .int 0, .null, .null, .int 0, .int 0, .int 0, .null, .null, .null, .int 0, .int 0])), (q0, .inl (cI, 6, .inl (pl []))), (q1, .inl (cI, 6, .inl (pl []))), (q2, .inl (cI, 12, .inl (pl []))), (q3, .inl (cI, 48, .inl (pl mA33))), (q4, .inl (cI, 6, .inl (pl []))), (q5, .inl (cI, 160, .inl (pl []))), (q6, .inl (cI, 1200, .inl (pl []))), (q7, .inl (cI, 24, .inl (pl []))), (q8, .inl (cI, 66, .inl (pl []))), (q9, .inl (cI, 3, .inl (pl []))), (q10, .inl (cI, 4, .inl (pl mA345)))]) rfl ?_
  refine vv_putF C hin clw_X6 0 rfl 16 (by decide) tyX6 tyX6_ok nmX6 rfl rfl wc_863 rfl rfl (Nat.le_of_ble_eq_true rfl) [(h0, .inr (5, [.int 0, .ref q0, .ref q1, .ref q2, .ref q3, .ref q4, .int 0, .ref q5, .int 0, .ref q6, .ref q7, .int 0, .int 0, .int 0, .ref q8, .ref q9, .ref q10, .null, .null, .null, .int 0, .int 0, .int 0, .int 0, .null, .null, .int 0, .int 0, .int 0, .null, .null, .null, .int 0, .int 0])), (q0, .inl (cI, 6, .inl (pl []))), (q1, .inl (cI, 6, .inl (pl []))), (q2, .inl (cI, 12, .inl (pl []))), (q3, .inl (cI, 48, .inl (pl mA33))), (q4, .inl (cI, 6, .inl (pl []))), (q5, .inl (cI, 160, .inl (pl []))), (q6, .inl (cI, 1200, .inl (pl []))), (q7, .inl (cI, 24, .inl (pl []))), (q8, .inl (cI, 66, .inl (pl []))), (q9, .inl (cI, 3, .inl (pl []))), (q10, .inl (cI, 4, .inl (pl mA345)))] rfl dX6_init_361 364 rfl ?_
  refine vv_aload_n C 0 dX6_init_364 rfl rfl 365 rfl ?_
  refine vv_iconst C (4 : Int32) dX6_init_365 (by decide) 366 rfl ?_
  refine vv_newa C ht0 wc_ac 4 (by decide) (by decide) (by decide) (by rw [hRc]; exact Nat.le_of_ble_eq_true rfl) (by rw [hRs]; exact Nat.le_of_ble_eq_true rfl) dX6_init_366 12 1539 rfl rfl 368 rfl (fun q11 => ?_)
  refine vv_ws (ws2 := [(h0, .inr (5, [.int 0, .ref q0, .ref q1, .ref q2, .ref q3, .ref q4, .int 0, .ref q5, .int 0, .ref q6, .ref q7, .int 0, .int 0, .int 0, .ref q8, .ref q9, .ref q10, .null, .null, .null, .int 0, .int 0, .int 0, .int 0, .null, .null, .int 0, .int 0, .int 0, .null, .null, .null, .int 0, .int 0])), (q0, .inl (cI, 6, .inl (pl []))), (q1, .inl (cI, 6, .inl (pl []))), (q2, .inl (cI, 12, .inl (pl []))), (q3, .inl (cI, 48, .inl (pl mA33))), (q4, .inl (cI, 6, .inl (pl []))), (q5, .inl (cI, 160, .inl (pl []))), (q6, .inl (cI, 1200, .inl (pl []))), (q7, .inl (cI, 24, .inl (pl []))), (q8, .inl (cI, 66, .inl (pl []))), (q9, .inl (cI, 3, .inl (pl []))), (q10, .inl (cI, 4, .inl (pl mA345))), (q11, .inl (cI, 4, .inl (pl [])))]) rfl ?_
  refine vv_putF C hin clw_X6 0 rfl 17 (by decide) tyX6 tyX6_ok nmX6 rfl rfl wc_864 rfl rfl (Nat.le_of_ble_eq_true rfl) [(h0, .inr (5, [.int 0, .ref q0, .ref q1, .ref q2, .ref q3, .ref q4, .int 0, .ref q5, .int 0, .ref q6, .ref q7, .int 0, .int 0, .int 0, .ref q8, .ref q9, .ref q10, .ref q11, .null, .null, .int 0, .int 0, .int 0, .int 0, .null, .null, .int 0, .int 0, .int 0, .null, .null, .null, .int 0, .int 0])), (q0, .inl (cI, 6, .inl (pl []))), (q1, .inl (cI, 6, .inl (pl []))), (q2, .inl (cI, 12, .inl (pl []))), (q3, .inl (cI, 48, .inl (pl mA33))), (q4, .inl (cI, 6, .inl (pl []))), (q5, .inl (cI, 160, .inl (pl []))), (q6, .inl (cI, 1200, .inl (pl []))), (q7, .inl (cI, 24, .inl (pl []))), (q8, .inl (cI, 66, .inl (pl []))), (q9, .inl (cI, 3, .inl (pl []))), (q10, .inl (cI, 4, .inl (pl mA345))), (q11, .inl (cI, 4, .inl (pl [])))] rfl dX6_init_368 371 rfl ?_
  refine vv_aload_n C 0 dX6_init_371 rfl rfl 372 rfl ?_
  refine vv_sipush C (160 : Int32) dX6_init_372 (by decide) 375 rfl ?_
  refine vv_newa C ht0 wc_ac 160 (by decide) (by decide) (by decide) (by rw [hRc]; exact Nat.le_of_ble_eq_true rfl) (by rw [hRs]; exact Nat.le_of_ble_eq_true rfl) dX6_init_375 13 1699 rfl rfl 377 rfl (fun q12 => ?_)
  refine vv_ws (ws2 := [(h0, .inr (5, [.int 0, .ref q0, .ref q1, .ref q2, .ref q3, .ref q4, .int 0, .ref q5, .int 0, .ref q6, .ref q7, .int 0, .int 0, .int 0, .ref q8, .ref q9, .ref q10, .ref q11, .null, .null, .int 0, .int 0, .int 0, .int 0, .null, .null, .int 0, .int 0, .int 0, .null, .null, .null, .int 0, .int 0])), (q0, .inl (cI, 6, .inl (pl []))), (q1, .inl (cI, 6, .inl (pl []))), (q2, .inl (cI, 12, .inl (pl []))), (q3, .inl (cI, 48, .inl (pl mA33))), (q4, .inl (cI, 6, .inl (pl []))), (q5, .inl (cI, 160, .inl (pl []))), (q6, .inl (cI, 1200, .inl (pl []))), (q7, .inl (cI, 24, .inl (pl []))), (q8, .inl (cI, 66, .inl (pl []))), (q9, .inl (cI, 3, .inl (pl []))), (q10, .inl (cI, 4, .inl (pl mA345))), (q11, .inl (cI, 4, .inl (pl []))), (q12, .inl (cI, 160, .inl (pl [])))]) rfl ?_
  refine vv_putF C hin clw_X6 0 rfl 18 (by decide) tyX6 tyX6_ok nmX6 rfl rfl wc_865 rfl rfl (Nat.le_of_ble_eq_true rfl) [(h0, .inr (5, [.int 0, .ref q0, .ref q1, .ref q2, .ref q3, .ref q4, .int 0, .ref q5, .int 0, .ref q6, .ref q7, .int 0, .int 0, .int 0, .ref q8, .ref q9, .ref q10, .ref q11, .ref q12, .null, .int 0, .int 0, .int 0, .int 0, .null, .null, .int 0, .int 0, .int 0, .null, .null, .null, .int 0, .int 0])), (q0, .inl (cI, 6, .inl (pl []))), (q1, .inl (cI, 6, .inl (pl []))), (q2, .inl (cI, 12, .inl (pl []))), (q3, .inl (cI, 48, .inl (pl mA33))), (q4, .inl (cI, 6, .inl (pl []))), (q5, .inl (cI, 160, .inl (pl []))), (q6, .inl (cI, 1200, .inl (pl []))), (q7, .inl (cI, 24, .inl (pl []))), (q8, .inl (cI, 66, .inl (pl []))), (q9, .inl (cI, 3, .inl (pl []))), (q10, .inl (cI, 4, .inl (pl mA345))), (q11, .inl (cI, 4, .inl (pl []))), (q12, .inl (cI, 160, .inl (pl [])))] rfl dX6_init_377 380 rfl ?_
  refine vv_aload_n C 0 dX6_init_380 rfl rfl 381 rfl ?_
  refine vv_bipush C (43 : Int32) dX6_init_381 (by decide) 383 rfl ?_
  refine vv_newa C ht0 wc_ac 43 (by decide) (by decide) (by decide) (by rw [hRc]; exact Nat.le_of_ble_eq_true rfl) (by rw [hRs]; exact Nat.le_of_ble_eq_true rfl) dX6_init_383 14 1742 rfl rfl 385 rfl (fun q13 => ?_)
  refine vv_ws (ws2 := [(h0, .inr (5, [.int 0, .ref q0, .ref q1, .ref q2, .ref q3, .ref q4, .int 0, .ref q5, .int 0, .ref q6, .ref q7, .int 0, .int 0, .int 0, .ref q8, .ref q9, .ref q10, .ref q11, .ref q12, .null, .int 0, .int 0, .int 0, .int 0, .null, .null, .int 0, .int 0, .int 0, .null, .null, .null, .int 0, .int 0])), (q0, .inl (cI, 6, .inl (pl []))), (q1, .inl (cI, 6, .inl (pl []))), (q2, .inl (cI, 12, .inl (pl []))), (q3, .inl (cI, 48, .inl (pl mA33))), (q4, .inl (cI, 6, .inl (pl []))), (q5, .inl (cI, 160, .inl (pl []))), (q6, .inl (cI, 1200, .inl (pl []))), (q7, .inl (cI, 24, .inl (pl []))), (q8, .inl (cI, 66, .inl (pl []))), (q9, .inl (cI, 3, .inl (pl []))), (q10, .inl (cI, 4, .inl (pl mA345))), (q11, .inl (cI, 4, .inl (pl []))), (q12, .inl (cI, 160, .inl (pl []))), (q13, .inl (cI, 43, .inl (pl [])))]) rfl ?_
  refine vv_ws ([(h0, .inr (5, [.int 0, .ref q0, .ref q1, .ref q2, .ref q3, .ref q4, .int 0, .ref q5, .int 0, .ref q6, .ref q7, .int 0, .int 0, .int 0, .ref q8, .ref q9, .ref q10, .ref q11, .ref q12, .null, .int 0, .int 0, .int 0, .int 0, .null, .null, .int 0, .int 0, .int 0, .null, .null, .null, .int 0, .int 0])), (q0, .inl (cI, 6, .inl (pl []))), (q1, .inl (cI, 6, .inl (pl []))), (q2, .inl (cI, 12, .inl (pl []))), (q3, .inl (cI, 48, .inl (pl mA33))), (q4, .inl (cI, 6, .inl (pl []))), (q5, .inl (cI, 160, .inl (pl []))), (q6, .inl (cI, 1200, .inl (pl []))), (q7, .inl (cI, 24, .inl (pl []))), (q8, .inl (cI, 66, .inl (pl []))), (q9, .inl (cI, 3, .inl (pl []))), (q10, .inl (cI, 4, .inl (pl mA345))), (q11, .inl (cI, 4, .inl (pl []))), (q12, .inl (cI, 160, .inl (pl [])))] ++ [(q13, .inl (cI, 43, .inl (pl [])))]) rfl ?_
  refine seg_385 C ht0 _ q13 h0 ?_
  refine vv_ws ([(h0, .inr (5, [.int 0, .ref q0, .ref q1, .ref q2, .ref q3, .ref q4, .int 0, .ref q5, .int 0, .ref q6, .ref q7, .int 0, .int 0, .int 0, .ref q8, .ref q9, .ref q10, .ref q11, .ref q12, .null, .int 0, .int 0, .int 0, .int 0, .null, .null, .int 0, .int 0, .int 0, .null, .null, .null, .int 0, .int 0])), (q0, .inl (cI, 6, .inl (pl []))), (q1, .inl (cI, 6, .inl (pl []))), (q2, .inl (cI, 12, .inl (pl []))), (q3, .inl (cI, 48, .inl (pl mA33))), (q4, .inl (cI, 6, .inl (pl []))), (q5, .inl (cI, 160, .inl (pl []))), (q6, .inl (cI, 1200, .inl (pl []))), (q7, .inl (cI, 24, .inl (pl []))), (q8, .inl (cI, 66, .inl (pl []))), (q9, .inl (cI, 3, .inl (pl []))), (q10, .inl (cI, 4, .inl (pl mA345))), (q11, .inl (cI, 4, .inl (pl []))), (q12, .inl (cI, 160, .inl (pl []))), (q13, .inl (cI, 43, .inl (pl mA385)))]) rfl ?_
  refine vv_putF C hin clw_X6 0 rfl 19 (by decide) tyX6 tyX6_ok nmX6 rfl rfl wc_866 rfl rfl (Nat.le_of_ble_eq_true rfl) [(h0, .inr (5, [.int 0, .ref q0, .ref q1, .ref q2, .ref q3, .ref q4, .int 0, .ref q5, .int 0, .ref q6, .ref q7, .int 0, .int 0, .int 0, .ref q8, .ref q9, .ref q10, .ref q11, .ref q12, .ref q13, .int 0, .int 0, .int 0, .int 0, .null, .null, .int 0, .int 0, .int 0, .null, .null, .null, .int 0, .int 0])), (q0, .inl (cI, 6, .inl (pl []))), (q1, .inl (cI, 6, .inl (pl []))), (q2, .inl (cI, 12, .inl (pl []))), (q3, .inl (cI, 48, .inl (pl mA33))), (q4, .inl (cI, 6, .inl (pl []))), (q5, .inl (cI, 160, .inl (pl []))), (q6, .inl (cI, 1200, .inl (pl []))), (q7, .inl (cI, 24, .inl (pl []))), (q8, .inl (cI, 66, .inl (pl []))), (q9, .inl (cI, 3, .inl (pl []))), (q10, .inl (cI, 4, .inl (pl mA345))), (q11, .inl (cI, 4, .inl (pl []))), (q12, .inl (cI, 160, .inl (pl []))), (q13, .inl (cI, 43, .inl (pl mA385)))] rfl dX6_init_637 640 rfl ?_
  refine vv_aload_n C 0 dX6_init_640 rfl rfl 641 rfl ?_
  refine vv_bipush C (96 : Int32) dX6_init_641 (by decide) 643 rfl ?_
  refine vv_newa C ht0 wc_ac 96 (by decide) (by decide) (by decide) (by rw [hRc]; exact Nat.le_of_ble_eq_true rfl) (by rw [hRs]; exact Nat.le_of_ble_eq_true rfl) dX6_init_643 15 1838 rfl rfl 645 rfl (fun q14 => ?_)
  refine vv_ws (ws2 := [(h0, .inr (5, [.int 0, .ref q0, .ref q1, .ref q2, .ref q3, .ref q4, .int 0, .ref q5, .int 0, .ref q6, .ref q7, .int 0, .int 0, .int 0, .ref q8, .ref q9, .ref q10, .ref q11, .ref q12, .ref q13, .int 0, .int 0, .int 0, .int 0, .null, .null, .int 0, .int 0, .int 0, .null, .null, .null, .int 0, .int 0])), (q0, .inl (cI, 6, .inl (pl []))), (q1, .inl (cI, 6, .inl (pl []))), (q2, .inl (cI, 12, .inl (pl []))), (q3, .inl (cI, 48, .inl (pl mA33))), (q4, .inl (cI, 6, .inl (pl []))), (q5, .inl (cI, 160, .inl (pl []))), (q6, .inl (cI, 1200, .inl (pl []))), (q7, .inl (cI, 24, .inl (pl []))), (q8, .inl (cI, 66, .inl (pl []))), (q9, .inl (cI, 3, .inl (pl []))), (q10, .inl (cI, 4, .inl (pl mA345))), (q11, .inl (cI, 4, .inl (pl []))), (q12, .inl (cI, 160, .inl (pl []))), (q13, .inl (cI, 43, .inl (pl mA385))), (q14, .inl (cI, 96, .inl (pl [])))]) rfl ?_
  refine vv_ws ([(h0, .inr (5, [.int 0, .ref q0, .ref q1, .ref q2, .ref q3, .ref q4, .int 0, .ref q5, .int 0, .ref q6, .ref q7, .int 0, .int 0, .int 0, .ref q8, .ref q9, .ref q10, .ref q11, .ref q12, .ref q13, .int 0, .int 0, .int 0, .int 0, .null, .null, .int 0, .int 0, .int 0, .null, .null, .null, .int 0, .int 0])), (q0, .inl (cI, 6, .inl (pl []))), (q1, .inl (cI, 6, .inl (pl []))), (q2, .inl (cI, 12, .inl (pl []))), (q3, .inl (cI, 48, .inl (pl mA33))), (q4, .inl (cI, 6, .inl (pl []))), (q5, .inl (cI, 160, .inl (pl []))), (q6, .inl (cI, 1200, .inl (pl []))), (q7, .inl (cI, 24, .inl (pl []))), (q8, .inl (cI, 66, .inl (pl []))), (q9, .inl (cI, 3, .inl (pl []))), (q10, .inl (cI, 4, .inl (pl mA345))), (q11, .inl (cI, 4, .inl (pl []))), (q12, .inl (cI, 160, .inl (pl []))), (q13, .inl (cI, 43, .inl (pl mA385)))] ++ [(q14, .inl (cI, 96, .inl (pl [])))]) rfl ?_
  refine seg_645 C ht0 _ q14 h0 ?_
  refine vv_ws ([(h0, .inr (5, [.int 0, .ref q0, .ref q1, .ref q2, .ref q3, .ref q4, .int 0, .ref q5, .int 0, .ref q6, .ref q7, .int 0, .int 0, .int 0, .ref q8, .ref q9, .ref q10, .ref q11, .ref q12, .ref q13, .int 0, .int 0, .int 0, .int 0, .null, .null, .int 0, .int 0, .int 0, .null, .null, .null, .int 0, .int 0])), (q0, .inl (cI, 6, .inl (pl []))), (q1, .inl (cI, 6, .inl (pl []))), (q2, .inl (cI, 12, .inl (pl []))), (q3, .inl (cI, 48, .inl (pl mA33))), (q4, .inl (cI, 6, .inl (pl []))), (q5, .inl (cI, 160, .inl (pl []))), (q6, .inl (cI, 1200, .inl (pl []))), (q7, .inl (cI, 24, .inl (pl []))), (q8, .inl (cI, 66, .inl (pl []))), (q9, .inl (cI, 3, .inl (pl []))), (q10, .inl (cI, 4, .inl (pl mA345))), (q11, .inl (cI, 4, .inl (pl []))), (q12, .inl (cI, 160, .inl (pl []))), (q13, .inl (cI, 43, .inl (pl mA385))), (q14, .inl (cI, 96, .inl (pl mA645)))]) rfl ?_
  refine vv_putF C hin clw_X6 0 rfl 24 (by decide) tyX6 tyX6_ok nmX6 rfl rfl wc_871 rfl rfl (Nat.le_of_ble_eq_true rfl) [(h0, .inr (5, [.int 0, .ref q0, .ref q1, .ref q2, .ref q3, .ref q4, .int 0, .ref q5, .int 0, .ref q6, .ref q7, .int 0, .int 0, .int 0, .ref q8, .ref q9, .ref q10, .ref q11, .ref q12, .ref q13, .int 0, .int 0, .int 0, .int 0, .ref q14, .null, .int 0, .int 0, .int 0, .null, .null, .null, .int 0, .int 0])), (q0, .inl (cI, 6, .inl (pl []))), (q1, .inl (cI, 6, .inl (pl []))), (q2, .inl (cI, 12, .inl (pl []))), (q3, .inl (cI, 48, .inl (pl mA33))), (q4, .inl (cI, 6, .inl (pl []))), (q5, .inl (cI, 160, .inl (pl []))), (q6, .inl (cI, 1200, .inl (pl []))), (q7, .inl (cI, 24, .inl (pl []))), (q8, .inl (cI, 66, .inl (pl []))), (q9, .inl (cI, 3, .inl (pl []))), (q10, .inl (cI, 4, .inl (pl mA345))), (q11, .inl (cI, 4, .inl (pl []))), (q12, .inl (cI, 160, .inl (pl []))), (q13, .inl (cI, 43, .inl (pl mA385))), (q14, .inl (cI, 96, .inl (pl mA645)))] rfl dX6_init_1215 1218 rfl ?_
  refine vv_aload_n C 0 dX6_init_1218 rfl rfl 1219 rfl ?_
  refine vv_sipush C (200 : Int32) dX6_init_1219 (by decide) 1222 rfl ?_
  refine vv_newa C ht0 wc_ac 200 (by decide) (by decide) (by decide) (by rw [hRc]; exact Nat.le_of_ble_eq_true rfl) (by rw [hRs]; exact Nat.le_of_ble_eq_true rfl) dX6_init_1222 16 2038 rfl rfl 1224 rfl (fun q15 => ?_)
  refine vv_ws (ws2 := [(h0, .inr (5, [.int 0, .ref q0, .ref q1, .ref q2, .ref q3, .ref q4, .int 0, .ref q5, .int 0, .ref q6, .ref q7, .int 0, .int 0, .int 0, .ref q8, .ref q9, .ref q10, .ref q11, .ref q12, .ref q13, .int 0, .int 0, .int 0, .int 0, .ref q14, .null, .int 0, .int 0, .int 0, .null, .null, .null, .int 0, .int 0])), (q0, .inl (cI, 6, .inl (pl []))), (q1, .inl (cI, 6, .inl (pl []))), (q2, .inl (cI, 12, .inl (pl []))), (q3, .inl (cI, 48, .inl (pl mA33))), (q4, .inl (cI, 6, .inl (pl []))), (q5, .inl (cI, 160, .inl (pl []))), (q6, .inl (cI, 1200, .inl (pl []))), (q7, .inl (cI, 24, .inl (pl []))), (q8, .inl (cI, 66, .inl (pl []))), (q9, .inl (cI, 3, .inl (pl []))), (q10, .inl (cI, 4, .inl (pl mA345))), (q11, .inl (cI, 4, .inl (pl []))), (q12, .inl (cI, 160, .inl (pl []))), (q13, .inl (cI, 43, .inl (pl mA385))), (q14, .inl (cI, 96, .inl (pl mA645))), (q15, .inl (cI, 200, .inl (pl [])))]) rfl ?_
  refine vv_putF C hin clw_X6 0 rfl 25 (by decide) tyX6 tyX6_ok nmX6 rfl rfl wc_872 rfl rfl (Nat.le_of_ble_eq_true rfl) [(h0, .inr (5, [.int 0, .ref q0, .ref q1, .ref q2, .ref q3, .ref q4, .int 0, .ref q5, .int 0, .ref q6, .ref q7, .int 0, .int 0, .int 0, .ref q8, .ref q9, .ref q10, .ref q11, .ref q12, .ref q13, .int 0, .int 0, .int 0, .int 0, .ref q14, .ref q15, .int 0, .int 0, .int 0, .null, .null, .null, .int 0, .int 0])), (q0, .inl (cI, 6, .inl (pl []))), (q1, .inl (cI, 6, .inl (pl []))), (q2, .inl (cI, 12, .inl (pl []))), (q3, .inl (cI, 48, .inl (pl mA33))), (q4, .inl (cI, 6, .inl (pl []))), (q5, .inl (cI, 160, .inl (pl []))), (q6, .inl (cI, 1200, .inl (pl []))), (q7, .inl (cI, 24, .inl (pl []))), (q8, .inl (cI, 66, .inl (pl []))), (q9, .inl (cI, 3, .inl (pl []))), (q10, .inl (cI, 4, .inl (pl mA345))), (q11, .inl (cI, 4, .inl (pl []))), (q12, .inl (cI, 160, .inl (pl []))), (q13, .inl (cI, 43, .inl (pl mA385))), (q14, .inl (cI, 96, .inl (pl mA645))), (q15, .inl (cI, 200, .inl (pl [])))] rfl dX6_init_1224 1227 rfl ?_
  refine vv_aload_n C 0 dX6_init_1227 rfl rfl 1228 rfl ?_
  refine vv_sipush C (200 : Int32) dX6_init_1228 (by decide) 1231 rfl ?_
  refine vv_newa C ht0 wc_ac 200 (by decide) (by decide) (by decide) (by rw [hRc]; exact Nat.le_of_ble_eq_true rfl) (by rw [hRs]; exact Nat.le_of_ble_eq_true rfl) dX6_init_1231 17 2238 rfl rfl 1233 rfl (fun q16 => ?_)
  refine vv_ws (ws2 := [(h0, .inr (5, [.int 0, .ref q0, .ref q1, .ref q2, .ref q3, .ref q4, .int 0, .ref q5, .int 0, .ref q6, .ref q7, .int 0, .int 0, .int 0, .ref q8, .ref q9, .ref q10, .ref q11, .ref q12, .ref q13, .int 0, .int 0, .int 0, .int 0, .ref q14, .ref q15, .int 0, .int 0, .int 0, .null, .null, .null, .int 0, .int 0])), (q0, .inl (cI, 6, .inl (pl []))), (q1, .inl (cI, 6, .inl (pl []))), (q2, .inl (cI, 12, .inl (pl []))), (q3, .inl (cI, 48, .inl (pl mA33))), (q4, .inl (cI, 6, .inl (pl []))), (q5, .inl (cI, 160, .inl (pl []))), (q6, .inl (cI, 1200, .inl (pl []))), (q7, .inl (cI, 24, .inl (pl []))), (q8, .inl (cI, 66, .inl (pl []))), (q9, .inl (cI, 3, .inl (pl []))), (q10, .inl (cI, 4, .inl (pl mA345))), (q11, .inl (cI, 4, .inl (pl []))), (q12, .inl (cI, 160, .inl (pl []))), (q13, .inl (cI, 43, .inl (pl mA385))), (q14, .inl (cI, 96, .inl (pl mA645))), (q15, .inl (cI, 200, .inl (pl []))), (q16, .inl (cI, 200, .inl (pl [])))]) rfl ?_
  refine vv_putF C hin clw_X6 0 rfl 29 (by decide) tyX6 tyX6_ok nmX6 rfl rfl wc_876 rfl rfl (Nat.le_of_ble_eq_true rfl) [(h0, .inr (5, [.int 0, .ref q0, .ref q1, .ref q2, .ref q3, .ref q4, .int 0, .ref q5, .int 0, .ref q6, .ref q7, .int 0, .int 0, .int 0, .ref q8, .ref q9, .ref q10, .ref q11, .ref q12, .ref q13, .int 0, .int 0, .int 0, .int 0, .ref q14, .ref q15, .int 0, .int 0, .int 0, .ref q16, .null, .null, .int 0, .int 0])), (q0, .inl (cI, 6, .inl (pl []))), (q1, .inl (cI, 6, .inl (pl []))), (q2, .inl (cI, 12, .inl (pl []))), (q3, .inl (cI, 48, .inl (pl mA33))), (q4, .inl (cI, 6, .inl (pl []))), (q5, .inl (cI, 160, .inl (pl []))), (q6, .inl (cI, 1200, .inl (pl []))), (q7, .inl (cI, 24, .inl (pl []))), (q8, .inl (cI, 66, .inl (pl []))), (q9, .inl (cI, 3, .inl (pl []))), (q10, .inl (cI, 4, .inl (pl mA345))), (q11, .inl (cI, 4, .inl (pl []))), (q12, .inl (cI, 160, .inl (pl []))), (q13, .inl (cI, 43, .inl (pl mA385))), (q14, .inl (cI, 96, .inl (pl mA645))), (q15, .inl (cI, 200, .inl (pl []))), (q16, .inl (cI, 200, .inl (pl [])))] rfl dX6_init_1233 1236 rfl ?_
  refine vv_aload_n C 0 dX6_init_1236 rfl rfl 1237 rfl ?_
  refine vv_bipush C (6 : Int32) dX6_init_1237 (by decide) 1239 rfl ?_
  refine vv_newa C ht0 wc_ac 6 (by decide) (by decide) (by decide) (by rw [hRc]; exact Nat.le_of_ble_eq_true rfl) (by rw [hRs]; exact Nat.le_of_ble_eq_true rfl) dX6_init_1239 18 2244 rfl rfl 1241 rfl (fun q17 => ?_)
  refine vv_ws (ws2 := [(h0, .inr (5, [.int 0, .ref q0, .ref q1, .ref q2, .ref q3, .ref q4, .int 0, .ref q5, .int 0, .ref q6, .ref q7, .int 0, .int 0, .int 0, .ref q8, .ref q9, .ref q10, .ref q11, .ref q12, .ref q13, .int 0, .int 0, .int 0, .int 0, .ref q14, .ref q15, .int 0, .int 0, .int 0, .ref q16, .null, .null, .int 0, .int 0])), (q0, .inl (cI, 6, .inl (pl []))), (q1, .inl (cI, 6, .inl (pl []))), (q2, .inl (cI, 12, .inl (pl []))), (q3, .inl (cI, 48, .inl (pl mA33))), (q4, .inl (cI, 6, .inl (pl []))), (q5, .inl (cI, 160, .inl (pl []))), (q6, .inl (cI, 1200, .inl (pl []))), (q7, .inl (cI, 24, .inl (pl []))), (q8, .inl (cI, 66, .inl (pl []))), (q9, .inl (cI, 3, .inl (pl []))), (q10, .inl (cI, 4, .inl (pl mA345))), (q11, .inl (cI, 4, .inl (pl []))), (q12, .inl (cI, 160, .inl (pl []))), (q13, .inl (cI, 43, .inl (pl mA385))), (q14, .inl (cI, 96, .inl (pl mA645))), (q15, .inl (cI, 200, .inl (pl []))), (q16, .inl (cI, 200, .inl (pl []))), (q17, .inl (cI, 6, .inl (pl [])))]) rfl ?_
  refine vv_putF C hin clw_X6 0 rfl 30 (by decide) tyX6 tyX6_ok nmX6 rfl rfl wc_877 rfl rfl (Nat.le_of_ble_eq_true rfl) [(h0, .inr (5, [.int 0, .ref q0, .ref q1, .ref q2, .ref q3, .ref q4, .int 0, .ref q5, .int 0, .ref q6, .ref q7, .int 0, .int 0, .int 0, .ref q8, .ref q9, .ref q10, .ref q11, .ref q12, .ref q13, .int 0, .int 0, .int 0, .int 0, .ref q14, .ref q15, .int 0, .int 0, .int 0, .ref q16, .ref q17, .null, .int 0, .int 0])), (q0, .inl (cI, 6, .inl (pl []))), (q1, .inl (cI, 6, .inl (pl []))), (q2, .inl (cI, 12, .inl (pl []))), (q3, .inl (cI, 48, .inl (pl mA33))), (q4, .inl (cI, 6, .inl (pl []))), (q5, .inl (cI, 160, .inl (pl []))), (q6, .inl (cI, 1200, .inl (pl []))), (q7, .inl (cI, 24, .inl (pl []))), (q8, .inl (cI, 66, .inl (pl []))), (q9, .inl (cI, 3, .inl (pl []))), (q10, .inl (cI, 4, .inl (pl mA345))), (q11, .inl (cI, 4, .inl (pl []))), (q12, .inl (cI, 160, .inl (pl []))), (q13, .inl (cI, 43, .inl (pl mA385))), (q14, .inl (cI, 96, .inl (pl mA645))), (q15, .inl (cI, 200, .inl (pl []))), (q16, .inl (cI, 200, .inl (pl []))), (q17, .inl (cI, 6, .inl (pl [])))] rfl dX6_init_1241 1244 rfl ?_
  refine vv_aload_n C 0 dX6_init_1244 rfl rfl 1245 rfl ?_
  refine vv_bipush C (67 : Int32) dX6_init_1245 (by decide) 1247 rfl ?_
  refine vv_newa C ht0 wc_ac 67 (by decide) (by decide) (by decide) (by rw [hRc]; exact Nat.le_of_ble_eq_true rfl) (by rw [hRs]; exact Nat.le_of_ble_eq_true rfl) dX6_init_1247 19 2311 rfl rfl 1249 rfl (fun q18 => ?_)
  refine vv_ws (ws2 := [(h0, .inr (5, [.int 0, .ref q0, .ref q1, .ref q2, .ref q3, .ref q4, .int 0, .ref q5, .int 0, .ref q6, .ref q7, .int 0, .int 0, .int 0, .ref q8, .ref q9, .ref q10, .ref q11, .ref q12, .ref q13, .int 0, .int 0, .int 0, .int 0, .ref q14, .ref q15, .int 0, .int 0, .int 0, .ref q16, .ref q17, .null, .int 0, .int 0])), (q0, .inl (cI, 6, .inl (pl []))), (q1, .inl (cI, 6, .inl (pl []))), (q2, .inl (cI, 12, .inl (pl []))), (q3, .inl (cI, 48, .inl (pl mA33))), (q4, .inl (cI, 6, .inl (pl []))), (q5, .inl (cI, 160, .inl (pl []))), (q6, .inl (cI, 1200, .inl (pl []))), (q7, .inl (cI, 24, .inl (pl []))), (q8, .inl (cI, 66, .inl (pl []))), (q9, .inl (cI, 3, .inl (pl []))), (q10, .inl (cI, 4, .inl (pl mA345))), (q11, .inl (cI, 4, .inl (pl []))), (q12, .inl (cI, 160, .inl (pl []))), (q13, .inl (cI, 43, .inl (pl mA385))), (q14, .inl (cI, 96, .inl (pl mA645))), (q15, .inl (cI, 200, .inl (pl []))), (q16, .inl (cI, 200, .inl (pl []))), (q17, .inl (cI, 6, .inl (pl []))), (q18, .inl (cI, 67, .inl (pl [])))]) rfl ?_
  refine vv_putF C hin clw_X6 0 rfl 31 (by decide) tyX6 tyX6_ok nmX6 rfl rfl wc_878 rfl rfl (Nat.le_of_ble_eq_true rfl) [(h0, .inr (5, [.int 0, .ref q0, .ref q1, .ref q2, .ref q3, .ref q4, .int 0, .ref q5, .int 0, .ref q6, .ref q7, .int 0, .int 0, .int 0, .ref q8, .ref q9, .ref q10, .ref q11, .ref q12, .ref q13, .int 0, .int 0, .int 0, .int 0, .ref q14, .ref q15, .int 0, .int 0, .int 0, .ref q16, .ref q17, .ref q18, .int 0, .int 0])), (q0, .inl (cI, 6, .inl (pl []))), (q1, .inl (cI, 6, .inl (pl []))), (q2, .inl (cI, 12, .inl (pl []))), (q3, .inl (cI, 48, .inl (pl mA33))), (q4, .inl (cI, 6, .inl (pl []))), (q5, .inl (cI, 160, .inl (pl []))), (q6, .inl (cI, 1200, .inl (pl []))), (q7, .inl (cI, 24, .inl (pl []))), (q8, .inl (cI, 66, .inl (pl []))), (q9, .inl (cI, 3, .inl (pl []))), (q10, .inl (cI, 4, .inl (pl mA345))), (q11, .inl (cI, 4, .inl (pl []))), (q12, .inl (cI, 160, .inl (pl []))), (q13, .inl (cI, 43, .inl (pl mA385))), (q14, .inl (cI, 96, .inl (pl mA645))), (q15, .inl (cI, 200, .inl (pl []))), (q16, .inl (cI, 200, .inl (pl []))), (q17, .inl (cI, 6, .inl (pl []))), (q18, .inl (cI, 67, .inl (pl [])))] rfl dX6_init_1249 1252 rfl ?_
  refine seg_loop C ht0 _ h0 q5 q13 _ rfl rfl rfl rfl rfl ?_
  refine vv_ws ([(h0, .inr (5, [.int 0, .ref q0, .ref q1, .ref q2, .ref q3, .ref q4, .int 0, .ref q5, .int 0, .ref q6, .ref q7, .int 0, .int 0, .int 0, .ref q8, .ref q9, .ref q10, .ref q11, .ref q12, .ref q13, .int 0, .int 0, .int 0, .int 0, .ref q14, .ref q15, .int 0, .int 0, .int 0, .ref q16, .ref q17, .ref q18, .int 0, .int 0])), (q0, .inl (cI, 6, .inl (pl []))), (q1, .inl (cI, 6, .inl (pl []))), (q2, .inl (cI, 12, .inl (pl []))), (q3, .inl (cI, 48, .inl (pl mA33))), (q4, .inl (cI, 6, .inl (pl []))), (q5, .inl (cI, 160, .inl (pl mA385))), (q6, .inl (cI, 1200, .inl (pl []))), (q7, .inl (cI, 24, .inl (pl []))), (q8, .inl (cI, 66, .inl (pl []))), (q9, .inl (cI, 3, .inl (pl []))), (q10, .inl (cI, 4, .inl (pl mA345))), (q11, .inl (cI, 4, .inl (pl []))), (q12, .inl (cI, 160, .inl (pl []))), (q13, .inl (cI, 43, .inl (pl mA385))), (q14, .inl (cI, 96, .inl (pl mA645))), (q15, .inl (cI, 200, .inl (pl []))), (q16, .inl (cI, 200, .inl (pl []))), (q17, .inl (cI, 6, .inl (pl []))), (q18, .inl (cI, 67, .inl (pl [])))]) rfl ?_
  refine vv_aload_n C 1 dX6_init_1278 rfl rfl 1279 rfl ?_
  refine vv_bipush C (43 : Int32) dX6_init_1279 (by decide) 1281 rfl ?_
  refine vv_put C clw_X6 0 rfl 8 (by decide) tyX6 tyX6_ok nmX6 rfl wc_855 rfl rfl (Nat.le_of_ble_eq_true rfl) [(h0, .inr (5, [.int 0, .ref q0, .ref q1, .ref q2, .ref q3, .ref q4, .int 0, .ref q5, .int 43, .ref q6, .ref q7, .int 0, .int 0, .int 0, .ref q8, .ref q9, .ref q10, .ref q11, .ref q12, .ref q13, .int 0, .int 0, .int 0, .int 0, .ref q14, .ref q15, .int 0, .int 0, .int 0, .ref q16, .ref q17, .ref q18, .int 0, .int 0])), (q0, .inl (cI, 6, .inl (pl []))), (q1, .inl (cI, 6, .inl (pl []))), (q2, .inl (cI, 12, .inl (pl []))), (q3, .inl (cI, 48, .inl (pl mA33))), (q4, .inl (cI, 6, .inl (pl []))), (q5, .inl (cI, 160, .inl (pl mA385))), (q6, .inl (cI, 1200, .inl (pl []))), (q7, .inl (cI, 24, .inl (pl []))), (q8, .inl (cI, 66, .inl (pl []))), (q9, .inl (cI, 3, .inl (pl []))), (q10, .inl (cI, 4, .inl (pl mA345))), (q11, .inl (cI, 4, .inl (pl []))), (q12, .inl (cI, 160, .inl (pl []))), (q13, .inl (cI, 43, .inl (pl mA385))), (q14, .inl (cI, 96, .inl (pl mA645))), (q15, .inl (cI, 200, .inl (pl []))), (q16, .inl (cI, 200, .inl (pl []))), (q17, .inl (cI, 6, .inl (pl []))), (q18, .inl (cI, 67, .inl (pl [])))] rfl dX6_init_1281 1284 rfl ?_
  refine vv_aload_n C 1 dX6_init_1284 rfl rfl 1285 rfl ?_
  obtain ⟨ad, had⟩ : ∃ f : Nat → Nat, f = (fun k => ([h0, q0, q1, q2, q3, q4, q5, q6, q7, q8, q9, q10, q11, q12, q13, q14, q15, q16, q17, q18] : List Nat).getD k 0) := ⟨_, rfl⟩
  refine vv_conv ([] ++ (wl YM ad (fun _ => cI) 20 gM0 ++ [])) (fun H hP => ?_) (fun A hD => ?_) ?_
  · subst had
    rw [List.nil_append, List.append_nil]
    refine wl_of ?_
    have k0 : va_at D vwCl ((fun k => ([h0, q0, q1, q2, q3, q4, q5, q6, q7, q8, q9, q10, q11, q12, q13, q14, q15, q16, q17, q18] : List Nat).getD k 0) 0, cf YM (fun k => ([h0, q0, q1, q2, q3, q4, q5, q6, q7, q8, q9, q10, q11, q12, q13, q14, q15, q16, q17, q18] : List Nat).getD k 0) (fun _ => cI) gM0 0) H := hP 0 _ rfl
    have k1 : va_at D vwCl ((fun k => ([h0, q0, q1, q2, q3, q4, q5, q6, q7, q8, q9, q10, q11, q12, q13, q14, q15, q16, q17, q18] : List Nat).getD k 0) 1, cf YM (fun k => ([h0, q0, q1, q2, q3, q4, q5, q6, q7, q8, q9, q10, q11, q12, q13, q14, q15, q16, q17, q18] : List Nat).getD k 0) (fun _ => cI) gM0 1) H := hP 1 _ rfl
    have k2 : va_at D vwCl ((fun k => ([h0, q0, q1, q2, q3, q4, q5, q6, q7, q8, q9, q10, q11, q12, q13, q14, q15, q16, q17, q18] : List Nat).getD k 0) 2, cf YM (fun k => ([h0, q0, q1, q2, q3, q4, q5, q6, q7, q8, q9, q10, q11, q12, q13, q14, q15, q16, q17, q18] : List Nat).getD k 0) (fun _ => cI) gM0 2) H := hP 2 _ rfl
    have k3 : va_at D vwCl ((fun k => ([h0, q0, q1, q2, q3, q4, q5, q6, q7, q8, q9, q10, q11, q12, q13, q14, q15, q16, q17, q18] : List Nat).getD k 0) 3, cf YM (fun k => ([h0, q0, q1, q2, q3, q4, q5, q6, q7, q8, q9, q10, q11, q12, q13, q14, q15, q16, q17, q18] : List Nat).getD k 0) (fun _ => cI) gM0 3) H := hP 3 _ rfl
    have k4 : va_at D vwCl ((fun k => ([h0, q0, q1, q2, q3, q4, q5, q6, q7, q8, q9, q10, q11, q12, q13, q14, q15, q16, q17, q18] : List Nat).getD k 0) 4, cf YM (fun k => ([h0, q0, q1, q2, q3, q4, q5, q6, q7, q8, q9, q10, q11, q12, q13, q14, q15, q16, q17, q18] : List Nat).getD k 0) (fun _ => cI) gM0 4) H := hP 4 _ rfl
    have k5 : va_at D vwCl ((fun k => ([h0, q0, q1, q2, q3, q4, q5, q6, q7, q8, q9, q10, q11, q12, q13, q14, q15, q16, q17, q18] : List Nat).getD k 0) 5, cf YM (fun k => ([h0, q0, q1, q2, q3, q4, q5, q6, q7, q8, q9, q10, q11, q12, q13, q14, q15, q16, q17, q18] : List Nat).getD k 0) (fun _ => cI) gM0 5) H := hP 5 _ rfl
    have k6 : va_at D vwCl ((fun k => ([h0, q0, q1, q2, q3, q4, q5, q6, q7, q8, q9, q10, q11, q12, q13, q14, q15, q16, q17, q18] : List Nat).getD k 0) 6, cf YM (fun k => ([h0, q0, q1, q2, q3, q4, q5, q6, q7, q8, q9, q10, q11, q12, q13, q14, q15, q16, q17, q18] : List Nat).getD k 0) (fun _ => cI) gM0 6) H := hP 6 _ rfl
    have k7 : va_at D vwCl ((fun k => ([h0, q0, q1, q2, q3, q4, q5, q6, q7, q8, q9, q10, q11, q12, q13, q14, q15, q16, q17, q18] : List Nat).getD k 0) 7, cf YM (fun k => ([h0, q0, q1, q2, q3, q4, q5, q6, q7, q8, q9, q10, q11, q12, q13, q14, q15, q16, q17, q18] : List Nat).getD k 0) (fun _ => cI) gM0 7) H := hP 7 _ rfl
    have k8 : va_at D vwCl ((fun k => ([h0, q0, q1, q2, q3, q4, q5, q6, q7, q8, q9, q10, q11, q12, q13, q14, q15, q16, q17, q18] : List Nat).getD k 0) 8, cf YM (fun k => ([h0, q0, q1, q2, q3, q4, q5, q6, q7, q8, q9, q10, q11, q12, q13, q14, q15, q16, q17, q18] : List Nat).getD k 0) (fun _ => cI) gM0 8) H := hP 8 _ rfl
    have k9 : va_at D vwCl ((fun k => ([h0, q0, q1, q2, q3, q4, q5, q6, q7, q8, q9, q10, q11, q12, q13, q14, q15, q16, q17, q18] : List Nat).getD k 0) 9, cf YM (fun k => ([h0, q0, q1, q2, q3, q4, q5, q6, q7, q8, q9, q10, q11, q12, q13, q14, q15, q16, q17, q18] : List Nat).getD k 0) (fun _ => cI) gM0 9) H := hP 9 _ rfl
    have k10 : va_at D vwCl ((fun k => ([h0, q0, q1, q2, q3, q4, q5, q6, q7, q8, q9, q10, q11, q12, q13, q14, q15, q16, q17, q18] : List Nat).getD k 0) 10, cf YM (fun k => ([h0, q0, q1, q2, q3, q4, q5, q6, q7, q8, q9, q10, q11, q12, q13, q14, q15, q16, q17, q18] : List Nat).getD k 0) (fun _ => cI) gM0 10) H := hP 10 _ rfl
    have k11 : va_at D vwCl ((fun k => ([h0, q0, q1, q2, q3, q4, q5, q6, q7, q8, q9, q10, q11, q12, q13, q14, q15, q16, q17, q18] : List Nat).getD k 0) 11, cf YM (fun k => ([h0, q0, q1, q2, q3, q4, q5, q6, q7, q8, q9, q10, q11, q12, q13, q14, q15, q16, q17, q18] : List Nat).getD k 0) (fun _ => cI) gM0 11) H := hP 11 _ rfl
    have k12 : va_at D vwCl ((fun k => ([h0, q0, q1, q2, q3, q4, q5, q6, q7, q8, q9, q10, q11, q12, q13, q14, q15, q16, q17, q18] : List Nat).getD k 0) 12, cf YM (fun k => ([h0, q0, q1, q2, q3, q4, q5, q6, q7, q8, q9, q10, q11, q12, q13, q14, q15, q16, q17, q18] : List Nat).getD k 0) (fun _ => cI) gM0 12) H := hP 12 _ rfl
    have k13 : va_at D vwCl ((fun k => ([h0, q0, q1, q2, q3, q4, q5, q6, q7, q8, q9, q10, q11, q12, q13, q14, q15, q16, q17, q18] : List Nat).getD k 0) 13, cf YM (fun k => ([h0, q0, q1, q2, q3, q4, q5, q6, q7, q8, q9, q10, q11, q12, q13, q14, q15, q16, q17, q18] : List Nat).getD k 0) (fun _ => cI) gM0 13) H := hP 13 _ rfl
    have k14 : va_at D vwCl ((fun k => ([h0, q0, q1, q2, q3, q4, q5, q6, q7, q8, q9, q10, q11, q12, q13, q14, q15, q16, q17, q18] : List Nat).getD k 0) 14, cf YM (fun k => ([h0, q0, q1, q2, q3, q4, q5, q6, q7, q8, q9, q10, q11, q12, q13, q14, q15, q16, q17, q18] : List Nat).getD k 0) (fun _ => cI) gM0 14) H := hP 14 _ rfl
    have k15 : va_at D vwCl ((fun k => ([h0, q0, q1, q2, q3, q4, q5, q6, q7, q8, q9, q10, q11, q12, q13, q14, q15, q16, q17, q18] : List Nat).getD k 0) 15, cf YM (fun k => ([h0, q0, q1, q2, q3, q4, q5, q6, q7, q8, q9, q10, q11, q12, q13, q14, q15, q16, q17, q18] : List Nat).getD k 0) (fun _ => cI) gM0 15) H := hP 15 _ rfl
    have k16 : va_at D vwCl ((fun k => ([h0, q0, q1, q2, q3, q4, q5, q6, q7, q8, q9, q10, q11, q12, q13, q14, q15, q16, q17, q18] : List Nat).getD k 0) 16, cf YM (fun k => ([h0, q0, q1, q2, q3, q4, q5, q6, q7, q8, q9, q10, q11, q12, q13, q14, q15, q16, q17, q18] : List Nat).getD k 0) (fun _ => cI) gM0 16) H := hP 16 _ rfl
    have k17 : va_at D vwCl ((fun k => ([h0, q0, q1, q2, q3, q4, q5, q6, q7, q8, q9, q10, q11, q12, q13, q14, q15, q16, q17, q18] : List Nat).getD k 0) 17, cf YM (fun k => ([h0, q0, q1, q2, q3, q4, q5, q6, q7, q8, q9, q10, q11, q12, q13, q14, q15, q16, q17, q18] : List Nat).getD k 0) (fun _ => cI) gM0 17) H := hP 17 _ rfl
    have k18 : va_at D vwCl ((fun k => ([h0, q0, q1, q2, q3, q4, q5, q6, q7, q8, q9, q10, q11, q12, q13, q14, q15, q16, q17, q18] : List Nat).getD k 0) 18, cf YM (fun k => ([h0, q0, q1, q2, q3, q4, q5, q6, q7, q8, q9, q10, q11, q12, q13, q14, q15, q16, q17, q18] : List Nat).getD k 0) (fun _ => cI) gM0 18) H := hP 18 _ rfl
    have k19 : va_at D vwCl ((fun k => ([h0, q0, q1, q2, q3, q4, q5, q6, q7, q8, q9, q10, q11, q12, q13, q14, q15, q16, q17, q18] : List Nat).getD k 0) 19, cf YM (fun k => ([h0, q0, q1, q2, q3, q4, q5, q6, q7, q8, q9, q10, q11, q12, q13, q14, q15, q16, q17, q18] : List Nat).getD k 0) (fun _ => cI) gM0 19) H := hP 19 _ rfl
    exact lt_s (lt_s (lt_s (lt_s (lt_s (lt_s (lt_s (lt_s (lt_s (lt_s (lt_s (lt_s (lt_s (lt_s (lt_s (lt_s (lt_s (lt_s (lt_s (lt_s (lt_0) k0) k1) k2) k3) k4) k5) k6) k7) k8) k9) k10) k11) k12) k13) k14) k15) k16) k17) k18) k19
  · subst had
    exact D_fst (hD.sub (ws' := [(h0, .inr (5, [.int 0, .ref q0, .ref q1, .ref q2, .ref q3, .ref q4, .int 0, .ref q5, .int 43, .ref q6, .ref q7, .int 0, .int 0, .int 0, .ref q8, .ref q9, .ref q10, .ref q11, .ref q12, .ref q13, .int 0, .int 0, .int 0, .int 0, .ref q14, .ref q15, .int 0, .int 0, .int 0, .ref q16, .ref q17, .ref q18, .int 0, .int 0])), (q0, .inl (cI, 6, .inl (pl []))), (q1, .inl (cI, 6, .inl (pl []))), (q2, .inl (cI, 12, .inl (pl []))), (q3, .inl (cI, 48, .inl (pl mA33))), (q4, .inl (cI, 6, .inl (pl []))), (q5, .inl (cI, 160, .inl (pl mA385))), (q6, .inl (cI, 1200, .inl (pl []))), (q7, .inl (cI, 24, .inl (pl []))), (q8, .inl (cI, 66, .inl (pl []))), (q9, .inl (cI, 3, .inl (pl []))), (q10, .inl (cI, 4, .inl (pl mA345))), (q11, .inl (cI, 4, .inl (pl []))), (q12, .inl (cI, 160, .inl (pl []))), (q13, .inl (cI, 43, .inl (pl mA385))), (q14, .inl (cI, 96, .inl (pl mA645))), (q15, .inl (cI, 200, .inl (pl []))), (q16, .inl (cI, 200, .inl (pl []))), (q17, .inl (cI, 6, .inl (pl []))), (q18, .inl (cI, 67, .inl (pl [])))]) [0, 1, 2, 3, 4, 5, 6, 7, 8, 9, 10, 11, 12, 13, 14, 15, 16, 17, 18, 19] (by decide) rfl) rfl
  have hA20 : ad 0 = h0 := by rw [had]; rfl
  refine vv_getD (fun hDg => ?_)
  have hG : GE YM ad (fun _ => cI) tys 20 := GE_M ht0 (wl_inj (D_app (D_app hDg).2.1).1)
  rw [← hA20]
  refine vv_callWi C (As := []) (st := []) (pre := []) (post := []) rB cl_X6.1 (obM (by decide)) hG (k_X6_text (by decide) hB) wc_800 cm_X6_text (by decide) (by decide) rfl rfl (Nat.le_of_ble_eq_true rfl) ⟨(by rw [hRc]; exact Nat.le_of_ble_eq_true rfl), (by rw [hRs]; exact Nat.le_of_ble_eq_true rfl)⟩ dX6_init_1285 1288 rfl ?_
  refine vv_pop C dX6_init_1288 rfl 1289 rfl ?_
  exact vv_vret C (S := {f : Nat → Nat // f 0 = ad 0}) (W1 := fun u => wl YM u.1 (fun _ => cI) 20 gB) ⟨ad, rfl⟩ (by simp) (Nat.le_of_ble_eq_true rfl) (Nat.le_of_ble_eq_true rfl) dX6_init_1289 hr
set_option maxRecDepth 1000000 in
theorem cmc_X6_init : Cond.instanceMethod yX6_init ∈ TT ∧ Cond.initialized yX6_init.cls ∈ TT ∧ Cond.code yX6_init cX6_init 2 none ∈ TT ∧ (yX6_init.cls ≠ "java/lang/invoke/MethodHandle" ∧ yX6_init.cls ≠ "java/lang/invoke/VarHandle" ∧ (parseMethodDescriptor yX6_init.desc).map (fun d => d.parameters.length) = some 0) := ⟨TT_of (i := 797) (by decide +kernel) rfl, TT_of (i := 69) (by decide +kernel) rfl, TT_of (i := 798) rfl rfl, by decide +kernel⟩
