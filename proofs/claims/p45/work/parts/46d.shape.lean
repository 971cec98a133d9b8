theorem in_lt {N : Nat} (hN : 6000 ≤ N) {L R R0 Ra Rb Rc Rd : List Nat} {c s t v v' w : Nat} {g0 : Mem} {K K1 K2 : List Nat} {D a : Nat} (k0 : TK L R t v R0) (ht : ¬ t = 265) (j1 : JJ N L c s g0 6 D a R K Ra K1) (k60 : TK L Ra 60 v' Rb) (j2 : JJ N L c s g0 6 D a Rb K1 Rc K2) (k41 : TK L Rc 41 w Rd) (hb : s + K2.length < 100) : JJ N L c s g0 0 (D + 5) a R K Rc (14 :: K2) := by
  have a1 := J5 hN j1 (show 0 < 100 by omega) (LT_0 k60 (by omega))
  have a2 := J4 hN a1 (show 0 < 100 by omega) (LU_0 k60 (by omega))
  have b1 := J5 hN j2 (show 0 < 100 by omega) (LT_0 k41 (by omega))
  have b2 := J4 hN b1 (show 0 < 100 by omega) (LU_0 k41 (by omega))
  exact J0 hN (J2_lt hN k0 ht a2 k60 b2 hb) k41 (by omega)
theorem shA {N : Nat} (hN : 6000 ≤ N) {L R R1 R2 R3 R4 R5 R6 R7 R8 R9 R10 R11 R12 : List Nat} {c s tx t1 t2 ty v u w e0 e1 e2 e3 e4 e5 e6 e7 e8 : Nat} {g0 : Mem} {K : List Nat} (hb : s + K.length < 80)
    (kx : TK L R tx e0 R1) (hx : 266 ≤ tx ∧ tx < 272) (k1 : TK L R1 t1 e1 R2) (h1 : t1 = 43 ∨ t1 = 45) (kv : TK L R2 258 v R3) (hv : v < 10000) (k2 : TK L R3 t2 e2 R4) (h2 : t2 = 43 ∨ t2 = 45) (kp : TK L R4 40 e3 R5) (ky : TK L R5 ty e4 R6) (hy : 266 ≤ ty ∧ ty < 272) (kl : TK L R6 60 e5 R7) (ku : TK L R7 258 u R8) (hu : u < 10000) (kc : TK L R8 41 e6 R9) (km : TK L R9 42 e7 R10) (kw : TK L R10 258 w R11) (hw : w < 10000) (ks : TK L R11 59 e8 R12) :
    JJ N L c s g0 0 100 0 R K R11 ((if t2 = 43 then 16 else 17) :: 18 :: (100000 + w) :: 14 :: (100000 + u) :: (ty - 266) :: (if t1 = 43 then 16 else 17) :: (100000 + v) :: (tx - 266) :: K) := by
  have x6 : JJ N L c s g0 6 95 0 R K R1 ((tx - 266) :: K) := J6_nam hN kx hx 94 0 (by omega)
  have x5 : JJ N L c s g0 5 96 0 R K R1 ((tx - 266) :: K) := J5 hN x6 (show 0 < 100 by omega) (LT_0 k1 (by omega))
  have v6 : JJ N L c s g0 6 95 0 R2 ((tx - 266) :: K) R3 ((100000 + v) :: (tx - 266) :: K) := J6_nm hN kv hv 94 0 (by simp only [List.length_cons]; omega)
  have v5 : JJ N L c s g0 5 96 0 R2 ((tx - 266) :: K) R3 ((100000 + v) :: (tx - 266) :: K) := J5 hN v6 (show 0 < 100 by omega) (LT_0 k2 (by omega))
  have y6 : JJ N L c s g0 6 89 1 R5 ((if t1 = 43 then 16 else 17) :: (100000 + v) :: (tx - 266) :: K) R6 ((ty - 266) :: (if t1 = 43 then 16 else 17) :: (100000 + v) :: (tx - 266) :: K) := J6_nam hN ky hy 88 1 (by simp only [List.length_cons]; omega)
  have u6 : JJ N L c s g0 6 89 1 R7 ((ty - 266) :: (if t1 = 43 then 16 else 17) :: (100000 + v) :: (tx - 266) :: K) R8 ((100000 + u) :: (ty - 266) :: (if t1 = 43 then 16 else 17) :: (100000 + v) :: (tx - 266) :: K) := J6_nm hN ku hu 88 1 (by simp only [List.length_cons]; omega)
  have i0 := in_lt hN ky (by omega) y6 kl u6 kc (by simp only [List.length_cons]; omega)
  have p6 := J6_par hN (show 0 < 5 by omega) kp i0 kc
  have w6 : JJ N L c s g0 6 95 0 R10 (14 :: (100000 + u) :: (ty - 266) :: (if t1 = 43 then 16 else 17) :: (100000 + v) :: (tx - 266) :: K) R11 ((100000 + w) :: 14 :: (100000 + u) :: (ty - 266) :: (if t1 = 43 then 16 else 17) :: (100000 + v) :: (tx - 266) :: K) := J6_nm hN kw hw 94 0 (by simp only [List.length_cons]; omega)
  have m5 := J5 hN p6 (show 1 < 100 by omega) (LT_s hN km w6 (by simp only [List.length_cons]; omega) (LT_0 ks (by omega)))
  have s4 := J4 hN x5 (show 2 < 100 by omega) (LU_s hN k1 h1 v5 (by simp only [List.length_cons]; omega) (LU_s hN k2 h2 m5 (by simp only [List.length_cons]; omega) (LU_0 ks (by omega))))
  exact J0 hN (J2_0 kx (by omega) s4 ks (by omega)) ks (by omega)
theorem shB {N : Nat} (hN : 6000 ≤ N) {L R R1 R2 R3 R4 R5 R6 R7 R8 R9 R10 R11 R12 : List Nat} {c s tx ty tz v u e0 e1 e2 e3 e4 e5 e6 e7 e8 e9 : Nat} {g0 : Mem} {K : List Nat} (hb : s + K.length < 80)
    (kv : TK L R 258 v R1) (hv : v < 10000) (k1 : TK L R1 43 e1 R2) (kx : TK L R2 tx e0 R3) (hx : 266 ≤ tx ∧ tx < 272) (km : TK L R3 42 e2 R4) (ku : TK L R4 258 u R5) (hu : u < 10000) (k2 : TK L R5 43 e3 R6) (kp : TK L R6 40 e4 R7) (ky : TK L R7 ty e5 R8) (hy : 266 ≤ ty ∧ ty < 272) (kl : TK L R8 60 e6 R9) (kz : TK L R9 tz e7 R10) (hz : 266 ≤ tz ∧ tz < 272) (kc : TK L R10 41 e8 R11) (ks : TK L R11 59 e9 R12) :
    JJ N L c s g0 0 100 0 R K R11 (16 :: 14 :: (tz - 266) :: (ty - 266) :: 16 :: 18 :: (100000 + u) :: (tx - 266) :: (100000 + v) :: K) := by
  have v6 : JJ N L c s g0 6 95 0 R K R1 ((100000 + v) :: K) := J6_nm hN kv hv 94 0 (by omega)
  have v5 : JJ N L c s g0 5 96 0 R K R1 ((100000 + v) :: K) := J5 hN v6 (show 0 < 100 by omega) (LT_0 k1 (by omega))
  have x6 : JJ N L c s g0 6 95 0 R2 ((100000 + v) :: K) R3 ((tx - 266) :: (100000 + v) :: K) := J6_nam hN kx hx 94 0 (by simp only [List.length_cons]; omega)
  have u6 : JJ N L c s g0 6 95 0 R4 ((tx - 266) :: (100000 + v) :: K) R5 ((100000 + u) :: (tx - 266) :: (100000 + v) :: K) := J6_nm hN ku hu 94 0 (by simp only [List.length_cons]; omega)
  have m5 := J5 hN x6 (show 1 < 100 by omega) (LT_s hN km u6 (by simp only [List.length_cons]; omega) (LT_0 k2 (by omega)))
  have y6 : JJ N L c s g0 6 89 1 R7 (16 :: 18 :: (100000 + u) :: (tx - 266) :: (100000 + v) :: K) R8 ((ty - 266) :: 16 :: 18 :: (100000 + u) :: (tx - 266) :: (100000 + v) :: K) := J6_nam hN ky hy 88 1 (by simp only [List.length_cons]; omega)
  have z6 : JJ N L c s g0 6 89 1 R9 ((ty - 266) :: 16 :: 18 :: (100000 + u) :: (tx - 266) :: (100000 + v) :: K) R10 ((tz - 266) :: (ty - 266) :: 16 :: 18 :: (100000 + u) :: (tx - 266) :: (100000 + v) :: K) := J6_nam hN kz hz 88 1 (by simp only [List.length_cons]; omega)
  have i0 := in_lt hN ky (by omega) y6 kl z6 kc (by simp only [List.length_cons]; omega)
  have p6 := J6_par hN (show 0 < 5 by omega) kp i0 kc
  have p5 := J5 hN p6 (show 0 < 100 by omega) (LT_0 ks (by omega))
  have s4 := J4 hN v5 (show 2 < 100 by omega) (LU_s hN k1 (Or.inl rfl) m5 (by simp only [List.length_cons]; omega) (LU_s hN k2 (Or.inl rfl) p5 (by simp only [List.length_cons]; omega) (LU_0 ks (by omega))))
  exact J0 hN (J2_0 kv (by omega) s4 ks (by omega)) ks (by omega)
