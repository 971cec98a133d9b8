/-! THE LAW'S TEXT -/
def Wreaches : List Nat := [114, 101, 97, 99, 104, 101, 115]
theorem tw_reaches {L R : List Nat} {x : Nat} (hx : ¬ (97 ≤ x ∧ x ≤ 122)) : TK L (Wreaches ++ x :: R) 260 0 (x :: R) := TK_wd (by decide +kernel) (by decide) hx (by decide +kernel) (by decide)
def Wcosts : List Nat := [99, 111, 115, 116, 115]
theorem tw_costs {L R : List Nat} {x : Nat} (hx : ¬ (97 ≤ x ∧ x ≤ 122)) : TK L (Wcosts ++ x :: R) 261 0 (x :: R) := TK_wd (by decide +kernel) (by decide) hx (by decide +kernel) (by decide)
def Wfades : List Nat := [102, 97, 100, 101, 115]
theorem tw_fades {L R : List Nat} {x : Nat} (hx : ¬ (97 ≤ x ∧ x ≤ 122)) : TK L (Wfades ++ x :: R) 262 0 (x :: R) := TK_wd (by decide +kernel) (by decide) hx (by decide +kernel) (by decide)
def Wbreath : List Nat := [98, 114, 101, 97, 116, 104]
theorem tw_breath {L R : List Nat} {x : Nat} (hx : ¬ (97 ≤ x ∧ x ≤ 122)) : TK L (Wbreath ++ x :: R) 266 0 (x :: R) := TK_wd (by decide +kernel) (by decide) hx (by decide +kernel) (by decide)
def Wdeep : List Nat := [100, 101, 101, 112]
theorem tw_deep {L R : List Nat} {x : Nat} (hx : ¬ (97 ≤ x ∧ x ≤ 122)) : TK L (Wdeep ++ x :: R) 267 0 (x :: R) := TK_wd (by decide +kernel) (by decide) hx (by decide +kernel) (by decide)
def Wstrong : List Nat := [115, 116, 114, 111, 110, 103]
theorem tw_strong {L R : List Nat} {x : Nat} (hx : ¬ (97 ≤ x ∧ x ≤ 122)) : TK L (Wstrong ++ x :: R) 268 0 (x :: R) := TK_wd (by decide +kernel) (by decide) hx (by decide +kernel) (by decide)
def Wsort : List Nat := [115, 111, 114, 116]
theorem tw_sort {L R : List Nat} {x : Nat} (hx : ¬ (97 ≤ x ∧ x ≤ 122)) : TK L (Wsort ++ x :: R) 269 0 (x :: R) := TK_wd (by decide +kernel) (by decide) hx (by decide +kernel) (by decide)
def Whour : List Nat := [104, 111, 117, 114]
theorem tw_hour {L R : List Nat} {x : Nat} (hx : ¬ (97 ≤ x ∧ x ≤ 122)) : TK L (Whour ++ x :: R) 270 0 (x :: R) := TK_wd (by decide +kernel) (by decide) hx (by decide +kernel) (by decide)
def Y2 (F T : Nat) : List Nat := Wfades ++ 32 :: (dgN F ++ 43 :: (Wsort ++ 42 :: (dgN T ++ 43 :: 40 :: (Wstrong ++ 60 :: (Whour ++ 41 :: 59 :: [])))))
def Y1 (D ST F T : Nat) : List Nat := Wcosts ++ 32 :: (Wdeep ++ 43 :: (dgN D ++ 45 :: 40 :: (Wstrong ++ 60 :: (dgN ST ++ 41 :: 42 :: (dgN 4 ++ 59 :: Y2 F T)))))
def Y0 (A SO C D ST F T : Nat) : List Nat := Wreaches ++ 32 :: (Wbreath ++ 45 :: (dgN A ++ 43 :: 40 :: (Wsort ++ 60 :: (dgN SO ++ 41 :: 42 :: (dgN C ++ 59 :: Y1 D ST F T)))))
def KK1 (A SO C : Nat) : List Nat := 16 :: 18 :: (100000 + C) :: 14 :: (100000 + SO) :: 3 :: 17 :: (100000 + A) :: 0 :: []
def KK2 (A SO C D ST : Nat) : List Nat := 17 :: 18 :: (100000 + 4) :: 14 :: (100000 + ST) :: 2 :: 16 :: (100000 + D) :: 1 :: KK1 A SO C
def KK3 (A SO C D ST F T : Nat) : List Nat := 16 :: 14 :: 4 :: 2 :: 16 :: 18 :: (100000 + T) :: 3 :: (100000 + F) :: KK2 A SO C D ST
theorem tx_1 {N : Nat} (hN : 6000 ≤ N) {A SO C D ST F T : Nat} (hA : A < 100) (hSO : SO < 100) (hC : C < 100) (hD : D < 100) (hST : ST < 100) (hF : F < 100) (hT' : T < 100) {g : Mem} (hT : TI (bL (Y0 A SO C D ST F T)) (Y0 A SO C D ST F T).length g) (h72 : g.1 72 2 = i32 1) :
    ∃ g', X5_text N g = some (i32 1, g') ∧ (∀ e, ¬ e = 0 → ¬ e = 9 → ¬ e = 10 → ¬ e = 11 → ¬ e = 72 → g'.1 e = g.1 e) ∧ (∀ j, ¬ j = 2 → g'.1 9 j = g.1 9 j) ∧ (∀ k, ¬ k = 0 → g'.2 k = g.2 k) ∧ g'.1 72 2 = i32 2 ∧ g'.2 0 = some 9 ∧ kI 9 0 g' (KK3 A SO C D ST F T) ∧ g'.1 11 0 = i32 9 ∧ g'.1 11 1 = i32 18 ∧ g'.1 11 2 = i32 27 := by
  have j0 : ∀ g0, JJ N (Y0 A SO C D ST F T) 1 0 g0 0 100 0 _ [] _ (KK1 A SO C) := fun g0 =>
    shA (tx := 266) (ty := 269) hN (by simp) (TK_bl (tw_breath (by omega))) (by omega) (TK_sg (by decide)) (Or.inr rfl) (TK_nm hA (by omega)) (by omega) (TK_sg (by decide)) (Or.inl rfl) (TK_sg (by decide)) (tw_sort (by omega)) (by omega) (TK_sg (by decide)) (TK_nm hSO (by omega)) (by omega) (TK_sg (by decide)) (TK_sg (by decide)) (TK_nm hC (by omega)) (by omega) (TK_sg (R := Y1 D ST F T) (by decide))
  have j1 : ∀ g0, JJ N (Y0 A SO C D ST F T) 1 0 g0 0 100 0 _ (KK1 A SO C) _ (KK2 A SO C D ST) := fun g0 =>
    shA (tx := 267) (ty := 268) hN (by simp [KK1]) (TK_bl (tw_deep (by omega))) (by omega) (TK_sg (by decide)) (Or.inl rfl) (TK_nm hD (by omega)) (by omega) (TK_sg (by decide)) (Or.inr rfl) (TK_sg (by decide)) (tw_strong (by omega)) (by omega) (TK_sg (by decide)) (TK_nm hST (by omega)) (by omega) (TK_sg (by decide)) (TK_sg (by decide)) (TK_nm (v := 4) (by omega) (by omega)) (by omega) (TK_sg (R := Y2 F T) (by decide))
  have j2 : ∀ g0, JJ N (Y0 A SO C D ST F T) 1 0 g0 0 100 0 _ (KK2 A SO C D ST) _ (KK3 A SO C D ST F T) := fun g0 =>
    shB (tx := 269) (ty := 268) (tz := 270) hN (by simp [KK1, KK2]) (TK_bl (TK_nm hF (by omega))) (by omega) (TK_sg (by decide)) (tw_sort (by omega)) (by omega) (TK_sg (by decide)) (TK_nm hT' (by omega)) (by omega) (TK_sg (by decide)) (TK_sg (by decide)) (tw_strong (by omega)) (by omega) (TK_sg (by decide)) (tw_hour (by omega)) (by omega) (TK_sg (by decide)) (TK_sg (R := []) (by decide))
  exact tx_e hN hT h72 (tw_reaches (by omega)) j0 (TK_sg (by decide)) (tw_costs (by omega)) j1 (TK_sg (by decide)) (tw_fades (by omega)) j2 (TK_sg (by decide)) TK_end
