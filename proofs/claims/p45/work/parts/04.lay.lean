/-! THE TWO LAYOUTS: where each cell of the class's object graph lies (0 .. 72), and of the reference's (0 .. 19) -/
def kdI (k : Nat) : Nat := if k = 0 then 6 else if k = 1 then 0 else if k < 4 then 1 else if k < 34 then (if (k - 4) % 5 = 0 then 7 else 0) else if k < 42 then (if (k - 34) % 2 = 0 then 5 else 0) else if k < 72 then (if (k - 42) % 10 = 0 then 4 else 0) else if k = 72 then 8 else if k = 73 then 9 else 1
def lnI (k : Nat) : Nat := if k = 1 then 160 else if k = 2 then 6 else if k = 3 then 4 else if k < 34 then ([0, 160, 3, 6, 40] : List Nat).getD ((k - 4) % 5) 0 else if k < 42 then ([0, 40] : List Nat).getD ((k - 34) % 2) 0 else if k < 72 then ([0, 6, 12, 12, 12, 12, 6, 6, 6, 6] : List Nat).getD ((k - 42) % 10) 0 else if k = 73 then 110 else 0
def nfI (c : Nat) : Nat := ([4, 4, 12, 3, 7, 6, 8] : List Nat).getD c 0
def ftI (c j : Nat) : Nat := (([[], [], [2, 2, 2, 2, 2, 2, 2, 2, 2, 0, 0, 1], [2, 0, 0], [2, 0, 0, 0, 0, 0, 1], [0, 2, 0, 2, 2, 2], [2, 2, 0, 2, 2, 2, 2, 0]] : List (List Nat)).getD c []).getD j 0
def soI (k j : Nat) : Nat := if k = 0 then 1 else if k = 2 then 4 + 5 * j else if k = 3 then 34 + 2 * j else if k < 34 then k + ([0, 1, 0, 2, 3, 4] : List Nat).getD j 0 else if k < 42 then k + 1 else if k < 72 then k + 1 + j else ([0, 2, 0, 3, 42, 52, 62] : List Nat).getD j 0
def YI : Lay := (kdI, lnI, nfI, ftI, soI)
abbrev isText (q : Nat) : Prop := q = 4 ∨ q = 9 ∨ q = 14 ∨ q = 19 ∨ q = 24 ∨ q = 29
abbrev isSheet (q : Nat) : Prop := q = 34 ∨ q = 36 ∨ q = 38 ∨ q = 40
abbrev isScene (q : Nat) : Prop := q = 42 ∨ q = 52 ∨ q = 62
theorem vp_cl {i : Int32} {L : Nat} (h : vp_in i L) : i.toNatClampNeg < L := Nat.not_le.mp fun q => h (Or.inr q)
theorem isText_at {i : Int32} (h : vp_in i 6) : isText (4 + 5 * i.toNatClampNeg) := by
  have := vp_cl h
  simp only [isText]; omega
theorem isSheet_at {i : Int32} (h : vp_in i 4) : isSheet (34 + 2 * i.toNatClampNeg) := by
  have := vp_cl h
  simp only [isSheet]; omega
theorem obTape {n : Nat} (h : 42 ≤ n) : OB YI n 0 4 := ⟨by omega, rfl⟩
theorem obX {n : Nat} (h : 73 ≤ n) : OB YI n 72 6 := ⟨by omega, rfl⟩
theorem obText {n q : Nat} (hq : isText q) (h : 42 ≤ n) : OB YI n q 5 := by rcases hq with rfl | rfl | rfl | rfl | rfl | rfl <;> exact ⟨by omega, rfl⟩
theorem obSheet {n q : Nat} (hq : isSheet q) (h : 42 ≤ n) : OB YI n q 3 := by rcases hq with rfl | rfl | rfl | rfl <;> exact ⟨by omega, rfl⟩
theorem obScene {n q : Nat} (hq : isScene q) (h : 73 ≤ n) : OB YI n q 2 := by rcases hq with rfl | rfl | rfl <;> exact ⟨by omega, rfl⟩
theorem iaTape {n : Nat} (h : 42 ≤ n) : IA YI n 1 160 := ⟨by omega, rfl, rfl⟩
theorem iaText {n q : Nat} (hq : isText q) (h : 42 ≤ n) (j L : Nat) (hj : (j = 1 ∧ L = 160) ∨ (j = 2 ∧ L = 3) ∨ (j = 3 ∧ L = 6) ∨ (j = 4 ∧ L = 40)) : IA YI n (q + j) L := by
  rcases hq with rfl | rfl | rfl | rfl | rfl | rfl <;> rcases hj with ⟨rfl, rfl⟩ | ⟨rfl, rfl⟩ | ⟨rfl, rfl⟩ | ⟨rfl, rfl⟩ <;> exact ⟨by omega, rfl, rfl⟩
theorem iaSheet {n q : Nat} (hq : isSheet q) (h : 42 ≤ n) : IA YI n (q + 1) 40 := by
  rcases hq with rfl | rfl | rfl | rfl <;> exact ⟨by omega, rfl, rfl⟩
theorem iaScene {n q : Nat} (hq : isScene q) (h : 73 ≤ n) (j L : Nat) (hj : (j = 1 ∧ L = 6) ∨ (j = 2 ∧ L = 12) ∨ (j = 3 ∧ L = 12) ∨ (j = 4 ∧ L = 12) ∨ (j = 5 ∧ L = 12) ∨ (j = 6 ∧ L = 6) ∨ (j = 7 ∧ L = 6) ∨ (j = 8 ∧ L = 6) ∨ (j = 9 ∧ L = 6)) : IA YI n (q + j) L := by
  rcases hq with rfl | rfl | rfl <;> rcases hj with ⟨rfl, rfl⟩ | ⟨rfl, rfl⟩ | ⟨rfl, rfl⟩ | ⟨rfl, rfl⟩ | ⟨rfl, rfl⟩ | ⟨rfl, rfl⟩ | ⟨rfl, rfl⟩ | ⟨rfl, rfl⟩ | ⟨rfl, rfl⟩ <;> exact ⟨by omega, rfl, rfl⟩
theorem kdI_lt {q : Nat} (h : kdI q = 0) : q < 72 := by
  rcases Nat.lt_or_ge q 72 with h1 | h1
  · exact h1
  · exfalso
    unfold kdI at h
    rw [if_neg (by omega), if_neg (by omega), if_neg (by omega), if_neg (by omega), if_neg (by omega), if_neg (by omega)] at h
    split at h
    · omega
    · split at h <;> omega
theorem kdI_9 {n a : Nat} (_ : a < n) (h : kd YI a = 9) : a = 73 := by
  change kdI a = 9 at h
  unfold kdI at h
  repeat' split at h
  all_goals omega
theorem sc_lt {q : Nat} (h : isScene q) : q < 1000 := by rcases h with rfl | rfl | rfl <;> decide
theorem laH {n : Nat} (h : 74 ≤ n) : LA YI n 73 110 := ⟨by omega, rfl, rfl⟩
theorem iaDyn {n q : Nat} (h : kdI q = 0) (hn : 73 ≤ n) : IA YI n q (lnI q) := ⟨Nat.lt_of_lt_of_le (kdI_lt h) (by omega), h, rfl⟩
theorem so_text {q : Nat} (hq : isText q) (j d : Nat) (hj : (j = 1 ∧ d = 1) ∨ (j = 3 ∧ d = 2) ∨ (j = 4 ∧ d = 3) ∨ (j = 5 ∧ d = 4)) : so YI q j = q + d := by
  rcases hq with rfl | rfl | rfl | rfl | rfl | rfl <;> rcases hj with ⟨rfl, rfl⟩ | ⟨rfl, rfl⟩ | ⟨rfl, rfl⟩ | ⟨rfl, rfl⟩ <;> rfl
theorem so_sheet {q : Nat} (hq : isSheet q) : so YI q 0 = q + 1 := by
  rcases hq with rfl | rfl | rfl | rfl <;> rfl
theorem so_scene {q : Nat} (hq : isScene q) (j d : Nat) (hj : j < 9) (hd : d = j + 1) : so YI q j = q + d := by
  subst hd
  rcases hq with rfl | rfl | rfl <;> (simp only [so, YI, soI]; simp; omega)
theorem cl_X1 : vwCl[2]? = some (RX1, TX1, 12) ∧ (∀ w ∈ u_ws RX1 TX1 12, w ∈ TT) ∧ nf YI 2 = 12 := ⟨rfl, by decide +kernel, rfl⟩
theorem cl_X2 : vwCl[3]? = some (RX2, TX2, 3) ∧ (∀ w ∈ u_ws RX2 TX2 3, w ∈ TT) ∧ nf YI 3 = 3 := ⟨rfl, by decide +kernel, rfl⟩
theorem cl_X3 : vwCl[4]? = some (RX3, TX3, 7) ∧ (∀ w ∈ u_ws RX3 TX3 7, w ∈ TT) ∧ nf YI 4 = 7 := ⟨rfl, by decide +kernel, rfl⟩
theorem cl_X4 : vwCl[5]? = some (RX4, TX4, 6) ∧ (∀ w ∈ u_ws RX4 TX4 6, w ∈ TT) ∧ nf YI 5 = 6 := ⟨rfl, by decide +kernel, rfl⟩
theorem cl_X5 : vwCl[6]? = some (RX5, TX5, 8) ∧ (∀ w ∈ u_ws RX5 TX5 8, w ∈ TT) ∧ nf YI 6 = 8 := ⟨rfl, by decide +kernel, rfl⟩
