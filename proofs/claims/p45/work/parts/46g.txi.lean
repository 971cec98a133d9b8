/-! THE SECOND TEXT RECKONED -/
def opk (x m n : Nat) : Prop := (n = m + 1 ∧ m < 40 ∧ ((100000 ≤ x ∧ x ≤ 109999) ∨ x < 6)) ∨ (n = m ∧ 1 ≤ m ∧ m ≤ 40 ∧ (x = 13 ∨ x = 19)) ∨ (n + 1 = m ∧ 2 ≤ m ∧ m ≤ 40 ∧ (x = 11 ∨ x = 12 ∨ x = 14 ∨ x = 15 ∨ x = 16 ∨ x = 17 ∨ x = 18))
theorem stp_opk {x m n : Nat} (h : opk x m n) : stp (cs x) (i32 x) m n := by
  rcases h with ⟨h1, h2, h3⟩ | ⟨h1, h2, h3, h4⟩ | ⟨h1, h2, h3, h4⟩
  · refine ⟨by omega, Or.inl ⟨h1, h2, ?_⟩⟩
    unfold cs
    rcases h3 with h3 | h3
    · rw [if_pos h3.1]
      exact Or.inl ⟨x - 100000, by omega, rfl, by rw [show 100000 + (x - 100000) = x by omega]⟩
    · rw [if_neg (by omega), if_pos h3]
      exact Or.inr ⟨x, h3, rfl, rfl⟩
  · refine ⟨by omega, Or.inr (Or.inl ⟨h1, h2, ?_⟩)⟩
    rcases h4 with rfl | rfl
    · exact Or.inl ⟨rfl, rfl⟩
    · exact Or.inr ⟨rfl, rfl⟩
  · refine ⟨by omega, Or.inr (Or.inr ⟨h1, h2, ?_⟩)⟩
    rcases h4 with rfl | rfl | rfl | rfl | rfl | rfl | rfl
    · exact Or.inl ⟨rfl, rfl⟩
    · exact Or.inr (Or.inl ⟨rfl, rfl⟩)
    · exact Or.inr (Or.inr (Or.inl ⟨rfl, rfl⟩))
    · exact Or.inr (Or.inr (Or.inr (Or.inl ⟨rfl, rfl⟩)))
    · exact Or.inr (Or.inr (Or.inr (Or.inr (Or.inl ⟨rfl, rfl⟩))))
    · exact Or.inr (Or.inr (Or.inr (Or.inr (Or.inr (Or.inl ⟨rfl, rfl⟩)))))
    · exact Or.inr (Or.inr (Or.inr (Or.inr (Or.inr (Or.inr ⟨rfl, rfl⟩)))))
theorem wf_s {f h : Nat → Int32} {k l x n n' : Nat} (e1 : f k = cs x) (e2 : h k = i32 x) (o : opk x n n') (w : WFx f h (k + 1) l n') : WFx f h k (l + 1) n := ⟨n', by rw [e1, e2]; exact stp_opk o, w⟩
def cdl (A SO C D ST F T : Nat) : List Nat := [0, 100000 + A, 17, 3, 100000 + SO, 14, 100000 + C, 18, 16, 1, 100000 + D, 16, 2, 100000 + ST, 14, 100000 + 4, 18, 17, 100000 + F, 3, 100000 + T, 18, 16, 2, 4, 14, 16]
def f71 (A SO C D ST F T : Nat) : Nat → Int32 := fun j => i32 ((cdl A SO C D ST F T).getD (j - 200) 0)
def f81 : Nat → Int32 := fun j => i32 (9 * (j - 4))
theorem f71_e (g : Mem) (A SO C D ST F T k : Nat) : (fun j => (mkM g 1 (f71 A SO C D ST F T) f81).1 7 (200 * 1 + j)) k = i32 ((cdl A SO C D ST F T).getD k 0) := by
  show i32 ((cdl A SO C D ST F T).getD (200 * 1 + k - 200) 0) = _
  rw [show 200 * 1 + k - 200 = k by omega]
theorem TxI_1 {A SO C D ST F T : Nat} (hA : A < 100) (hSO : SO < 100) (hC : C < 100) (hD : D < 100) (hST : ST < 100) (hF : F < 100) (hT' : T < 100) {g : Mem} (hk : kI 9 0 g (KK3 A SO C D ST F T)) (e0 : g.1 11 0 = i32 9) (e1 : g.1 11 1 = i32 18) (e2 : g.1 11 2 = i32 27) : TxI 1 g (mkM g 1 (f71 A SO C D ST F T) f81) := by
  obtain ⟨s26, s25, s24, s23, s22, s21, s20, s19, s18, s17, s16, s15, s14, s13, s12, s11, s10, s9, s8, s7, s6, s5, s4, s3, s2, s1, s0, _⟩ := hk
  intro p hp
  rcases (by omega : p = 0 ∨ p = 1 ∨ p = 2) with rfl | rfl | rfl
  · refine ⟨0, 9, by omega, by omega, fun _ => rfl, fun h => by omega, e0, rfl, rfl, ?_⟩
    exact wf_s s0 (f71_e g _ _ _ _ _ _ _ 0) (Or.inl ⟨rfl, by omega, Or.inr (by decide)⟩) (wf_s s1 (f71_e g _ _ _ _ _ _ _ 1) (Or.inl ⟨rfl, by omega, Or.inl (by omega)⟩) (wf_s s2 (f71_e g _ _ _ _ _ _ _ 2) (Or.inr (Or.inr ⟨rfl, by omega, by omega, by decide⟩))
      (wf_s s3 (f71_e g _ _ _ _ _ _ _ 3) (Or.inl ⟨rfl, by omega, Or.inr (by decide)⟩) (wf_s s4 (f71_e g _ _ _ _ _ _ _ 4) (Or.inl ⟨rfl, by omega, Or.inl (by omega)⟩) (wf_s s5 (f71_e g _ _ _ _ _ _ _ 5) (Or.inr (Or.inr ⟨rfl, by omega, by omega, by decide⟩))
      (wf_s s6 (f71_e g _ _ _ _ _ _ _ 6) (Or.inl ⟨rfl, by omega, Or.inl (by omega)⟩) (wf_s s7 (f71_e g _ _ _ _ _ _ _ 7) (Or.inr (Or.inr ⟨rfl, by omega, by omega, by decide⟩)) (wf_s s8 (f71_e g _ _ _ _ _ _ _ 8) (Or.inr (Or.inr ⟨rfl, by omega, by omega, by decide⟩)) rfl))))))))
  · refine ⟨9, 18, by omega, by omega, fun h => by omega, fun _ => e0, e1, rfl, rfl, ?_⟩
    exact wf_s s9 (f71_e g _ _ _ _ _ _ _ 9) (Or.inl ⟨rfl, by omega, Or.inr (by decide)⟩) (wf_s s10 (f71_e g _ _ _ _ _ _ _ 10) (Or.inl ⟨rfl, by omega, Or.inl (by omega)⟩) (wf_s s11 (f71_e g _ _ _ _ _ _ _ 11) (Or.inr (Or.inr ⟨rfl, by omega, by omega, by decide⟩))
      (wf_s s12 (f71_e g _ _ _ _ _ _ _ 12) (Or.inl ⟨rfl, by omega, Or.inr (by decide)⟩) (wf_s s13 (f71_e g _ _ _ _ _ _ _ 13) (Or.inl ⟨rfl, by omega, Or.inl (by omega)⟩) (wf_s s14 (f71_e g _ _ _ _ _ _ _ 14) (Or.inr (Or.inr ⟨rfl, by omega, by omega, by decide⟩))
      (wf_s s15 (f71_e g _ _ _ _ _ _ _ 15) (Or.inl ⟨rfl, by omega, Or.inl (by omega)⟩) (wf_s s16 (f71_e g _ _ _ _ _ _ _ 16) (Or.inr (Or.inr ⟨rfl, by omega, by omega, by decide⟩)) (wf_s s17 (f71_e g _ _ _ _ _ _ _ 17) (Or.inr (Or.inr ⟨rfl, by omega, by omega, by decide⟩)) rfl))))))))
  · refine ⟨18, 27, by omega, by omega, fun h => by omega, fun _ => e1, e2, rfl, rfl, ?_⟩
    exact wf_s s18 (f71_e g _ _ _ _ _ _ _ 18) (Or.inl ⟨rfl, by omega, Or.inl (by omega)⟩) (wf_s s19 (f71_e g _ _ _ _ _ _ _ 19) (Or.inl ⟨rfl, by omega, Or.inr (by decide)⟩) (wf_s s20 (f71_e g _ _ _ _ _ _ _ 20) (Or.inl ⟨rfl, by omega, Or.inl (by omega)⟩)
      (wf_s s21 (f71_e g _ _ _ _ _ _ _ 21) (Or.inr (Or.inr ⟨rfl, by omega, by omega, by decide⟩)) (wf_s s22 (f71_e g _ _ _ _ _ _ _ 22) (Or.inr (Or.inr ⟨rfl, by omega, by omega, by decide⟩)) (wf_s s23 (f71_e g _ _ _ _ _ _ _ 23) (Or.inl ⟨rfl, by omega, Or.inr (by decide)⟩)
      (wf_s s24 (f71_e g _ _ _ _ _ _ _ 24) (Or.inl ⟨rfl, by omega, Or.inr (by decide)⟩) (wf_s s25 (f71_e g _ _ _ _ _ _ _ 25) (Or.inr (Or.inr ⟨rfl, by omega, by omega, by decide⟩)) (wf_s s26 (f71_e g _ _ _ _ _ _ _ 26) (Or.inr (Or.inr ⟨rfl, by omega, by omega, by decide⟩)) rfl))))))))
