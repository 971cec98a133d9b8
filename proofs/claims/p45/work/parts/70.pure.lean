/-! THE LAW AS A PURE FUNCTION ANSWERS 1 -/
theorem law_pure (sa : SA) (hL : sa.2.2.1 ≤ 260) : ∃ (N N0 : Nat) (rB : Int32) (gB : Mem) (fl : Int32) (ga g1 : Mem) (rE : Int32) (gE : Mem), bootI N0 gI0 = some (rB, gB) ∧ (∀ k, k < 42 → ∀ q, gB.2 k = some q → q < 42) ∧ L_buildA N sa (gI1 gB) = some (fl, ga) ∧
    ((fl = 1 ∧ g1 = ga) ∨ (fl = 0 ∧ ∃ rf gf rt gt rq, feedX N (tq15 sa) ga = some (rf, gf) ∧ X5_text N gf = some (rt, gt) ∧ X5_force N rt gt = some (rq, g1))) ∧ (∀ k, k < 73 → ∀ q, g1.2 k = some q → q < 73) ∧ L_law N sa (hz g1) = some (1, gE) := sorry
