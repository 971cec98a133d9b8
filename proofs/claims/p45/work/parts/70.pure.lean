/-! THE LAW AS A PURE FUNCTION ANSWERS 1 -/
theorem law_pure (sa : SA) (hL : sa.2.2.1 ≤ 260) : ∃ (N N0 : Nat) (rB : Int32) (gB : Mem) (fl : Int32) (ga g1 : Mem) (rE : Int32) (gE : Mem), bootI N0 gI0 = some (rB, gB) ∧ (∀ k, k < 42 → ∀ q, gB.2 k = some q → q < 42) ∧ L_buildA N sa (gI1 gB) = some (fl, ga) ∧
    ((fl = 1 ∧ g1 = ga) ∨ (fl = 0 ∧ ∃ rf gf rt gt rq, feedX N (tq15 sa) ga = some (rf, gf) ∧ X5_text N gf = some (rt, gt) ∧ X5_force N rt gt = some (rq, g1))) ∧ (∀ k, k < 73 → ∀ q, g1.2 k = some q → q < 73) ∧ L_law N sa (hz g1) = some (1, gE) := by
  rcases pl_01 sa with e | e
  · obtain ⟨rB, gB, ga, rf, gf, rt, gt, rq, g1, gE, h1, h2, h3, h4, h5, h6, h7, h8⟩ := law_np hL e
    exact ⟨6000, 6000, rB, gB, 0, ga, g1, 0, gE, h1, h2, h3, Or.inr ⟨rfl, rf, gf, rt, gt, rq, h4, h5, h6⟩, h7, h8⟩
  · obtain ⟨rB, gB, ga, gE, h1, h2, h3, h4, h5⟩ := law_pl hL e
    exact ⟨6000, 6000, rB, gB, 1, ga, ga, 0, gE, h1, h2, h3, Or.inl ⟨rfl, rfl⟩, h4, h5⟩
