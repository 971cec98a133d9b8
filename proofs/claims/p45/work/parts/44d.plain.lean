theorem gl_map {α : Type} {n : Nat} {f : Nat → α} {l : List α} (h : (List.range n).map f = l) {j : Nat} (hj : j < n) : l[j]? = some (f j) := by
  rw [← h]
  simp [hj]
theorem boot_e : ∃ rB gB, bootI 6000 gI0 = some (rB, gB) ∧ (gB.2 0 = some 4 ∧ ∀ k, 0 < k → k < 42 → gB.2 k = none) ∧ (gB.1 5 0 = -(i32 266) ∧ gB.1 5 1 = -(i32 267) ∧ gB.1 5 2 = i32 2 ∧ gB.1 5 3 = -(i32 42) ∧ gB.1 5 4 = i32 3) ∧ (gB.1 6 0 = i32 1 ∧ gB.1 6 1 = i32 4 ∧ gB.1 6 2 = i32 5) ∧ gB.1 0 1 = i32 0 ∧ ∀ j, j < 6 → gB.1 (4 + 5 * j) 0 = i32 j := by
  have e := ev_B
  rcases hb : bootI 6000 gI0 with _ | ⟨rB, gB⟩
  · rw [hb] at e; exact absurd e (by simp)
  · rw [hb] at e
    simp only [Option.map_some, seenB, Option.some.injEq, Prod.mk.injEq] at e
    obtain ⟨e1, e2, e3, e4⟩ := e
    refine ⟨rB, gB, rfl, ⟨?_, fun k h0 hk => ?_⟩, ⟨?_, ?_, ?_, ?_, ?_⟩, ⟨?_, ?_, ?_⟩, ?_, fun j hj => ?_⟩
    · have := gl_map e1 (show 0 < 42 by omega); exact (Option.some.inj this).symm
    · have := gl_map e1 hk
      obtain ⟨k', rfl⟩ : ∃ q, k = q + 1 := ⟨k - 1, by omega⟩
      have w : (some 4 :: List.replicate 41 (none : Option Nat))[k' + 1]? = some none := by
        rw [List.getElem?_cons_succ, List.getElem?_replicate, if_pos (by omega)]
      rw [w] at this
      exact (Option.some.inj this).symm
    · exact (Option.some.inj (gl_map e2 (show 0 < 5 by omega))).symm
    · exact (Option.some.inj (gl_map e2 (show 1 < 5 by omega))).symm
    · exact (Option.some.inj (gl_map e2 (show 2 < 5 by omega))).symm
    · exact (Option.some.inj (gl_map e2 (show 3 < 5 by omega))).symm
    · exact (Option.some.inj (gl_map e2 (show 4 < 5 by omega))).symm
    · exact (Option.some.inj (gl_map e3 (show 0 < 3 by omega))).symm
    · exact (Option.some.inj (gl_map e3 (show 1 < 3 by omega))).symm
    · exact (Option.some.inj (gl_map e3 (show 2 < 3 by omega))).symm
    · exact (List.cons.inj e4).1
    · have := gl_map (List.cons.inj e4).2 hj
      rcases (by omega : j = 0 ∨ j = 1 ∨ j = 2 ∨ j = 3 ∨ j = 4 ∨ j = 5) with rfl | rfl | rfl | rfl | rfl | rfl <;> exact (Option.some.inj this).symm
theorem BI_0 (sa : SA) (gB : Mem) : BI sa (fun _ _ => False) 0 (gI1 gB) := by
  refine ⟨fun c j _ h => absurd h id, rfl, fun p _ _ => ⟨?_, ?_⟩⟩
  · show pl [] p = 0
    simp [pl]
  · show pl [] p = 0
    simp [pl]
theorem gI1_lo (gB : Mem) (c : Nat) (h : c < 42) : (gI1 gB).1 c = gB.1 c := by
  show (if c < 42 then gB.1 c else _) = _
  rw [if_pos h]
theorem gI1_2lo (gB : Mem) (c : Nat) (h : c < 42) : (gI1 gB).2 c = gB.2 c := by
  show (if c < 42 then gB.2 c else _) = _
  rw [if_pos h]
theorem gI1_2hi (gB : Mem) (c : Nat) (h : 42 ≤ c) : (gI1 gB).2 c = if c = 42 ∨ c = 52 ∨ c = 62 then some 4 else none := by
  show (if c < 42 then gB.2 c else _) = _
  rw [if_neg (by omega)]
def cd0 : Nat → Int32 := fun j => if j = 0 then i32 0 else if j = 1 then i32 1 else if j = 2 then i32 (100000 + 2) else if j = 3 then i32 18 else i32 (100000 + 3)
def en0 : Nat → Int32 := fun j => if j = 0 then i32 0 else if j = 1 then i32 1 else if j = 2 then i32 4 else i32 5
theorem TxI_0 {g : Mem} (s0 : g.1 5 0 = -(i32 266)) (s1 : g.1 5 1 = -(i32 267)) (s2 : g.1 5 2 = i32 2) (s3 : g.1 5 3 = -(i32 42)) (s4 : g.1 5 4 = i32 3) (e0 : g.1 6 0 = i32 1) (e1 : g.1 6 1 = i32 4) (e2 : g.1 6 2 = i32 5) : TxI 0 g (mkM g 0 cd0 en0) := by
  intro p hp
  rcases (by omega : p = 0 ∨ p = 1 ∨ p = 2) with rfl | rfl | rfl
  · refine ⟨0, 1, by omega, by omega, fun _ => rfl, fun h => by omega, e0, rfl, rfl, ?_⟩
    exact ⟨1, ⟨by omega, Or.inl ⟨rfl, by omega, Or.inr ⟨0, by omega, s0, rfl⟩⟩⟩, rfl⟩
  · refine ⟨1, 4, by omega, by omega, fun h => by omega, fun _ => e0, e1, rfl, rfl, ?_⟩
    exact ⟨1, ⟨by omega, Or.inl ⟨rfl, by omega, Or.inr ⟨1, by omega, s1, rfl⟩⟩⟩, 2, ⟨by omega, Or.inl ⟨rfl, by omega, Or.inl ⟨2, by omega, s2, rfl⟩⟩⟩, 1, ⟨by omega, Or.inr (Or.inr ⟨rfl, by omega, Or.inr (Or.inr (Or.inr (Or.inr (Or.inr (Or.inr ⟨s3, rfl⟩)))))⟩)⟩, rfl⟩
  · refine ⟨4, 5, by omega, by omega, fun h => by omega, fun _ => e1, e2, rfl, rfl, ?_⟩
    exact ⟨1, ⟨by omega, Or.inl ⟨rfl, by omega, Or.inl ⟨3, by omega, s4, rfl⟩⟩⟩, rfl⟩
theorem cd_h (g : Mem) (e : Nat → Int32) : (fun j => (mkM g 0 cd0 e).1 7 (200 * 0 + j)) = cd0 := by
  funext j
  show cd0 (200 * 0 + j) = _
  rw [Nat.mul_zero, Nat.zero_add]
theorem TXS_0 {sa : SA} (hp : plN sa = 1) (g : Mem) : TXS sa 0 (mkM g 0 cd0 en0) := by
  intro B D S T H M hB hD hS hT hH hM
  have ne : ¬ plN sa = 0 := by omega
  refine ⟨?_, ?_, ?_⟩
  · unfold tv reB
    rw [if_neg ne]
    have z1 : ((mkM g 0 cd0 en0).1 8 (4 * 0 + 0)).toNatClampNeg = 0 := rfl
    have z2 : ((mkM g 0 cd0 en0).1 8 (4 * 0 + 0 + 1)).toNatClampNeg = 1 := rfl
    rw [z1, z2, cd_h]
    show cl (evs _ _ 0 (0 + 1) 0 _) = _
    rw [evs_a (h := cd0) (k := 0) (v := 0) rfl (by omega), evs_0]
    show cl (i32 B) = _
    rw [cl_e (by omega)]
    unfold mi99
    by_cases h : B < 99
    · rw [if_pos h]
    · rw [if_neg h, show B = 99 by omega]
  · unfold tv coB
    rw [if_neg ne]
    have z1 : ((mkM g 0 cd0 en0).1 8 (4 * 0 + 1)).toNatClampNeg = 1 := rfl
    have z2 : ((mkM g 0 cd0 en0).1 8 (4 * 0 + 1 + 1)).toNatClampNeg = 4 := rfl
    rw [z1, z2, cd_h]
    show cl (evs _ _ 1 (2 + 1) 0 _) = _
    rw [evs_a (h := cd0) (k := 1) (v := 1) rfl (by omega), evs_n (h := cd0) (k := 2) (v := 2) rfl (by omega), evs_b (h := cd0) (k := 3) (v := 18) rfl (by omega), evs_0]
    show cl (two' (i32 18) (i32 D) (i32 2)) = _
    rw [two_18, i32_mul]
    exact cl_z _ (by omega) _ (by rw [i32_toInt (by omega)]; omega)
  · unfold tv faB
    rw [if_neg ne]
    have z1 : ((mkM g 0 cd0 en0).1 8 (4 * 0 + 2)).toNatClampNeg = 4 := rfl
    have z2 : ((mkM g 0 cd0 en0).1 8 (4 * 0 + 2 + 1)).toNatClampNeg = 5 := rfl
    rw [z1, z2, cd_h]
    show cl (evs _ _ 4 (0 + 1) 0 _) = _
    rw [evs_n (h := cd0) (k := 4) (v := 3) rfl (by omega), evs_0]
    show cl (i32 3) = _
    rw [cl_e (by omega)]; rfl
theorem hz_GL (g : Mem) : GL g (hz g) := ⟨rfl, fun k hk => by
  show (if k < 1000 then g.2 k else none) = _
  rw [if_pos hk]⟩
theorem law_pl {sa : SA} (hL : sa.2.2.1 ≤ 260) (hp : plN sa = 1) : ∃ rB gB ga gE, bootI 6000 gI0 = some (rB, gB) ∧ (∀ k, k < 42 → ∀ q, gB.2 k = some q → q < 42) ∧ L_buildA 6000 sa (gI1 gB) = some (1, ga) ∧ (∀ k, k < 73 → ∀ q, ga.2 k = some q → q < 73) ∧ L_law 6000 sa (hz ga) = some (1, gE) := by
  obtain ⟨rB, gB, b0, ⟨b1, b2⟩, ⟨c0, c1, c2, c3, c4⟩, ⟨d0, d1, d2⟩, b5, b6⟩ := boot_e
  obtain ⟨ga, e1, e2, e3⟩ := bA_e hL (N := 6000) (Nat.le_refl _) (BI_0 sa gB)
  rw [if_pos hp] at e1
  have r5 : ga.1 5 = gB.1 5 := (e3.2 5 (by omega)).trans (gI1_lo gB 5 (by omega))
  have r6 : ga.1 6 = gB.1 6 := (e3.2 6 (by omega)).trans (gI1_lo gB 6 (by omega))
  have T := TxI_0 (g := ga) (by rw [r5]; exact c0) (by rw [r5]; exact c1) (by rw [r5]; exact c2) (by rw [r5]; exact c3) (by rw [r5]; exact c4) (by rw [r6]; exact d0) (by rw [r6]; exact d1) (by rw [r6]; exact d2)
  have h42 : ga.2 42 = some (4 + 5 * 0) := by rw [e3.1, gI1_2hi _ _ (by omega), if_pos (Or.inl rfl)]
  have cw := mk_CW e2 (by omega : 0 < 6) h42 T (TXS_0 hp ga)
  obtain ⟨gE, e⟩ := law_1 hL (CW_GL cw (hz_GL ga)) (N := 6000) (Nat.le_refl _)
  have p2 : ∀ k, k < 42 → ∀ q, gB.2 k = some q → q < 42 := by
    intro k hk q h
    by_cases z : k = 0
    · subst z; rw [b1] at h; injection h; omega
    · rw [b2 k (by omega) hk] at h; exact absurd h (by simp)
  refine ⟨rB, gB, ga, gE, b0, p2, e1, fun k hk q h => ?_, e⟩
  rw [e3.1] at h
  by_cases z : k < 42
  · rw [gI1_2lo _ _ z] at h; have := p2 k z q h; omega
  · rw [gI1_2hi _ _ (by omega)] at h
    by_cases y : k = 42 ∨ k = 52 ∨ k = 62
    · rw [if_pos y] at h; injection h; omega
    · rw [if_neg y] at h; exact absurd h (by simp)
