/-! THE STARTING STATE: what both sides hold behind their constructors -/
def LM4 : List (List Int32) := [[0, 0, 0, 0, 0, 0, 0, 0, 44, 0, 0, 0, 0, 0, 0, 0, 0, 0, 0, 0, 0, 0, 0, 0, 0, 0, 0, 0, 0, 0, 0, 0, 0, 0], [], [], [], mA33, [], bl0, [], [], [], [], mA345, [], [], mA385, mA645, [], [], [], []]
def gM4 : Mem := (fun k => pl (LM4.getD k []), fun _ => none)
def seen (q : Int32 × Mem) : Int32 × List Int32 × List Int32 := (q.1, (List.range 5).map (fun j => q.2.1 7 j), (List.range 4).map (fun j => q.2.1 8 j))
set_option maxRecDepth 1000000 in
set_option maxHeartbeats 4000000 in
theorem ev3 : (X6_text 6000 gM0).map seen = some (0, [0, 1, 100002, 18, 100003], [0, 1, 4, 5]) := by decide +kernel
set_option maxRecDepth 1000000 in
set_option maxHeartbeats 4000000 in
theorem ev4 : (X6_text 6000 gM4).map seen = some (0, [0, 1, 100002, 18, 100003], [0, 1, 4, 5]) := by decide +kernel
set_option maxRecDepth 1000000 in
set_option maxHeartbeats 4000000 in
theorem ev5 : (bootI 6000 gI0).map (fun q => q.2.2 0) = some (some 4) := by decide +kernel
theorem feed_l {N : Nat} : ∀ (L : List Int32) (n : Nat) (g : Mem), g.1 0 1 = i32 n → n + L.length ≤ 160 → ∃ g', feedL N L g = some (0, g') ∧ g'.1 0 1 = i32 (n + L.length) ∧ (∀ j, j < n → g'.1 1 j = g.1 1 j) ∧ (∀ j, j < L.length → g'.1 1 (n + j) = L.getD j 0) ∧ (∀ c, ¬ c = 0 → ¬ c = 1 → g'.1 c = g.1 c) ∧ (∀ j, ¬ j = 1 → g'.1 0 j = g.1 0 j) ∧ g'.2 = g.2 := by
  intro L
  induction L with
  | nil =>
    intro n g h1 h2
    exact ⟨g, rfl, h1, fun _ _ => rfl, fun j hj => by simp at hj, fun _ _ _ => rfl, fun _ _ => rfl, rfl⟩
  | cons b bs ih =>
    intro n g h1 h2
    simp only [List.length_cons] at h2
    have e : X3_add N b g = some (0, stI (stI g 1 n b) 0 1 (i32 (n + 1))) := by
      simp -dsimp -implicitDefEqProofs (disch := omega) only [X3_add, h1, stI_eq, stI_nj, stI_ne, stI_2, stA_eq, stA_ne, stA_2, stR_1, stR_2, i32_lit, i32_add, i32_mul, i32_tn, i32_sub, le_t, le_f, lt_t, lt_f, eq_t, eq_f, eq_rfl, inR_t, ↓ob_x, obx_s, ↓bnd_s, ↓oT_x, oTx_s, ↓ite_x, itx_T, itx_F, ↓reduceIte, not_true_eq_false, not_false_eq_true, true_and, and_true, Nat.reduceAdd, Nat.reduceMul, Nat.reduceSub, Nat.reduceEqDiff, isB0, isB1, Int32.neg_neg, Nat.zero_add, Nat.add_zero, Nat.mul_zero, Nat.mul_one, Nat.zero_mul]
    obtain ⟨g', r1, r2, r3, r4, r5, r6, r7⟩ := ih (n + 1) (stI (stI g 1 n b) 0 1 (i32 (n + 1))) (stI_eq _ _ _ _) (by omega)
    refine ⟨g', ?_, ?_, fun j hj => ?_, fun j hj => ?_, fun c c0 c1 => ?_, fun j hj => ?_, ?_⟩
    · show ob (X3_add N b g) _ = _
      rw [e, ob_s]
      exact r1
    · rw [r2, List.length_cons]
      congr 1
      omega
    · rw [r3 j (by omega), stI_ne _ _ _ _ _ (by omega), stI_nj _ _ _ _ _ (by omega)]
    · cases j with
      | zero =>
        rw [Nat.add_zero, r3 n (by omega), stI_ne _ _ _ _ _ (by omega), stI_eq]
        rfl
      | succ j =>
        have := r4 j (by simp only [List.length_cons] at hj; omega)
        rw [show n + (j + 1) = n + 1 + j by omega, this]
        rfl
    · rw [r5 c c0 c1, stI_ne _ _ _ _ _ c0, stI_ne _ _ _ _ _ c1]
    · rw [r6 j hj, stI_nj _ _ _ _ _ hj, stI_ne _ _ _ _ _ (by omega)]
    · rw [r7]; rfl
def bN (j : Nat) : Nat := (bl0.getD j 0).toNatClampNeg
set_option maxRecDepth 1000000 in
theorem bN_1 : ∀ j, j < 44 → bN j < 256 ∧ bl0.getD j 0 = i32 (bN j) := by decide +kernel
set_option maxRecDepth 1000000 in
theorem bN_2 : ∀ j, j < 43 → bN j < 256 ∧ gM0.1 6 j = i32 (bN j) := by decide +kernel
set_option maxRecDepth 1000000 in
theorem wr_0 : WR gM0 := by unfold WR; decide +kernel
theorem neg_not {x : Nat} (hx : x ≤ 160) : ¬ (-(i32 100) - i32 x = 0) := by
  intro h
  have e1 : -(i32 100) - i32 x = -(i32 (100 + x)) := by
    rw [← i32_add, Int32.sub_eq_add_neg, Int32.neg_add, Int32.sub_eq_add_neg]
  rw [e1] at h
  have h2 : i32 (100 + x) = i32 0 := by
    have := congrArg (fun y : Int32 => -y) h
    exact (by simpa using this : i32 (100 + x) = (0 : Int32))
  rw [i32_inj (by omega) (by omega)] at h2
  omega
theorem seen_of {A : Option (Int32 × Mem)} {r r0 : Int32} {g : Mem} {l1 l2 : List Int32} (h : A = some (r, g)) (e : A.map seen = some (r0, l1, l2)) : r = r0 ∧ (List.range 5).map (fun j => g.1 7 j) = l1 ∧ (List.range 4).map (fun j => g.1 8 j) = l2 := by
  subst h
  simp only [Option.map_some, seen, Option.some.injEq, Prod.mk.injEq] at e
  exact e
theorem at_map {n : Nat} {f : Nat → Int32} {l : List Int32} (h : (List.range n).map f = l) {j : Nat} (hj : j < n) : f j = l.getD j 0 := by
  rw [← h]
  simp [hj]
theorem NB_d {m : Nat} {x : Int32} (h : x.toNatClampNeg ≤ m ∧ x = i32 x.toNatClampNeg) : NB m x := ⟨_, h.1, h.2⟩
theorem NB_pl {m : Nat} {L : List Int32} (h : L.all (fun x => decide (x.toNatClampNeg ≤ m) && decide (x = i32 x.toNatClampNeg)) = true) (j : Nat) : NB m (pl L j) := by
  unfold pl
  rcases Nat.lt_or_ge j L.length with q | q
  · have hm : L.getD j 0 ∈ L := by
      rw [List.getD_eq_getElem?_getD, List.getElem?_eq_getElem q]
      exact List.getElem_mem q
    have := List.all_eq_true.mp h _ hm
    simp only [Bool.and_eq_true, decide_eq_true_eq] at this
    exact ⟨_, this.1, this.2⟩
  · rw [List.getD_eq_getElem?_getD, List.getElem?_eq_none q]
    exact ⟨0, Nat.zero_le _, rfl⟩
set_option maxRecDepth 1000000 in
set_option maxHeartbeats 4000000 in
theorem boot_R : ∃ rB gB rM gM, bootI 6000 gI0 = some (rB, gB) ∧ (∀ k, k < 42 → ∀ q, gB.2 k = some q → q < 42) ∧ X6_text 6000 gM0 = some (rM, gM) ∧ R (gI1 gB) gM := by
  obtain ⟨g1, f1, f2, f3, f4, f5, f6, f7⟩ := feed_l (N := 6000) bl0 0 gI0 rfl (by decide)
  have tape : ∀ j, j < 44 → bN j < 256 ∧ g1.1 1 j = i32 (bN j) := fun j hj => by
    have := f4 j hj
    rw [Nat.zero_add] at this
    rw [this]
    exact bN_1 j hj
  have T4 : TI bN 44 g1 := ⟨by decide, f2, tape⟩
  have T3 : TI bN 43 (stI g1 0 1 (i32 43)) := ⟨by decide, stI_eq _ _ _ _, fun j hj => by rw [stI_ne _ _ _ _ _ (by omega)]; exact tape j (by omega)⟩
  have M4 : TM bN 44 gM4 := ⟨by decide, rfl, bN_1, wr_0⟩
  have M3 : TM bN 43 gM0 := ⟨by decide, rfl, bN_2, wr_0⟩
  have X4 : ∃ gI' gM', X3_readInto 6000 4 g1 = some (-(i32 1), gI') ∧ X6_text 6000 gM4 = some (i32 0, gM') ∧ TxI 0 gI' gM' ∧ FT 0 g1 gI' := by
    rcases text_core (N := 6000) (c := 0) (Nat.le_refl _) (by decide) T4 M4 rfl with ⟨a, b, x, _, r2, r3, _⟩ | ⟨a, b, r1, r2, r3, r4, _⟩
    · exact absurd (seen_of r2 ev4).1 (neg_not r3)
    · exact ⟨a, b, r1, r2, r3, r4⟩
  have X3 : ∃ gM', X6_text 6000 gM0 = some (i32 0, gM') ∧ FU 0 gM0 gM' ∧ gM'.1 0 8 = i32 0 ∧ gM'.1 0 11 = i32 1 := by
    rcases text_core (N := 6000) (c := 0) (Nat.le_refl _) (by decide) T3 M3 rfl with ⟨a, b, x, _, r2, r3, _⟩ | ⟨a, b, r1, r2, r3, r4, r5, r6, r7⟩
    · exact absurd (seen_of r2 ev3).1 (neg_not r3)
    · exact ⟨b, r2, r5, r6, r7⟩
  obtain ⟨gI', gM', a1, a2, a3, a4⟩ := X4
  obtain ⟨gM, b1, b2, b3, b4⟩ := X3
  have s4 := seen_of a2 ev4
  have s3 := seen_of b1 ev3
  have hB : bootI 6000 gI0 = some (0, stI gI' 0 1 (i32 0)) := by
    unfold bootI
    rw [f1, ob_s, a1, ob_s]
    rfl
  have e2 : gI'.2 0 = some 4 := by
    have := ev5
    rw [hB] at this
    exact Option.some.inj this
  have ie : ∀ e, ¬ e = 0 → ¬ e = 1 → ¬ e = 4 → ¬ e = 5 → ¬ e = 6 → (stI gI' 0 1 (i32 0)).1 e = gI0.1 e := fun e x0 x1 x4 x5 x6 => by
    rw [stI_ne _ _ _ _ _ x0, a4.1 e x0 (by omega) (by omega) (by omega), f5 e x0 x1]
  have me : ∀ e, ¬ e = 0 → ¬ e = 7 → ¬ e = 8 → ¬ e = 16 → gM.1 e = gM0.1 e := b2.1
  have lo : ∀ e, e < 42 → (gI1 (stI gI' 0 1 (i32 0))).1 e = (stI gI' 0 1 (i32 0)).1 e := fun e he => by
    show (if e < 42 then _ else _) = _
    rw [if_pos he]
  have m0 : ∀ j, ¬ j = 8 → ¬ j = 11 → ¬ (20 ≤ j ∧ j ≤ 23) → ¬ (26 ≤ j ∧ j ≤ 28) → gM.1 0 j = gM0.1 0 j := b2.2.1
  have T : TxI 0 (gI1 (stI gI' 0 1 (i32 0))) gM := by
    have c5 : (gI1 (stI gI' 0 1 (i32 0))).1 5 = gI'.1 5 := (lo 5 (by decide)).trans (stI_ne _ _ _ _ _ (by decide))
    have c6 : (gI1 (stI gI' 0 1 (i32 0))).1 6 = gI'.1 6 := (lo 6 (by decide)).trans (stI_ne _ _ _ _ _ (by decide))
    have k8 : ∀ j, j < 4 → gM.1 8 j = gM'.1 8 j := fun j hj => (at_map s3.2.2 hj).trans (at_map s4.2.2 hj).symm
    have k7 : ∀ j, j < 5 → gM.1 7 j = gM'.1 7 j := fun j hj => (at_map s3.2.1 hj).trans (at_map s4.2.1 hj).symm
    have l8 : ∀ j, j < 4 → gM'.1 8 j = ([0, 1, 4, 5] : List Int32).getD j 0 := fun j hj => at_map s4.2.2 hj
    intro p hp
    obtain ⟨s, e, h1, h2, h3, h4, h5, h6, h7, W⟩ := a3 p hp
    have he : e ≤ 5 := by
      have q := h7.symm.trans (l8 _ (by omega))
      rcases (by omega : p = 0 ∨ p = 1 ∨ p = 2) with rfl | rfl | rfl
      · have q2 : i32 e = i32 1 := q
        rw [i32_inj (by omega) (by omega)] at q2; omega
      · have q2 : i32 e = i32 4 := q
        rw [i32_inj (by omega) (by omega)] at q2; omega
      · have q2 : i32 e = i32 5 := q
        rw [i32_inj (by omega) (by omega)] at q2; omega
    refine ⟨s, e, h1, h2, h3, fun q => ?_, ?_, ?_, ?_, ?_⟩
    · exact (congrFun c6 _).trans (h4 q)
    · exact (congrFun c6 _).trans h5
    · rw [k8 _ (by omega)]; exact h6
    · rw [k8 _ (by omega)]; exact h7
    · refine WFx_c _ _ _ (fun k x1 x2 => ⟨congrFun c5 k, ?_⟩) W
      rw [Nat.mul_zero, Nat.zero_add]
      exact k7 k (by omega)
  refine ⟨0, _, _, gM, hB, fun k hk q hq => ?_, b1, 0, 0, 1, ⟨⟨⟨by decide, by decide, by decide⟩, ?_⟩, ?_, ?_, ?_⟩, ?_, ?_, ?_, ?_⟩
  · by_cases k0 : k = 0
    · subst k0
      rw [show (stI gI' 0 1 (i32 0)).2 0 = gI'.2 0 from rfl, e2] at hq
      cases hq
      decide
    · rw [show (stI gI' 0 1 (i32 0)).2 k = gI'.2 k from rfl, a4.2.2.2 k k0, f7] at hq
      cases hq
  · have d1 : ∀ k, k < 12 → pl (LS1.getD 2 []) k = pl mA33 (4 * k) := by decide +kernel
    have d2 : ∀ k, k < 12 → pl (LS1.getD 3 []) k = pl mA33 (4 * k + 1) := by decide +kernel
    have d3 : ∀ k, k < 12 → pl (LS1.getD 4 []) k = pl mA33 (4 * k + 2) := by decide +kernel
    have d4 : ∀ k, k < 12 → pl (LS1.getD 5 []) k = pl mA33 (4 * k + 3) := by decide +kernel
    refine ⟨fun t _ => ?_, fun k hk => ?_, fun k hk => ?_, fun k hk => ?_, fun k hk => ?_, fun p _ => ?_, rfl, ?_, fun p hp => by omega, fun p hp => by omega, ?_, rfl, ?_, T⟩
    · rw [me 5 (by decide) (by decide) (by decide) (by decide)]; rfl
    · rw [me 4 (by decide) (by decide) (by decide) (by decide)]; exact d1 k hk
    · rw [me 4 (by decide) (by decide) (by decide) (by decide)]; exact d2 k hk
    · rw [me 4 (by decide) (by decide) (by decide) (by decide)]; exact d3 k hk
    · rw [me 4 (by decide) (by decide) (by decide) (by decide)]; exact d4 k hk
    · rw [me 3 (by decide) (by decide) (by decide) (by decide)]; rfl
    · rw [m0 0 (by decide) (by decide) (by decide) (by decide)]; rfl
    · rw [m0 6 (by decide) (by decide) (by decide) (by decide)]; rfl
    · rw [m0 12 (by decide) (by decide) (by decide) (by decide)]; rfl
  · have d1 : ∀ k, k < 12 → (pl mA33 (4 * k)).toNatClampNeg ≤ 5 ∧ pl mA33 (4 * k) = i32 (pl mA33 (4 * k)).toNatClampNeg := by decide +kernel
    have d2 : ∀ k, k < 12 → (pl mA33 (4 * k + 1)).toNatClampNeg ≤ 99 ∧ pl mA33 (4 * k + 1) = i32 (pl mA33 (4 * k + 1)).toNatClampNeg := by decide +kernel
    have d3 : ∀ k, k < 12 → (pl mA33 (4 * k + 2)).toNatClampNeg ≤ 99 ∧ pl mA33 (4 * k + 2) = i32 (pl mA33 (4 * k + 2)).toNatClampNeg := by decide +kernel
    have d4 : ∀ k, k < 12 → (pl mA33 (4 * k + 3)).toNatClampNeg ≤ 2 ∧ pl mA33 (4 * k + 3) = i32 (pl mA33 (4 * k + 3)).toNatClampNeg := by decide +kernel
    refine ⟨fun t _ => ?_, fun k hk => ?_, fun k hk => ?_, fun k hk => ?_, fun k hk => ?_, fun p _ => ?_, fun p hp => by omega, fun p hp => by omega⟩
    · rw [me 5 (by decide) (by decide) (by decide) (by decide)]; exact NB_pl (L := []) rfl t
    · rw [me 4 (by decide) (by decide) (by decide) (by decide)]; exact NB_d (d1 k hk)
    · rw [me 4 (by decide) (by decide) (by decide) (by decide)]; exact NB_d (d2 k hk)
    · rw [me 4 (by decide) (by decide) (by decide) (by decide)]; exact NB_d (d3 k hk)
    · rw [me 4 (by decide) (by decide) (by decide) (by decide)]; exact NB_d (d4 k hk)
    · rw [me 3 (by decide) (by decide) (by decide) (by decide)]; exact NB_pl (L := []) rfl (2 * p)
  · intro p _
    rw [me 3 (by decide) (by decide) (by decide) (by decide)]; rfl
  · rw [m0 6 (by decide) (by decide) (by decide) (by decide)]; exact ⟨0, by decide, rfl⟩
  · have d1 : ∀ j, j < 6 → gI0.1 (4 + 5 * j) 0 = i32 j := by decide +kernel
    refine ⟨by decide, by decide, rfl, b4, fun j hj => ?_, fun j hj => ?_⟩
    · rw [lo _ (by omega), stI_ne _ _ _ _ _ (by omega), ← d1 j hj]
      by_cases j0 : j = 0
      · subst j0
        rw [show 4 + 5 * 0 = 4 from rfl]
        rw [a4.2.2.1 0 (by decide), f5 _ (by decide) (by decide)]
      · rw [a4.1 _ (by omega) (by omega) (by omega) (by omega), f5 _ (by omega) (by omega)]
    · obtain rfl : j = 0 := by omega
      exact T
  · refine ⟨0, ⟨by decide, fun j hj => ?_⟩, ?_, b3, fun j hj => by omega⟩
    · rw [me 15 (by decide) (by decide) (by decide) (by decide)]; exact wr_0 j hj
    · rw [lo 0 (by decide)]; exact stI_eq _ _ _ _
  · intro s hs
    have d1 : ∀ s, s < 4 → gI0.1 (34 + 2 * s) 1 = gM0.1 11 s ∧ gM0.1 11 s = -(i32 1) ∧ gI0.1 (34 + 2 * s) 2 = i32 0 ∧ gM0.1 12 s = i32 0 := by decide +kernel
    obtain ⟨x1, x2, x3, x4⟩ := d1 s hs
    rw [lo _ (by omega), ie _ (by omega) (by omega) (by omega) (by omega) (by omega), lo _ (by omega), ie (34 + 2 * s + 1) (by omega) (by omega) (by omega) (by omega) (by omega), me 11 (by decide) (by decide) (by decide) (by decide), me 12 (by decide) (by decide) (by decide) (by decide), me 13 (by decide) (by decide) (by decide) (by decide)]
    refine ⟨x1, Or.inl x2, ⟨0, by decide, x3, x4⟩, fun j _ => ?_⟩
    rcases (by omega : s = 0 ∨ s = 1 ∨ s = 2 ∨ s = 3) with rfl | rfl | rfl | rfl <;> rfl
  · refine Or.inl ⟨rfl, ?_⟩
    rw [m0 13 (by decide) (by decide) (by decide) (by decide)]; rfl
