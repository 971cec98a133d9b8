/-! THE LAW'S build, AND THE LAW FROM ITS ENTRY -/
set_option maxRecDepth 1000000 in
set_option maxHeartbeats 16000000 in
theorem c_build {l : Launch} {D : va_G} {tys : List (ClassId × FieldType)} {sa : SA} {cI cT cS cB : ClassId} (ht0 : tys[0]? = some (cI, .int)) (ht1 : tys[1]? = some (cT, .object RX4)) (ht2 : tys[2]? = some (cS, .object RX2)) (ht4 : tys[4]? = some (cB, .byte))
    {N N0 : Nat} {rB : Int32} {gB : Mem} (hB : bootI N0 gI0 = some (rB, gB)) (hmade : ∀ k, k < 42 → ∀ q, gB.2 k = some q → q < 42) {fl : Int32} {ga g1 : Mem} (hA : L_buildA N sa (gI1 gB) = some (fl, ga))
    (hC : (fl = 1 ∧ g1 = ga) ∨ (fl = 0 ∧ ∃ rf gf rt gt rq, feedX N (tq15 sa) ga = some (rf, gf) ∧ X5_text N gf = some (rt, gt) ∧ X5_force N rt gt = some (rq, g1))) :
    CEr l yL_build (wsm yL_build cL_build 4 (some (.object "SalvageOfDays"))) 610 200 16000 D tys sa [] [.ref (sa.1 3)] (fun u : Nat → Nat => u 72) (fun u : Nat → Nat => wl YI u (cAI cI cT cS) 73 g1) := by
  refine ce_ofA (y := yL_build) (cc := cL_build) (maxL := 4) (ret := some (.object "SalvageOfDays")) (av := [.ref (sa.1 3)]) (fun A => QEr D (fun u : Nat → Nat => u 72) (fun u : Nat → Nat => wl YI u (cAI cI cT cS) 73 g1) A) RL rfl (by decide +kernel) (Nat.le_of_ble_eq_true rfl) rfl ?_
  intro p e R s m args below meth c A hAA C hRc hRs hr
  refine vv_new C tyX5 tyX5_ok clw_X5 zl_c18 zl_i8 zl_n8 [.null, .null, .int 0, .null, .null, .null, .null, .int 0] (fun j hj => by rcases (by omega : j = 0 ∨ j = 1 ∨ j = 2 ∨ j = 3 ∨ j = 4 ∨ j = 5 ∨ j = 6 ∨ j = 7) with rfl | rfl | rfl | rfl | rfl | rfl | rfl | rfl <;> rfl) (by rw [hRc]; omega) (by rw [hRs]; omega) dL_build_0 1 8 rfl rfl 3 rfl (fun h0 => ?_)
  refine vv_dup C dL_build_3 rfl 4 rfl ?_
  refine vv_ctorX5 C C.2.2.2.2.2.2.2.1.2.2.2.2.2.2.2.2.2.2.2.2.2.2.2.2 (c_X5_init ht0 ht1 ht2 hB hmade h0) zl_23 (Nat.le_of_ble_eq_true rfl) (Nat.le_of_ble_eq_true rfl) (by rw [hRc]; omega) (by rw [hRs]; omega) dL_build_4 73 1917 rfl rfl 7 rfl (fun u => ?_)
  obtain ⟨ad, hu⟩ := u
  subst hu
  refine vv_astore_n C [(1, .ref (ad 72)), (0, .ref (sa.1 3))] dL_build_7 rfl (by decide) rfl 8 rfl ?_
  intro H locs ls hP hD hS hl
  have hge : GE YI ad (cAI cI cT cS) tys 73 := GE_I ht0 ht1 ht2 (by decide) (wl_inj hD)
  have hsub : ∀ q, AA 73 ad s.heap.size q → A q := by
    intro q hq
    rcases hq with ⟨k, hk, rfl⟩ | hq
    · exact hD.2 k _ (wl_get hk)
    · exact C.2.2.2.2.2.2.1 q hq
  have hsup : ∀ q, A q → AA 73 ad s.heap.size q := by
    intro q hq
    rw [hAA] at hq
    rcases hq with ⟨k, z, hk⟩ | hq
    · simp at hk
    · exact Or.inr hq
  have hEq : AA 73 ad s.heap.size = A := funext fun q => propext ⟨hsub q, hsup q⟩
  have CW : CX p R s m args meth c cL_build 4 RL 140 D YI ad (cAI cI cT cS) tys 73 sa := ⟨C.1, C.2.1, C.2.2.1, C.2.2.2.1, C.2.2.2.2.1, C.2.2.2.2.2.1, hge, by rw [hEq]; exact C.2.2.2.2.2.2.2.1, ⟨Nat.le_trans (by decide) C.2.2.2.2.2.2.2.2.1.1, Nat.le_trans (by decide) C.2.2.2.2.2.2.2.2.1.2⟩, C.2.2.2.2.2.2.2.2.2⟩
  have hD2 : ∀ g : Mem, va_D A (wl YI ad (cAI cI cT cS) 73 g) := fun g => D_fst hD wl_fst
  have hx289 : ∀ (g2 : Mem), some ((1 : Int32), g2) = some (fl, ga) → WW p l e R s m args below meth c 4 D YI ad (cAI cI cT cS) 73 (MQ below (QEr D (fun u : Nat → Nat => u 72) (fun u : Nat → Nat => wl YI u (cAI cI cT cS) 73 g1) A) args s 200 16000 A) g2 289 [(0, .ref (sa.1 3)), (1, .ref (ad 72))] [] := by
    intro g2 hg
    obtain ⟨e1, e2⟩ := Prod.mk.inj (Option.some.inj hg)
    have e3 : g1 = g2 := by
      rcases hC with ⟨_, h⟩ | ⟨h, _⟩
      · rw [h, e2]
      · rw [h] at e1; exact absurd e1 (by decide)
    subst e3
    intro H locs ls cells slots hcz hP hS hl
    have V : VV p l e R s m args below meth c 4 D A (cells) (slots) (MQ below (QEr D (fun u : Nat → Nat => u 72) (fun u : Nat → Nat => wl YI u (cAI cI cT cS) 73 g1) A) args s 200 16000 A) (wl YI ad (cAI cI cT cS) 73 g1) 289 [(0, .ref (sa.1 3)), (1, .ref (ad 72))] [] := by
      refine vv_aload_n C 1 dL_build_289 rfl rfl 290 rfl ?_
      exact vx_aret (W1 := fun u : Nat → Nat => wl YI u (cAI cI cT cS) 73 g1) C ad rfl rfl (by have := hcz.1.1; omega) (by have := hcz.1.2; omega) dL_build_290 hr (Or.inl ⟨_, rfl⟩)
    exact V H locs ls hP (hD2 g1) (hEq ▸ hS) hl
  have hx131 : ∀ (g2 : Mem), some ((0 : Int32), g2) = some (fl, ga) → WW p l e R s m args below meth c 4 D YI ad (cAI cI cT cS) 73 (MQ below (QEr D (fun u : Nat → Nat => u 72) (fun u : Nat → Nat => wl YI u (cAI cI cT cS) 73 g1) A) args s 200 16000 A) g2 131 [(0, .ref (sa.1 3)), (1, .ref (ad 72))] [] := by
    intro g2 hg
    obtain ⟨e1, e2⟩ := Prod.mk.inj (Option.some.inj hg)
    subst e2
    rcases hC with ⟨h, _⟩ | ⟨_, rf, gf, rt, gt, rq, h1, h2, h3⟩
    · rw [h] at e1; exact absurd e1 (by decide)
    intro H locs ls cells slots hcz hP hS hl
    have hc1 := hcz.2.1
    have hc2 := hcz.2.2
    rw [hRc] at hc1
    rw [hRs] at hc2
    exact bb_131 C ht4 hRc hRs hr hge h1 h2 h3 (by omega) (by omega) H locs ls hP (hD2 g2) (hEq ▸ hS) hl
  exact k_L_buildA (by decide) CW hx131 hx289 hA H locs ls 73 1917 ⟨⟨by rw [hRc]; omega, by rw [hRs]; omega⟩, by rw [hRc]; omega, by rw [hRs]; omega⟩ hP (hEq.symm ▸ hS) (lv_sub hl [1, 0] rfl)
theorem hz_wl (ad : Nat → Nat) (cA : Nat → ClassId) (g : Mem) : wl YI ad cA 73 (hz g) = wl YI ad cA 73 g := by
  refine List.map_congr_left (fun k hk => ?_)
  have hk' : k < 73 := List.mem_range.mp hk
  have h9 : ¬ kd YI k = 9 := fun z => by have := kdI_9 hk' z; omega
  have hf : fv YI ad (hz g) k = fv YI ad g k := by
    funext j
    have h2 : (hz g).2 k = g.2 k := by show (if k < 1000 then g.2 k else none) = _; rw [if_pos (by omega)]
    simp [fv, h2]
    rfl
  have : cf YI ad cA (hz g) k = cf YI ad cA g k := by
    simp [cf, h9, hf]
    rfl
  rw [this]
def ad4 (ad : Nat → Nat) (h : Nat) : Nat → Nat := fun k => if k = 73 then h else ad k
def cA4 (cA : Nat → ClassId) (cL : ClassId) : Nat → ClassId := fun k => if k = 73 then cL else cA k
theorem so_lt73 : ∀ k, k < 73 → ∀ j, j < 12 → (kdI k ≠ 1 → ftI (kdI k - 2) j = 2 → 2 ≤ kdI k → soI k j < 73) := by decide +kernel
theorem nf_le73 : ∀ k, k < 73 → nfI (kdI k - 2) ≤ 12 := by decide +kernel
theorem ft_73 : ∀ k, k < 73 → ∀ j, j < 12 → j < nfI (kdI k - 2) → ftI (kdI k - 2) j = 0 ∨ ftI (kdI k - 2) j = 1 ∨ ftI (kdI k - 2) j = 2 := by decide +kernel
theorem cf_74 {ad : Nat → Nat} {cA : Nat → ClassId} {g : Mem} {h : Nat} {cL : ClassId} (hm : ∀ k, k < 73 → ∀ q, g.2 k = some q → q < 73) (k : Nat) (hk : k < 73) : cf YI (ad4 ad h) (cA4 cA cL) g k = cf YI ad cA g k := by
  have hc : cA4 cA cL k = cA k := if_neg (by omega)
  have had : ∀ q, ¬ q = 73 → ad4 ad h q = ad q := fun q hq => if_neg hq
  have h9 : ¬ kd YI k = 9 := fun z => by have := kdI_9 hk z; omega
  unfold cf
  rw [hc]
  by_cases h0 : kd YI k = 0
  · rw [if_pos h0, if_pos h0]
  · rw [if_neg h0, if_neg h0]
    by_cases h1 : kd YI k = 1
    · rw [if_pos h1, if_pos h1]
      congr 5
      have : (fun j => some (ad4 ad h (so YI k j))) = (fun j => some (ad (so YI k j))) := by
        funext j
        rw [had]
        rcases kdI1 hk h1 with rfl | rfl
        · show ¬ 4 + 5 * j = 73
          omega
        · show ¬ 34 + 2 * j = 73
          omega
      rw [this]
    · rw [if_neg h1, if_neg h1, if_neg h9, if_neg h9]
      congr 2
      refine List.map_congr_left (fun j hj => ?_)
      have hj2 : j < nfI (kdI k - 2) := List.mem_range.mp hj
      have hj' : j < 12 := Nat.lt_of_lt_of_le hj2 (nf_le73 k hk)
      unfold fv
      by_cases f0 : ft YI (kd YI k - 2) j = 0
      · rw [if_pos f0, if_pos f0]
      · rw [if_neg f0, if_neg f0]
        by_cases f1 : ft YI (kd YI k - 2) j = 1
        · rw [if_pos f1, if_pos f1]
          cases hq : g.2 k with
          | none => rfl
          | some q => simp [va_rf, had q (by have := hm k hk q hq; omega)]
        · rw [if_neg f1, if_neg f1]
          have f2 : ftI (kdI k - 2) j = 2 := by
            rcases ft_73 k hk j hj' hj2 with z | z | z
            · exact absurd z f0
            · exact absurd z f1
            · exact z
          have k2 : 2 ≤ kdI k := by
            have e0 : kdI k ≠ 0 := h0
            have e1 : kdI k ≠ 1 := h1
            omega
          rw [had (so YI k j) (by have := so_lt73 k hk j hj' h1 f2 k2; show ¬ soI k j = 73; omega)]
theorem wl_74 {ad : Nat → Nat} {cA : Nat → ClassId} {g : Mem} {h : Nat} {cL : ClassId} (hm : ∀ k, k < 73 → ∀ q, g.2 k = some q → q < 73) : wl YI (ad4 ad h) (cA4 cA cL) 74 (hz g) = wl YI ad cA 73 g ++ [(h, .inl (cL, 110, .inr (.inl (fun _ => 0))))] := by
  have e1 : wl YI (ad4 ad h) (cA4 cA cL) 74 (hz g) = wl YI (ad4 ad h) (cA4 cA cL) 73 (hz g) ++ [(ad4 ad h 73, cf YI (ad4 ad h) (cA4 cA cL) (hz g) 73)] := by
    unfold wl
    rw [List.range_succ, List.map_append]
    rfl
  have e2 : wl YI (ad4 ad h) (cA4 cA cL) 73 (hz g) = wl YI ad cA 73 g := by
    rw [hz_wl]
    refine List.map_congr_left (fun k hk => ?_)
    have hk' : k < 73 := List.mem_range.mp hk
    rw [cf_74 hm k hk', show ad4 ad h k = ad k from if_neg (by omega)]
  have e3 : ldL (hz g) = fun _ => 0 := by
    funext j
    show dL (if 1000 + j < 1000 then g.2 (1000 + j) else none) = 0
    rw [if_neg (by omega)]
    rfl
  rw [e1, e2]
  congr 2
  show (h, cf YI (ad4 ad h) (cA4 cA cL) (hz g) 73) = _
  rw [cf_la (laH (n := 74) (by decide)), e3]
  rfl
def lA (s : State) : Nat → Prop := fun q => s.heap.size ≤ q
theorem zl_al : Cond.arrayClass .long ∈ TT := TT_of (i := 882) (by decide +kernel) rfl
theorem GE_74 {ad : Nat → Nat} {tys : List (ClassId × FieldType)} {cI cT cS cL : ClassId} {h : Nat} (ht0 : tys[0]? = some (cI, .int)) (ht1 : tys[1]? = some (cT, .object RX4)) (ht2 : tys[2]? = some (cS, .object RX2)) (ht3 : tys[3]? = some (cL, .long)) (hi : ∀ i j, i < 74 → j < 74 → ad4 ad h i = ad4 ad h j → i = j) : GE YI (ad4 ad h) (cA4 (cAI cI cT cS) cL) tys 74 := by
  refine ⟨hi, fun k hk h0 => ?_, fun k hk h1 => ?_, fun k hk h9 => ?_, by omega⟩
  · have h2 : k ≠ 2 := fun e => by subst e; cases h0
    have h3 : k ≠ 3 := fun e => by subst e; cases h0
    have h7 : k ≠ 73 := fun e => by subst e; cases h0
    simp [cA4, cAI, h2, h3, h7, ht0]
  · have h7 : k ≠ 73 := fun e => by subst e; cases h1
    rcases kdI1 (by omega) h1 with rfl | rfl
    · exact ⟨1, RX4, ht1⟩
    · exact ⟨2, RX2, ht2⟩
  · have := kdI_9 hk h9
    subst this
    exact ht3
section NWL
variable {p : Program} {l : Launch} {e : Env} {R : Room} {s : State} {m : MethodId} {args : Array Value} {below : List Frame} {meth : Method} {c : Code} {cc : ByteArray} {nL : Nat} {own : String} {rk : Nat} {D : va_G} {tys : List (ClassId × FieldType)} {A : Nat → Prop} {sa : SA} {Q : State → Prop} {cells slots pc : Nat} {ws : va_W} {lv : List (Nat × Value)} {st : List Value}
theorem vx_newl (C : CY p R s m args meth c cc nL own rk D tys A sa) {cL : ClassId} (t0 : Nat) (ht : tys[t0]? = some (cL, .long)) (w1 : Cond.arrayClass .long ∈ TT) {z : Int32} (N : Nat) (hz : ¬ z < 0) (hN : z.toNatClampNeg = N) (hb9 : N ≤ 100000) (hc : cells + 1 ≤ R.cells) (hs : slots + N ≤ R.slots) (d : decode cc pc = .ok (.newarray .long, 2)) (cells2 slots2 : Nat) (ec : cells + 1 = cells2) (es : slots + N = slots2) (pc2 : Nat) (e2 : pc + 2 = pc2) (k : ∀ q : Nat, VV p l e R s m args below meth c nL D A (cells2) (slots2) Q (ws ++ [(q, .inl (cL, N, .inr (.inl (fun _ => 0))))]) pc2 lv (.ref q :: st)) : VV p l e R s m args below meth c nL D A (cells) (slots) Q (ws) pc lv (.int z :: st) := by
  subst e2; subst ec; subst es
  intro H locs ls hP hD hS hl
  refine va_newa (atype := .long) (a0 := (N, .inr (.inl (fun _ => 0)))) C.1 C.2.1 (C.2.2.2.2.1 _ w1) rfl C.2.2.2.2.2.1 hP hD hS C.2.2.2.2.2.2.1 (fun cA => rfl) hz hN (by show N * 8 ≤ 536870912; omega) hc hs d (fun q cA H1 hK1 hP1 hD1 hS1 => ?_)
  have e1 := (hK1.2 tys.length (cA, .long) (by rw [List.getElem?_append_right (Nat.le_refl _), Nat.sub_self]; rfl)).2
  have e0 := (C.2.2.2.2.2.1.2 t0 _ ht).2
  have e3 : cA = cL := Option.some.inj ((show s.vm.findClass _ = some cA from e1).symm.trans (show s.vm.findClass _ = some cL from e0))
  subst e3
  exact k q H1 locs ls hP1 hD1 hS1 hl
end NWL
