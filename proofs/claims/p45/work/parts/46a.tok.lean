/-! TOKENS OF A LIST OF BYTES -/
def bL (L : List Nat) (j : Nat) : Nat := L.getD j 0
def SFx (L : List Nat) (p : Nat) (R : List Nat) : Prop := p ≤ L.length ∧ L.drop p = R
theorem SF_b {L R : List Nat} {p : Nat} (h : SFx L p R) (j : Nat) : bL L (p + j) = R.getD j 0 := by
  unfold bL
  rw [← h.2, List.getD_eq_getElem?_getD, List.getD_eq_getElem?_getD, List.getElem?_drop]
theorem SF_l {L R : List Nat} {p : Nat} (h : SFx L p R) : L.length = p + R.length := by
  rw [← h.2, List.length_drop]; have := h.1; omega
theorem SF_app {L W R : List Nat} {p : Nat} (h : SFx L p (W ++ R)) : SFx L (p + W.length) R := by
  have := SF_l h
  rw [List.length_append] at this
  refine ⟨by omega, ?_⟩
  rw [← List.drop_drop, h.2, List.drop_left]
theorem SF_c {L R : List Nat} {x p : Nat} (h : SFx L p (x :: R)) : SFx L (p + 1) R := SF_app (W := [x]) h
/-- the next token of R is t (its number v), and R' is left -/
def TK (L R : List Nat) (t v : Nat) (R' : List Nat) : Prop := ∀ p, SFx L p R → lxS (bL L) L.length (plF (bL L) L.length p) = t ∧ (t = 258 → dvl (bL L) (L.length - plF (bL L) L.length p) (plF (bL L) L.length p) 0 = v) ∧ SFx L (lxN (bL L) L.length (plF (bL L) L.length p)) R'
theorem skp_n {B : Nat → Nat} {n p : Nat} (h : ¬ (B p = 32 ∨ B p = 10)) : skp B n p = p := by
  cases n with
  | zero => rfl
  | succ n => rw [skp, if_neg h]
theorem pl_self {L R : List Nat} {x p : Nat} (h : SFx L p (x :: R)) (hx : ¬ (x = 32 ∨ x = 10)) : plF (bL L) L.length p = p := by
  have e : bL L p = x := SF_b h 0
  exact skp_n (by rw [e]; exact hx)
theorem TK_bl {L R : List Nat} {t v : Nat} {R' : List Nat} (h : TK L R t v R') : TK L (32 :: R) t v R' := by
  intro p hp
  have e : bL L p = 32 := SF_b hp 0
  have l := SF_l hp
  rw [List.length_cons] at l
  have q : plF (bL L) L.length p = plF (bL L) L.length (p + 1) := by
    unfold plF
    obtain ⟨n, hn⟩ : ∃ n, L.length - p = n + 1 := ⟨L.length - p - 1, by omega⟩
    rw [hn, skp, if_pos (Or.inl e), show L.length - (p + 1) = n by omega]
  rw [q]
  exact h (p + 1) (SF_c hp)
theorem TK_sg {L R : List Nat} {c : Nat} (hc : sgn c) : TK L (c :: R) c 0 R := by
  intro p hp
  have e : bL L p = c := SF_b hp 0
  have l := SF_l hp
  rw [List.length_cons] at l
  rw [pl_self hp (by omega)]
  have n1 : ¬ L.length ≤ p := by omega
  have n2 : ¬ (97 ≤ bL L p ∧ bL L p ≤ 122) := by rw [e]; omega
  have n3 : ¬ (48 ≤ bL L p ∧ bL L p ≤ 57) := by rw [e]; omega
  refine ⟨?_, fun q => by omega, ?_⟩
  · unfold lxS; rw [if_neg n1, if_neg n2, if_neg n3, e, if_pos hc]
  · unfold lxN; rw [if_neg n1, if_neg n2, if_neg n3]; exact SF_c hp
theorem TK_end {L : List Nat} : TK L [] 256 0 [] := by
  intro p hp
  have l := SF_l hp
  have z : L.length = p := by rw [l]; rfl
  have q : plF (bL L) L.length p = p := by
    unfold plF; rw [z, Nat.sub_self]; rfl
  rw [q]
  refine ⟨?_, fun q => by omega, ?_⟩
  · unfold lxS; rw [if_pos (by omega)]
  · unfold lxN; rw [if_pos (by omega)]; exact hp
def dgN (z : Nat) : List Nat := if z < 10 then [48 + z] else [48 + z / 10, 48 + z % 10]
theorem TK_nm {L R : List Nat} {v x : Nat} (hv : v < 100) (hx : ¬ (48 ≤ x ∧ x ≤ 57)) : TK L (dgN v ++ x :: R) 258 v (x :: R) := by
  intro p hp
  have l := SF_l hp
  have s' := SF_app hp
  rw [List.length_append, List.length_cons] at l
  by_cases h : v < 10
  · have ed : dgN v = [48 + v] := by unfold dgN; rw [if_pos h]
    rw [ed] at hp l s'
    have e0 : bL L p = 48 + v := SF_b hp 0
    have e1 : bL L (p + 1) = x := SF_b hp 1
    have z : plF (bL L) L.length p = p := pl_self hp (by omega)
    rw [z]
    have ll : L.length = p + (R.length + 2) := by simp only [List.length_cons, List.length_nil] at l; omega
    have d1 : dnd (bL L) (L.length - p) p = p + 1 := by
      rw [show L.length - p = (R.length + 1) + 1 by omega, dnd, if_pos (by omega), dnd, if_neg (by rw [e1]; exact hx)]
    refine ⟨?_, fun _ => ?_, ?_⟩
    · unfold lxS; rw [if_neg (by omega), if_neg (by omega), if_pos (by omega), d1, if_pos (by omega)]
    · rw [show L.length - p = (R.length + 1) + 1 by omega, dvl, if_pos (by omega), dvl, if_neg (by rw [e1]; exact hx)]; omega
    · unfold lxN; rw [if_neg (by omega), if_neg (by omega), if_pos (by omega), d1]; exact s'
  · have ed : dgN v = [48 + v / 10, 48 + v % 10] := by unfold dgN; rw [if_neg h]
    rw [ed] at hp l s'
    have e0 : bL L p = 48 + v / 10 := SF_b hp 0
    have e1 : bL L (p + 1) = 48 + v % 10 := SF_b hp 1
    have e2 : bL L (p + 2) = x := SF_b hp 2
    have z : plF (bL L) L.length p = p := pl_self hp (by omega)
    rw [z]
    have ll : L.length = p + (R.length + 3) := by simp only [List.length_cons, List.length_nil] at l; omega
    have e2' : bL L (p + 1 + 1) = x := e2
    have d1 : dnd (bL L) (L.length - p) p = p + 2 := by
      rw [show L.length - p = (R.length + 1) + 1 + 1 by omega, dnd, if_pos (by omega), dnd, if_pos (by omega), dnd, if_neg (by rw [e2']; exact hx)]
    refine ⟨?_, fun _ => ?_, ?_⟩
    · unfold lxS; rw [if_neg (by omega), if_neg (by omega), if_pos (by omega), d1, if_pos (by omega)]
    · rw [show L.length - p = (R.length + 1) + 1 + 1 by omega, dvl, if_pos (by omega), dvl, if_pos (by omega), dvl, if_neg (by rw [e2']; exact hx)]; omega
    · unfold lxN; rw [if_neg (by omega), if_neg (by omega), if_pos (by omega), d1]; exact s'
theorem wnd_n {B : Nat → Nat} {x : Nat} : ∀ (l n p : Nat), (∀ j, j < l → 97 ≤ B (p + j) ∧ B (p + j) ≤ 122) → B (p + l) = x → ¬ (97 ≤ x ∧ x ≤ 122) → l < n → wnd B n p = p + l
  | 0, n, p, _, h2, h3, h4 => by
    obtain ⟨n, rfl⟩ : ∃ q, n = q + 1 := ⟨n - 1, by omega⟩
    rw [wnd, if_neg]
    · rfl
    · have e : B p = x := h2
      rw [e]; exact h3
  | l + 1, n, p, h1, h2, h3, h4 => by
    obtain ⟨n, rfl⟩ : ∃ q, n = q + 1 := ⟨n - 1, by omega⟩
    rw [wnd, if_pos (show 97 ≤ B p ∧ B p ≤ 122 from h1 0 (by omega)), wnd_n l n (p + 1) (fun j hj => by have := h1 (j + 1) (by omega); rwa [show p + (j + 1) = p + 1 + j by omega] at this) (by rw [show p + 1 + l = p + (l + 1) by omega]; exact h2) h3 (by omega)]
    omega
theorem wmR_c {B B' : Nat → Nat} {p l k : Nat} (h : ∀ j, j < l → B (p + j) = B' j) : ∀ (n c : Nat), wmR B p (p + l) k c n = wmR B' 0 l k c n
  | 0, c => rfl
  | n + 1, c => by
    rw [wmR, wmR, wmR_c h n (c + 1)]
    have e : (if p + c < p + l then B (p + c) else 32) = (if 0 + c < l then B' (0 + c) else 32) := by
      by_cases q : c < l
      · rw [if_pos (by omega), if_pos (by omega), h c q, Nat.zero_add]
      · rw [if_neg (by omega), if_neg (by omega)]
    rw [e]
theorem wfd_c {B B' : Nat → Nat} {p l : Nat} (h : ∀ j, j < l → B (p + j) = B' j) : ∀ (n k : Nat), wfd B p (p + l) k n = wfd B' 0 l k n
  | 0, k => rfl
  | n + 1, k => by
    have e : wm B p (p + l) k = wm B' 0 l k := by
      unfold wm
      rw [wmR_c h, show p + l - p = l by omega, show l - 0 = l by omega]
    rw [wfd, wfd, e, wfd_c h n (k + 1)]
theorem TK_wd {L R W : List Nat} {x t : Nat} (hl : W.all (fun y => decide (97 ≤ y) && decide (y ≤ 122)) = true) (h0 : 0 < W.length) (hx : ¬ (97 ≤ x ∧ x ≤ 122)) (ht : wcL.getD (wfd (bL W) 0 W.length 0 12) 0 = t) (h258 : ¬ t = 258) : TK L (W ++ x :: R) t 0 (x :: R) := by
  intro p hp
  have l := SF_l hp
  have s' := SF_app hp
  rw [List.length_append, List.length_cons] at l
  have hb : ∀ j, j < W.length → bL L (p + j) = bL W j := fun j hj => by
    rw [SF_b hp j]; unfold bL
    rw [List.getD_eq_getElem?_getD, List.getD_eq_getElem?_getD, List.getElem?_append_left hj]
  have hw : ∀ j, j < W.length → 97 ≤ bL L (p + j) ∧ bL L (p + j) ≤ 122 := fun j hj => by
    rw [hb j hj]; unfold bL
    rw [List.getD_eq_getElem?_getD, List.getElem?_eq_getElem hj]
    have := List.all_eq_true.mp hl _ (List.getElem_mem hj)
    simp only [Bool.and_eq_true, decide_eq_true_eq] at this
    exact this
  have hbx : bL L (p + W.length) = x := SF_b s' 0
  have w0 := hw 0 h0
  rw [Nat.add_zero] at w0
  have z : plF (bL L) L.length p = p := skp_n (by omega)
  rw [z]
  have d1 : wnd (bL L) (L.length - p) p = p + W.length := wnd_n W.length _ p hw hbx hx (by omega)
  refine ⟨?_, fun q => absurd q h258, ?_⟩
  · unfold lxS; rw [if_neg (by omega), if_pos w0, d1]
    unfold wcd; rw [wfd_c hb]; exact ht
  · unfold lxN; rw [if_neg (by omega), if_pos w0, d1]; exact s'
