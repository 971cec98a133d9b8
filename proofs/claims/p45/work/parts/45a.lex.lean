/-! THE LEXER, in plain numbers; the class's side -/
def skp (B : Nat → Nat) : Nat → Nat → Nat
  | 0, p => p
  | n + 1, p => if B p = 32 ∨ B p = 10 then skp B n (p + 1) else p
def wnd (B : Nat → Nat) : Nat → Nat → Nat
  | 0, p => p
  | n + 1, p => if 97 ≤ B p ∧ B p ≤ 122 then wnd B n (p + 1) else p
def dnd (B : Nat → Nat) : Nat → Nat → Nat
  | 0, p => p
  | n + 1, p => if 48 ≤ B p ∧ B p ≤ 57 then dnd B n (p + 1) else p
def dvl (B : Nat → Nat) : Nat → Nat → Nat → Nat
  | 0, _, v => v
  | n + 1, p, v => if 48 ≤ B p ∧ B p ≤ 57 then dvl B n (p + 1) (v * 10 + B p - 48) else v
def wmR (B : Nat → Nat) (q e k : Nat) : Nat → Nat → Nat
  | _, 0 => 1
  | c, n + 1 => if wdN (8 * k + c) = (if q + c < e then B (q + c) else 32) then wmR B q e k (c + 1) n else 0
def wm (B : Nat → Nat) (q e k : Nat) : Nat := if 8 < e - q then 0 else wmR B q e k 0 8
def wfd (B : Nat → Nat) (q e : Nat) : Nat → Nat → Nat
  | _, 0 => 12
  | k, n + 1 => if wm B q e k = 0 then wfd B q e (k + 1) n else k
def wcL : List Nat := [260, 261, 262, 266, 267, 268, 269, 270, 271, 264, 263, 265, 257]
def wcd (B : Nat → Nat) (q e : Nat) : Nat := wcL.getD (wfd B q e 0 12) 0
abbrev sgn (b : Nat) : Prop := b = 40 ∨ b = 41 ∨ b = 42 ∨ b = 43 ∨ b = 45 ∨ b = 59 ∨ b = 60 ∨ b = 61
def plF (B : Nat → Nat) (z p : Nat) : Nat := skp B (z - p) p
def lxS (B : Nat → Nat) (z q : Nat) : Nat :=
  if z ≤ q then 256 else if 97 ≤ B q ∧ B q ≤ 122 then wcd B q (wnd B (z - q) q) else if 48 ≤ B q ∧ B q ≤ 57 then (if dnd B (z - q) q - q ≤ 4 then 258 else 257) else if sgn (B q) then B q else 257
def lxN (B : Nat → Nat) (z q : Nat) : Nat :=
  if z ≤ q then q else if 97 ≤ B q ∧ B q ≤ 122 then wnd B (z - q) q else if 48 ≤ B q ∧ B q ≤ 57 then dnd B (z - q) q else q + 1
theorem skp_le (B : Nat → Nat) : ∀ (n p : Nat), p ≤ skp B n p ∧ skp B n p ≤ p + n
  | 0, p => ⟨Nat.le_refl p, Nat.le_refl p⟩
  | n + 1, p => by
    rw [skp]
    split
    · have := skp_le B n (p + 1); omega
    · omega
theorem wnd_le (B : Nat → Nat) : ∀ (n p : Nat), p ≤ wnd B n p ∧ wnd B n p ≤ p + n ∧ ∀ j, p ≤ j → j < wnd B n p → 97 ≤ B j ∧ B j ≤ 122
  | 0, p => ⟨Nat.le_refl p, Nat.le_refl p, fun j h1 h2 => by rw [wnd] at h2; omega⟩
  | n + 1, p => by
    rw [wnd]
    split
    · rename_i h
      have := wnd_le B n (p + 1)
      refine ⟨by omega, by omega, fun j h1 h2 => ?_⟩
      by_cases hj : j = p
      · subst hj; exact h
      · exact this.2.2 j (by omega) h2
    · exact ⟨Nat.le_refl p, by omega, fun j h1 h2 => by omega⟩
theorem dnd_le (B : Nat → Nat) : ∀ (n p : Nat), p ≤ dnd B n p ∧ dnd B n p ≤ p + n
  | 0, p => ⟨Nat.le_refl p, Nat.le_refl p⟩
  | n + 1, p => by
    rw [dnd]
    split
    · have := dnd_le B n (p + 1); omega
    · omega
/-- the class's words -/
def chL : List Nat := [114, 101, 97, 99, 104, 101, 115, 32, 99, 111, 115, 116, 115, 32, 102, 97, 100, 101, 115, 32, 97, 110, 100, 32, 111, 114, 32, 110, 111, 116, 32, 98, 114, 101, 97, 116, 104, 32, 100, 101, 101, 112, 32, 115, 116, 114, 111, 110, 103, 32, 115, 111, 114, 116, 32, 104, 111, 117, 114, 32, 109, 111, 114, 101, 32]
def chN (j : Nat) : Nat := chL.getD j 0
theorem chS1 : ∀ j, j < 65 → chS 1 j = i32 (chN j) := by decide +kernel
theorem chN_lt : ∀ j, j < 65 → chN j < 256 := by decide +kernel
def spR (B : Nat → Nat) (q s : Nat) : Nat → Nat → Nat
  | _, 0 => 1
  | c, n + 1 => if B (q + c) = chN (s + c) then spR B q s (c + 1) n else 0
def sp (B : Nat → Nat) (q e s l : Nat) : Nat := if e - q = l then spR B q s 0 l else 0
theorem spR_iff (B : Nat → Nat) (q s : Nat) : ∀ (n c : Nat), (spR B q s c n = 1 ∧ ∀ j, c ≤ j → j < c + n → B (q + j) = chN (s + j)) ∨ (spR B q s c n = 0 ∧ ∃ j, c ≤ j ∧ j < c + n ∧ ¬ B (q + j) = chN (s + j))
  | 0, c => Or.inl ⟨rfl, fun j h1 h2 => by omega⟩
  | n + 1, c => by
    rw [spR]
    by_cases h : B (q + c) = chN (s + c)
    · rw [if_pos h]
      rcases spR_iff B q s n (c + 1) with ⟨a, b⟩ | ⟨a, j, b1, b2, b3⟩
      · refine Or.inl ⟨a, fun j h1 h2 => ?_⟩
        by_cases hj : j = c
        · subst hj; exact h
        · exact b j (by omega) (by omega)
      · exact Or.inr ⟨a, j, by omega, by omega, b3⟩
    · rw [if_neg h]
      exact Or.inr ⟨rfl, c, by omega, by omega, h⟩
theorem wmR_iff (B : Nat → Nat) (q e k : Nat) : ∀ (n c : Nat), (wmR B q e k c n = 1 ∧ ∀ j, c ≤ j → j < c + n → wdN (8 * k + j) = (if q + j < e then B (q + j) else 32)) ∨ (wmR B q e k c n = 0 ∧ ∃ j, c ≤ j ∧ j < c + n ∧ ¬ wdN (8 * k + j) = (if q + j < e then B (q + j) else 32))
  | 0, c => Or.inl ⟨rfl, fun j h1 h2 => by omega⟩
  | n + 1, c => by
    rw [wmR]
    by_cases h : wdN (8 * k + c) = (if q + c < e then B (q + c) else 32)
    · rw [if_pos h]
      rcases wmR_iff B q e k n (c + 1) with ⟨a, b⟩ | ⟨a, j, b1, b2, b3⟩
      · refine Or.inl ⟨a, fun j h1 h2 => ?_⟩
        by_cases hj : j = c
        · subst hj; exact h
        · exact b j (by omega) (by omega)
      · exact Or.inr ⟨a, j, by omega, by omega, b3⟩
    · rw [if_neg h]
      exact Or.inr ⟨rfl, c, by omega, by omega, h⟩
theorem wm_sp {B : Nat → Nat} {q e k s l : Nat} (hl : l ≤ 8) (h1 : ∀ c, c < l → wdN (8 * k + c) = chN (s + c) ∧ ¬ chN (s + c) = 32) (h2 : ∀ c, c < 8 → l ≤ c → wdN (8 * k + c) = 32) (hq : q ≤ e) (hB : ∀ j, q ≤ j → j < e → 97 ≤ B j ∧ B j ≤ 122) : wm B q e k = sp B q e s l := by
  unfold wm sp
  by_cases h8 : 8 < e - q
  · rw [if_pos h8, if_neg (by omega)]
  · rw [if_neg h8]
    by_cases he : e - q = l
    · rw [if_pos he]
      rcases wmR_iff B q e k 8 0 with ⟨a, b⟩ | ⟨a, j, b1, b2, b3⟩ <;> rcases spR_iff B q s l 0 with ⟨a', b'⟩ | ⟨a', j', b1', b2', b3'⟩
      · rw [a, a']
      · exfalso
        have x := b j' (by omega) (by omega)
        rw [if_pos (by omega), (h1 j' (by omega)).1] at x
        exact b3' x.symm
      · exfalso
        by_cases hj : j < l
        · rw [if_pos (by omega), (h1 j hj).1, b' j (by omega) (by omega)] at b3
          exact b3 rfl
        · rw [if_neg (by omega), h2 j (by omega) (by omega)] at b3
          exact b3 rfl
      · rw [a, a']
    · rw [if_neg he]
      rcases wmR_iff B q e k 8 0 with ⟨a, b⟩ | ⟨a, _⟩
      · exfalso
        by_cases hx : e - q < l
        · have x := b (e - q) (by omega) (by omega)
          rw [if_neg (by omega), (h1 _ hx).1] at x
          exact (h1 _ hx).2 x
        · have x := b l (by omega) (by omega)
          rw [if_pos (by omega), h2 l (by omega) (by omega)] at x
          have y := hB (q + l) (by omega) (by omega)
          omega
      · exact a
/-- the twelve words: the reference's number, where it begins in the class's row, its size -/
def kL : List Nat := [0, 1, 2, 10, 9, 11, 3, 4, 5, 6, 7, 8]
def sL : List Nat := [0, 8, 14, 20, 24, 27, 31, 38, 43, 50, 55, 60, 65]
def lL : List Nat := [7, 5, 5, 3, 2, 3, 6, 4, 6, 4, 4, 4]
theorem kF1 : ∀ i, i < 12 → ∀ c, c < lL.getD i 0 → wdN (8 * kL.getD i 0 + c) = chN (sL.getD i 0 + c) ∧ ¬ chN (sL.getD i 0 + c) = 32 := by decide +kernel
theorem kF2 : ∀ i, i < 12 → ∀ c, c < 8 → lL.getD i 0 ≤ c → wdN (8 * kL.getD i 0 + c) = 32 := by decide +kernel
theorem kF3 : ∀ i, i < 12 → lL.getD i 0 ≤ 8 ∧ kL.getD i 0 < 12 ∧ sL.getD i 0 + lL.getD i 0 < 65 ∧ sL.getD (i + 1) 0 = sL.getD i 0 + lL.getD i 0 + 1 ∧ chN (sL.getD i 0 + lL.getD i 0) = 32 := by decide +kernel
theorem kF4 : ∀ k, k < 12 → ∀ k', k' < 12 → (∀ c, c < 8 → wdN (8 * k + c) = wdN (8 * k' + c)) → k = k' := by decide +kernel
theorem wm_one {B : Nat → Nat} {q e k k' : Nat} (hk : k < 12) (hk' : k' < 12) (h : ¬ wm B q e k = 0) (h' : ¬ wm B q e k' = 0) : k = k' := by
  unfold wm at h h'
  by_cases h8 : 8 < e - q
  · rw [if_pos h8] at h; exact absurd rfl h
  · rw [if_neg h8] at h h'
    rcases wmR_iff B q e k 8 0 with ⟨a, b⟩ | ⟨a, _⟩
    · rcases wmR_iff B q e k' 8 0 with ⟨a', b'⟩ | ⟨a', _⟩
      · exact kF4 k hk k' hk' (fun c hc => (b c (by omega) (by omega)).trans (b' c (by omega) (by omega)).symm)
      · exact absurd a' h'
    · exact absurd a h
theorem wm_le (B : Nat → Nat) (q e k : Nat) : wm B q e k = 0 ∨ wm B q e k = 1 := by
  unfold wm
  split
  · exact Or.inl rfl
  · rcases wmR_iff B q e k 8 0 with ⟨a, _⟩ | ⟨a, _⟩
    · exact Or.inr a
    · exact Or.inl a
theorem wfd_sp (B : Nat → Nat) (q e : Nat) : ∀ (n k : Nat), k + n = 12 → (wfd B q e k n = 12 ∧ ∀ j, k ≤ j → j < 12 → wm B q e j = 0) ∨ (k ≤ wfd B q e k n ∧ wfd B q e k n < 12 ∧ ¬ wm B q e (wfd B q e k n) = 0)
  | 0, k, h => Or.inl ⟨rfl, fun j h1 h2 => by omega⟩
  | n + 1, k, h => by
    rw [wfd]
    by_cases hk : wm B q e k = 0
    · rw [if_pos hk]
      rcases wfd_sp B q e n (k + 1) (by omega) with ⟨a, b⟩ | ⟨a, b, c⟩
      · refine Or.inl ⟨a, fun j h1 h2 => ?_⟩
        by_cases hj : j = k
        · subst hj; exact hk
        · exact b j (by omega) h2
      · exact Or.inr ⟨by omega, b, c⟩
    · rw [if_neg hk]
      exact Or.inr ⟨Nat.le_refl k, by omega, hk⟩
/-- the class's walk over its words: the last one that is like -/
def cfF (w : Nat → Nat) : Nat → Nat → Nat → Nat
  | _, 0, x => x
  | i, n + 1, x => cfF w (i + 1) n (if w i = 0 then x else 260 + i)
theorem cf_wcd {B : Nat → Nat} {q e : Nat} (hq : q ≤ e) (hB : ∀ j, q ≤ j → j < e → 97 ≤ B j ∧ B j ≤ 122) : cfF (fun i => sp B q e (sL.getD i 0) (lL.getD i 0)) 0 12 257 = wcd B q e := by
  have key : ∀ i, i < 12 → sp B q e (sL.getD i 0) (lL.getD i 0) = wm B q e (kL.getD i 0) := fun i hi => (wm_sp (kF3 i hi).1 (kF1 i hi) (kF2 i hi) hq hB).symm
  unfold wcd
  rcases wfd_sp B q e 12 0 (by omega) with ⟨a, b⟩ | ⟨_, b, c⟩
  · rw [a]
    have z : ∀ i, i < 12 → sp B q e (sL.getD i 0) (lL.getD i 0) = 0 := fun i hi => by rw [key i hi]; exact b _ (by omega) (kF3 i hi).2.1
    simp only [cfF, z 0 (by omega), z 1 (by omega), z 2 (by omega), z 3 (by omega), z 4 (by omega), z 5 (by omega), z 6 (by omega), z 7 (by omega), z 8 (by omega), z 9 (by omega), z 10 (by omega), z 11 (by omega), if_pos, Nat.zero_add, Nat.reduceAdd]
    rfl
  · generalize hk : wfd B q e 0 12 = k at b c
    have z : ∀ i, i < 12 → sp B q e (sL.getD i 0) (lL.getD i 0) = if kL.getD i 0 = k then 1 else 0 := fun i hi => by
      rw [key i hi]
      by_cases h : kL.getD i 0 = k
      · rw [if_pos h, h]
        rcases wm_le B q e k with q1 | q1
        · exact absurd q1 c
        · exact q1
      · rw [if_neg h]
        rcases wm_le B q e (kL.getD i 0) with q1 | q1
        · exact q1
        · exact absurd (wm_one (kF3 i hi).2.1 b (by omega) c) h
    have fin : ∀ k, k < 12 → cfF (fun i => if kL.getD i 0 = k then 1 else 0) 0 12 257 = wcL.getD k 0 := by decide +kernel
    rw [← fin k b]
    have cong : ∀ (n i x : Nat), i + n ≤ 12 → cfF (fun i => sp B q e (sL.getD i 0) (lL.getD i 0)) i n x = cfF (fun i => if kL.getD i 0 = k then 1 else 0) i n x := by
      intro n
      induction n with
      | zero => intro i x _; rfl
      | succ n ih =>
        intro i x h
        rw [cfF, cfF, z i (by omega), ih (i + 1) _ (by omega)]
    exact cong 12 0 257 (by omega)
