/-! THE REFERENCE: proof, line, sort -/
def spShow (S : jS) (c : Nat) : jS := sw (sw S 45 (S 10 28) c) 10 28 (S 10 28 + 1)
def spGlyph (S : jS) (s : Nat) : Nat := if nI (S 26 s) < nI 12 then if S 28 s = 0 then spSign (S 25 s) else 61 else 63
def spInk (S : jS) (s : Nat) : jS := sw (spShow S (spGlyph S s)) 26 s (S 26 s + 1)
/-- the first k sorts of a line printed: the gap that is next, the state -/
def spPrL (l : Nat) : Nat → jS → Nat × jS
  | 0, S => (0, S)
  | k + 1, S => if (spPrL l k S).1 < S 38 l ∧ nI (S 39 (64 * l + (spPrL l k S).1)) = nI k then ((spPrL l k S).1 + 1, spInk (if nI 0 < nI (spUnits S l (spPrL l k S).1) then spShow (spPrL l k S).2 32 else (spPrL l k S).2) (S 36 (64 * l + k))) else ((spPrL l k S).1, spInk (spPrL l k S).2 (S 36 (64 * l + k)))
def spPrA (f : Nat) : Nat → jS → jS
  | 0, S => S
  | l + 1, S => if S 42 l = f then (spPrL l (S 35 l) (spPrA f l S)).2 else spPrA f l S
theorem spShow_row (S : jS) (c : Nat) {a b : Nat} (h : ¬ (a = 45 ∨ (a = 10 ∧ b = 28))) : spShow S c a b = S a b := by
  unfold spShow
  rw [sw_at, if_neg (by omega), sw_at, if_neg (by omega)]
theorem spShow_28 (S : jS) (c : Nat) : spShow S c 10 28 = S 10 28 + 1 := by simp [spShow, sw_at]
theorem spInk_row (S : jS) (s : Nat) {a b : Nat} (h : ¬ (a = 45 ∨ a = 26 ∨ (a = 10 ∧ b = 28))) : spInk S s a b = S a b := by
  unfold spInk
  rw [sw_at, if_neg (by omega), spShow_row _ _ (by omega)]
theorem spInk_28 (S : jS) (s : Nat) : spInk S s 10 28 = S 10 28 + 1 := by
  unfold spInk
  rw [sw_at, if_neg (by omega), spShow_28]
theorem spPrL_row {l : Nat} (S : jS) {a b : Nat} (h : ¬ (a = 45 ∨ a = 26 ∨ (a = 10 ∧ b = 28))) : ∀ k, (spPrL l k S).2 a b = S a b
  | 0 => rfl
  | k + 1 => by
    have ih := spPrL_row (l := l) S h k
    unfold spPrL
    split
    · simp only
      rw [spInk_row _ _ h]
      split
      · rw [spShow_row _ _ (by omega)]; exact ih
      · exact ih
    · simp only
      rw [spInk_row _ _ h]
      exact ih
theorem spPrL_28 {l : Nat} (S : jS) : ∀ k, (spPrL l k S).2 10 28 ≤ S 10 28 + k + (spPrL l k S).1 ∧ (spPrL l k S).1 ≤ S 38 l
  | 0 => ⟨Nat.le_refl _, Nat.zero_le _⟩
  | k + 1 => by
    have ih := spPrL_28 (l := l) S k
    unfold spPrL
    split
    · rename_i h
      simp only
      rw [spInk_28]
      refine ⟨?_, by omega⟩
      split
      · rw [spShow_28]; omega
      · omega
    · simp only
      rw [spInk_28]
      omega
theorem spPrA_row {f : Nat} (S : jS) {a b : Nat} (h : ¬ (a = 45 ∨ a = 26 ∨ (a = 10 ∧ b = 28))) : ∀ l, spPrA f l S a b = S a b
  | 0 => rfl
  | l + 1 => by
    unfold spPrA
    split
    · rw [spPrL_row _ h]
      exact spPrA_row S h l
    · exact spPrA_row S h l
theorem spPrA_28 {f : Nat} (S : jS) (hL : ∀ l, l < S 10 14 → S 35 l + S 38 l ≤ 60) : ∀ l, l ≤ S 10 14 → spPrA f l S 10 28 ≤ S 10 28 + 60 * l
  | 0, _ => Nat.le_refl _
  | l + 1, hl => by
    have ih := spPrA_28 (f := f) S hL l (by omega)
    unfold spPrA
    split
    · have h1 := spPrL_28 (l := l) (spPrA f l S) (S 35 l)
      rw [spPrA_row (f := f) S (a := 38) (by omega) l] at h1
      have := hL l (by omega)
      omega
    · omega
theorem spSign_lt {f : Nat} (h : f < 58) : spSign f < 65536 := by
  unfold spSign
  repeat (first | omega | split)
theorem spGlyph_lt {S : jS} {s : Nat} (h : FOK S) : spGlyph S s < 65536 := by
  unfold spGlyph
  split
  · split
    · exact spSign_lt (h s)
    · omega
  · omega
def sf_proof (S : jS) (x : Int32) : Nat × Int32 × jS := if isFm S x then if S 43 (jn x) = 1 then (0, nI (spPrA (jn x) (S 10 14) (sw (sw S 10 0 0) 10 28 0) 10 28), sw (spPrA (jn x) (S 10 14) (sw (sw S 10 0 0) 10 28 0)) 44 (jn x) (S 44 (jn x) + 1)) else (2, 0, S) else (1, 0, S)
