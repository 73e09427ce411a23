/-! THE REFERENCE: a line filled, moved, dropped, put back; shown -/
def spZero (S : jS) (l k : Nat) : jS := fun a b => if a = 40 ∧ 448 * l ≤ b ∧ b < k then 0 else S a b
def spEach (n rest lo g : Nat) : Nat := if lo = 1 then 3 else rest / n + (if g < rest % n then 1 else 0)
def spFills (l : Nat) (w : Nat → Nat) : Nat → jS → jS
  | 0, S => S
  | g + 1, S => spFillGap (spFills l w g S) l g (w g)
def spLo (S : jS) (l : Nat) : Nat := jb ((¬ S 41 l = 0 ∨ (0 < S 38 l ∧ 12 < (S 10 13 - spSorts S l + S 38 l - 1) / S 38 l)) ∧ 3 * S 38 l ≤ S 10 13 - spSorts S l)
def spFill (S : jS) (l : Nat) : jS := if S 10 13 < spSorts S l then spZero S l (448 * l + 7 * S 38 l + 7) else
  spFillGap (spFills l (spEach (S 38 l) (S 10 13 - spSorts S l) (spLo S l)) (S 38 l) (spZero S l (448 * l + 7 * S 38 l + 7))) l (S 38 l) (if S 38 l = 0 then S 10 13 - spSorts S l else if spLo S l = 1 then S 10 13 - spSorts S l - 3 * S 38 l else 0)
theorem spFG_row {c : Nat} {a b : Nat} (h1 : ¬ a = 32) (h2 : ¬ a = 40) : ∀ (u n : Nat) (S : jS), spFG c u n S a b = S a b
  | 0, _, _ => rfl
  | u + 1, n, S => by
    unfold spFG
    rw [spFG_row h1 h2 u]
    simp only [spF1, sw_at]
    rw [if_neg (fun q => h2 q.1), if_neg (fun q => h1 q.1)]
theorem spFills_row {l : Nat} {w : Nat → Nat} {a b : Nat} (h1 : ¬ a = 32) (h2 : ¬ a = 40) : ∀ (g : Nat) (S : jS), spFills l w g S a b = S a b
  | 0, _ => rfl
  | g + 1, S => by
    unfold spFills spFillGap
    rw [spFG_row h1 h2]
    exact spFills_row h1 h2 g S
