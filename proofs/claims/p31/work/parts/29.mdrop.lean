def spDropK (S : jS) (l k : Nat) : jS := fun a b => if (a = 34 ∨ a = 35 ∨ a = 38 ∨ a = 41 ∨ a = 42) ∧ l ≤ b ∧ b < k then S a (b + 1) else if (a = 36 ∨ a = 37 ∨ a = 39) ∧ 64 * l ≤ b ∧ b < 64 * k then S a (b + 64) else if a = 40 ∧ 448 * l ≤ b ∧ b < 448 * k then S a (b + 448) else S a b
def spDrop (S : jS) (l : Nat) : jS := sw (spDropK S l (S 10 14 - 1)) 10 14 (S 10 14 - 1)
theorem spHome_row {S : jS} {s a b : Nat} (h : ¬ (a = 27 ∨ a = 28 ∨ a = 29 ∨ a = 30)) : spHome S s a b = S a b := by
  unfold spHome spPut
  split
  · simp only [sw_at]
    rw [if_neg (by omega), if_neg (by omega), if_neg (by omega), if_neg (by omega), if_neg (by omega)]
  · simp only [sw_at]
    rw [if_neg (by omega), if_neg (by omega)]
def spHomes (l : Nat) : Nat → jS → jS
  | 0, S => S
  | n + 1, S => spHomes l n (spHome S (S 36 (64 * l + n)))
def spKept (S : jS) (l n : Nat) : Nat := sumr (fun k => jb (nI (S 26 (S 36 (64 * l + k))) < nI 12)) 0 n
theorem spHomes_row {l a b : Nat} (h : ¬ (a = 27 ∨ a = 28 ∨ a = 29 ∨ a = 30)) : ∀ (n : Nat) (S : jS), spHomes l n S a b = S a b
  | 0, _ => rfl
  | n + 1, S => by
    unfold spHomes
    rw [spHomes_row h n]
    exact spHome_row h
theorem spKept_home {S : jS} {s l n : Nat} : spKept (spHome S s) l n = spKept S l n := by
  unfold spKept
  refine sumr_congr n (fun k _ _ => ?_)
  rw [spHome_row (a := 36) (by omega), spHome_row (a := 26) (by omega)]
theorem nI_wrap (n : Nat) : nI (n + 4294967296) = nI n := by
  have h1 : nI 4294967296 = 0 := by decide +kernel
  rw [← nI_add, h1]
  simp
