/-! THE REFERENCE: spaces of a line, filling -/
theorem nI_toIntC (n : Nat) : (nI n).toInt = if 2 * (n % 2 ^ 32) < 2 ^ 32 then ((n % 2 ^ 32 : Nat) : Int) else ((n % 2 ^ 32 : Nat) : Int) - ((2 ^ 32 : Nat) : Int) := BitVec.toInt_eq_toNat_cond (nI n).toBitVec
/-- how many there are, none if the number is below 0 -/
def jP (x : Nat) : Nat := (nI x).toNatClampNeg
theorem jP_eq (x : Nat) : jP x = if 2 * (x % 2 ^ 32) < 2 ^ 32 then x % 2 ^ 32 else 0 := by
  unfold jP
  show (nI x).toInt.toNat = _
  rw [nI_toIntC]
  split <;> omega
theorem jP_le (x : Nat) : jP x ≤ x := by
  rw [jP_eq]
  split
  · exact Nat.mod_le _ _
  · exact Nat.zero_le _
theorem jP_pos {x t : Nat} (h : t ≤ jP x) : nI (x - t) ≤ nI 0 ↔ jP x ≤ t := by
  have h1 := jP_le x
  rw [Int32.le_iff_toInt_le, nI_toIntC, nI_toIntC]
  rw [jP_eq] at h h1 ⊢
  split at h <;> split <;> simp <;> omega
def spEmptyK (S : jS) (l g u : Nat) : jS := fun a b => if a = 32 ∧ 1 ≤ b ∧ b ≤ 6 then S 32 b + sumr (fun g => S 40 (448 * l + 7 * g + b)) 0 (if b < u then g + 1 else g) else if a = 40 ∧ 448 * l ≤ b ∧ b < 448 * l + 7 * g + u ∧ ¬ (b - 448 * l) % 7 = 0 then 0 else S a b
def spEmpty (S : jS) (l : Nat) : jS := spEmptyK S l (S 38 l + 1) 1
def spF1 (S : jS) (c u t : Nat) : jS := sw (sw S 32 u (S 32 u - t)) 40 c (S 40 c + t)
theorem spF1_0 (S : jS) (c u : Nat) (a b : Nat) : spF1 S c u 0 a b = S a b := by
  simp only [spF1, sw_at]
  by_cases h : a = 40 ∧ b = c
  · rw [if_pos h, h.1, h.2]; rfl
  · rw [if_neg h]
    by_cases h2 : a = 32 ∧ b = u
    · rw [if_pos h2, h2.1, h2.2]; rfl
    · rw [if_neg h2]
/-- how many spaces of u units are taken -/
def spTaken (S : jS) (u left : Nat) : Nat := min (left / u) (jP (S 32 u))
def spFG (c : Nat) : Nat → Nat → jS → jS
  | 0, _, S => S
  | u + 1, left, S => spFG c u (left - spTaken S (u + 1) left * (u + 1)) (spF1 S (c + (u + 1)) (u + 1) (spTaken S (u + 1) left))
def spFillGap (S : jS) (l g n : Nat) : jS := spFG (448 * l + 7 * g) 6 n S
