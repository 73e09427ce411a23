/-! THE REFERENCE: what only reads -/
theorem nI_rem (a d : Nat) : nI a - nI (a / d * d) = nI (a % d) := by
  rw [pk_sub (Nat.div_mul_le_self a d)]
  congr 1
  have := Nat.div_add_mod a d
  rw [Nat.mul_comm] at this
  omega
abbrev okc (c : Nat) : Prop := c = 32 ∨ c = 44 ∨ c = 45 ∨ c = 46 ∨ (97 ≤ c ∧ c ≤ 122)
theorem okc.box {c : Nat} (h : okc c) (h2 : ¬ c = 32) : spBox c < 29 := by by_cases h3 : c = 46 <;> by_cases h4 : c = 44 <;> by_cases h5 : c = 45 <;> simp [spBox, h3, h4, h5] <;> unfold okc at h <;> omega
def TXT (S : jS) : Prop := S 10 12 ≤ 60 ∧ (∀ k, S 33 k < 65536) ∧ ∀ k, k < S 10 12 → okc (S 33 k)
theorem spFw_le {f : Nat} (h : f < 58) : spFw f ≤ 7 := by
  unfold spFw
  have : f / 29 ≤ 1 := by omega
  by_cases h1 : f % 29 = 8 ∨ f % 29 = 9 ∨ f % 29 = 11 ∨ 25 < f % 29
  · rw [if_pos h1]; omega
  · rw [if_neg h1]
    by_cases h2 : f % 29 = 17 ∨ f % 29 = 18 ∨ f % 29 = 19 ∨ f % 29 = 5
    · rw [if_pos h2]; omega
    · rw [if_neg h2]
      by_cases h3 : f % 29 = 12 ∨ f % 29 = 22
      · rw [if_pos h3]; omega
      · rw [if_neg h3]; omega
theorem sumr_le {f : Nat → Nat} {a B : Nat} : ∀ (d : Nat), (∀ k, a ≤ k → k < a + d → f k ≤ B) → sumr f a d ≤ B * d
  | 0, _ => Nat.le_refl _
  | d + 1, h => by
    have h1 := sumr_le d (fun k h1 h2 => h k h1 (by omega))
    have h2 := h (a + d) (by omega) (by omega)
    show sumr f a d + f (a + d) ≤ B * (d + 1)
    rw [Nat.mul_add]
    omega
theorem sumr_congr {f g : Nat → Nat} {a : Nat} : ∀ (d : Nat), (∀ k, a ≤ k → k < a + d → f k = g k) → sumr f a d = sumr g a d
  | 0, _ => rfl
  | d + 1, h => by
    show sumr f a d + f (a + d) = sumr g a d + g (a + d)
    rw [sumr_congr d (fun k h1 h2 => h k h1 (by omega)), h (a + d) (by omega) (by omega)]
