/-! THE REFERENCE: piles kept, brought back, pick; spaces -/
def spKeep (S : jS) : jS := fun a b => if a = 46 ∧ b < 58 then S 30 b else S a b
def spTop (S : jS) (k : Nat) : Nat := S 29 (300 * k + (S 30 k - 1))
def spBest (S : jS) (af font : Nat) : Nat → Nat
  | 0 => jNo
  | j + 1 => if (¬ S 30 (29 * font + j) = 0 ∧ spFw (S 25 (spTop S (29 * font + j))) = spFw af) ∧ (spBest S af font j = jNo ∨ S 30 (spBest S af font j) < S 30 (29 * font + j)) then 29 * font + j else spBest S af font j
theorem spBest_lt {S : jS} {af font : Nat} : ∀ n, spBest S af font n = jNo ∨ (29 * font ≤ spBest S af font n ∧ spBest S af font n < 29 * font + n ∧ ¬ S 30 (spBest S af font n) = 0)
  | 0 => Or.inl rfl
  | n + 1 => by
    unfold spBest
    split
    · rename_i h
      right
      exact ⟨by omega, by omega, h.1.1⟩
    · rcases spBest_lt (S := S) (af := af) (font := font) n with h | h
      · left; exact h
      · right; exact ⟨h.1, by omega, h.2.2⟩
/-- the pile that gives the sort, or jNo -/
def spPickAt (S : jS) (af font turns : Nat) : Nat := if 0 < S 30 af then af else if turns = 0 then jNo else spBest S af font 29
def spPick (S : jS) (af font turns : Nat) : jS := if 0 < S 30 af then spTake S af else if spPickAt S af font turns = jNo then S else sw (spTake S (spPickAt S af font turns)) 28 (spTop S (spPickAt S af font turns)) 1
theorem spPickAt_ok {S : jS} {af font turns : Nat} (haf : af < 58) (hf : font < 2) (h : ¬ spPickAt S af font turns = jNo) : spPickAt S af font turns < 58 ∧ 0 < S 30 (spPickAt S af font turns) := by
  unfold spPickAt at h ⊢
  by_cases h1 : 0 < S 30 af
  · rw [if_pos h1]; exact ⟨haf, h1⟩
  · rw [if_neg h1] at h ⊢
    by_cases h2 : turns = 0
    · rw [if_pos h2] at h; exact absurd rfl h
    · rw [if_neg h2] at h ⊢
      rcases spBest_lt (S := S) (af := af) (font := font) 29 with h3 | h3
      · exact absurd h3 h
      · exact ⟨by omega, Nat.pos_of_ne_zero h3.2.2⟩
/-- piles: counts and entries in range -/
def POK (S : jS) : Prop := (∀ k, k < 58 → S 30 k ≤ 300) ∧ ∀ k i, k < 58 → i < S 30 k → S 29 (300 * k + i) < 300
