/-! THE REFERENCE: what only reads, of lines, heap, text -/
theorem jNo_v : jNo = 4294967295 := rfl
def FOK (S : jS) : Prop := ∀ s, S 25 s < 58
def spSpaces (S : jS) (l : Nat) : Nat := sumr (fun g => spUnits S l g) 0 (S 38 l + 1)
theorem sumr_s {f : Nat → Nat} (d : Nat) : sumr f 0 (d + 1) = sumr f 0 d + f d := by
  show sumr f 0 d + f (0 + d) = _
  rw [Nat.zero_add]
def spInHeap (S : jS) (w : Nat) : Nat → Nat
  | 0 => jNo
  | k + 1 => if S 25 (S 31 k) = w ∧ (spInHeap S w k = jNo ∨ S 31 k < S 31 (spInHeap S w k)) then k else spInHeap S w k
theorem spInHeap_lt {S : jS} {w : Nat} : ∀ n, spInHeap S w n = jNo ∨ spInHeap S w n < n
  | 0 => Or.inl rfl
  | n + 1 => by
    unfold spInHeap
    split
    · right; omega
    · rcases spInHeap_lt (S := S) (w := w) n with h | h
      · left; exact h
      · right; omega
