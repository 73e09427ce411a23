abbrev jn (x : Int32) : Nat := x.toNatClampNeg
abbrev inR (x a b : Int32) : Prop := a ≤ x ∧ x ≤ b
theorem in_of {x : Int32} {n : Nat} (hn : n < 2 ^ 31) (h : inR x 0 (nI n)) : jn x ≤ n ∧ x = nI (jn x) := by
  obtain ⟨k, hk, hx⟩ := nI_of2 (n := n) (nI_toInt hn) (Int32.not_lt.mpr h.1) h.2
  have h1 : jn x = k := by rw [hx]; exact nI_clamp (by omega)
  exact ⟨by omega, by rw [h1]; exact hx⟩
theorem in_of1 {x : Int32} {n : Nat} (hn : n < 2 ^ 31) (h : inR x 1 (nI n)) : 1 ≤ jn x ∧ jn x ≤ n ∧ x = nI (jn x) := by
  have h0 : (0 : Int32) ≤ x := Int32.le_trans (show (0 : Int32) ≤ 1 by decide) h.1
  obtain ⟨h1, h2⟩ := in_of hn ⟨h0, h.2⟩
  refine ⟨?_, h1, h2⟩
  have h3 := h.1
  rw [h2, show (1 : Int32) = nI 1 from rfl, nI_leI (by omega) (by omega)] at h3
  exact h3
theorem in_lt {x : Int32} {n : Nat} (hn : n < 2 ^ 31) (h : inR x 0 (nI n - nI 1)) : jn x < n ∧ x = nI (jn x) := by
  by_cases h0 : n = 0
  · subst h0
    exfalso
    have h1 : (0 : Int32) ≤ nI 0 - nI 1 := Int32.le_trans h.1 h.2
    exact absurd h1 (by decide +kernel)
  · rw [pk_sub (by omega)] at h
    obtain ⟨h1, h2⟩ := in_of (by omega) h
    exact ⟨by omega, h2⟩
def spCastOne (S : jS) (k : Nat) : jS := sw (spPut (sw S 25 (S 10 1) k) k (S 10 1)) 10 1 (S 10 1 + 1)
def spCast (k : Nat) : Nat → jS → jS
  | 0, S => S
  | n + 1, S => spCast k n (spCastOne S k)
abbrev isBx (x y : Int32) : Prop := (0 ≤ x ∧ x ≤ 1) ∧ (0 ≤ y ∧ y ≤ 28)
theorem isBx.at {x y : Int32} (h : isBx x y) : (jn x ≤ 1 ∧ x = nI (jn x)) ∧ jn y ≤ 28 ∧ y = nI (jn y) := ⟨in_of (by omega) h.1, in_of (by omega) h.2⟩
def sf_cast (S : jS) (x y z : Int32) : Nat × Int32 × jS := if isBx x y then if inR z 1 40 then if 300 < S 10 1 + jn z then (3, 0, S) else (0, nI (S 10 1 + jn z), spCast (29 * jn x + jn y) (jn z) S) else (2, 0, S) else (1, 0, S)
