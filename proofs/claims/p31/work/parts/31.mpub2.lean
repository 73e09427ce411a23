/-! THE REFERENCE: its small calls -/
abbrev isUn (x : Int32) : Prop := (1 ≤ x ∧ x ≤ 6) ∧ ¬ x = 5
theorem isUn.at {x : Int32} (h : isUn x) : (1 ≤ jn x ∧ jn x ≤ 6 ∧ ¬ jn x = 5) ∧ x = nI (jn x) := by
  obtain ⟨h1, h2, h3⟩ := in_of1 (n := 6) (by omega) h.1
  refine ⟨⟨h1, h2, fun q => h.2 ?_⟩, h3⟩
  rw [h3, q]
  rfl
def sf_spaces (S : jS) (x y : Int32) : Nat × Int32 × jS := if isUn x ∧ inR y 1 100 then if nI 1000 < nI (S 32 (jn x) + jn y) then (2, 0, S) else (0, nI (S 32 (jn x) + jn y), sw S 32 (jn x) (S 32 (jn x) + jn y)) else (1, 0, S)
def sf_type (S : jS) (c : Nat) : Nat × Int32 × jS := if okc c then if S 10 12 = 60 then (2, 0, S) else (0, nI (S 10 12 + 1), sw (sw S 33 (S 10 12) c) 10 12 (S 10 12 + 1)) else (1, 0, S)
def sf_clear (S : jS) : Nat × Int32 × jS := (0, nI (S 10 12), sw S 10 12 0)
def sf_measure (S : jS) (x : Int32) : Nat × Int32 × jS := if inR x 20 200 then if 0 < S 10 14 then (2, 0, S) else (0, nI (S 10 13), sw S 10 13 (jn x)) else (1, 0, S)
def sf_inBox (S : jS) (x y : Int32) : Nat × Int32 × jS := if isBx x y then (0, nI (S 30 (29 * jn x + jn y)), S) else (1, 0, S)
def sf_top (S : jS) (x y : Int32) : Nat × Int32 × jS := if isBx x y then (0, nI (if S 30 (29 * jn x + jn y) = 0 then jNo else S 29 (300 * (29 * jn x + jn y) + S 30 (29 * jn x + jn y) - 1)), S) else (1, 0, S)
def sf_inSpaces (S : jS) (x : Int32) : Nat × Int32 × jS := if isUn x then (0, nI (S 32 (jn x)), S) else (1, 0, S)
def sf_lines (S : jS) : Nat × Int32 × jS := (0, nI (S 10 14), S)
def sf_pie (S : jS) : Nat × Int32 × jS := (0, nI (S 10 9), S)
abbrev isLn (S : jS) (x : Int32) : Prop := inR x 0 (nI (S 10 14) - nI 1)
def sf_sortAt (S : jS) (x y : Int32) : Nat × Int32 × jS := if isLn S x ∧ inR y 0 (nI (S 35 (jn x)) - nI 1) then (0, nI (S 36 (64 * jn x + jn y)), S) else (1, 0, S)
def sf_gap (S : jS) (x y : Int32) : Nat × Int32 × jS := if isLn S x ∧ inR y 0 (nI (S 38 (jn x)) - nI 1) then (0, nI (spUnits S (jn x) (jn y)), S) else (1, 0, S)
def sf_printed (S : jS) (x : Int32) : Nat × Int32 × jS := if inR x 0 (nI (S 10 28) - nI 1) then (0, nI (S 45 (jn x)), S) else (1, 32, S)
