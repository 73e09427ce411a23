/-! THE REFERENCE: line, sort -/
abbrev spWrong (S : jS) (l k : Nat) : Prop := ¬ S 28 (S 36 (64 * l + k)) = 0 ∨ ¬ S 25 (S 36 (64 * l + k)) = S 37 (64 * l + k)
/-- of the last d places: how many are wrong, the first one -/
def spCW (S : jS) (l m : Nat) : Nat → Nat
  | 0 => 0
  | d + 1 => spCW S l m d + jb (spWrong S l (m - (d + 1)))
def spFW (S : jS) (l m : Nat) : Nat → Nat
  | 0 => jNo
  | d + 1 => if spWrong S l (m - (d + 1)) then m - (d + 1) else spFW S l m d
def sf_lineV (S : jS) (l w : Nat) : Int32 := if w = 0 then nI (S 34 l) else if w = 1 then nI (S 35 l) else if w = 2 then nI (S 38 l) else if w = 3 then nI (S 10 13) - nI (spSorts S l + spSpaces S l) else if w = 4 then nI (S 42 l) else if w = 5 then nI (spCW S l (S 35 l) (S 35 l)) else if w = 6 then nI (spFW S l (S 35 l) (S 35 l)) else nI (spUnits S l (S 38 l))
def sf_line (S : jS) (x y : Int32) : Nat × Int32 × jS := if isLn S x then if inR y 0 7 then (0, sf_lineV S (jn x) (jn y), S) else (2, 0, S) else (1, 0, S)
