/-! THE REFERENCE: foul, putBack, lead, form -/
def sf_foul (S : jS) (x y z : Int32) : Nat × Int32 × jS := if isBx x y ∧ isBx x z then if jn y = jn z then (2, 0, S) else if S 30 (29 * jn x + jn y) = 0 then (3, 0, S) else (0, nI (spTop S (29 * jn x + jn y)), spPut (spTake S (29 * jn x + jn y)) (29 * jn x + jn z) (spTop S (29 * jn x + jn y))) else (1, 0, S)
theorem sw_congr {S T : jS} (h : ∀ a b, S a b = T a b) : S = T := by funext a b; exact h a b
def spBack (S : jS) (l : Nat) : jS := spDrop (spEmpty (spHomes l (S 35 l) S) l) l
def sf_putBack (S : jS) (x : Int32) : Nat × Int32 × jS := if isLn S x then if S 42 (jn x) = jNo then (0, nI (spKept S (jn x) (S 35 (jn x))), spBack S (jn x)) else (2, 0, S) else (1, 0, S)
def spLead (S : jS) (k n : Nat) : Nat := sumr (fun s => jb (S 25 s = k ∧ ¬ S 27 s = 3)) 0 n
def sf_lead (S : jS) (x y : Int32) : Nat × Int32 × jS := if isBx x y then (0, nI (spLead S (29 * jn x + jn y) (S 10 1)), S) else (1, 0, S)
abbrev isFm (S : jS) (x : Int32) : Prop := inR x 0 (nI (S 10 24) - nI 1)
def spOf (S : jS) (f n : Nat) : Nat := sumr (fun l => jb (S 42 l = f)) 0 n
def sf_form (S : jS) (x y : Int32) : Nat × Int32 × jS := if isFm S x then if inR y 0 2 then (0, nI (if jn y = 0 then S 43 (jn x) else if jn y = 1 then spOf S (jn x) (S 10 14) else S 44 (jn x)), S) else (2, 0, S) else (1, 0, S)
