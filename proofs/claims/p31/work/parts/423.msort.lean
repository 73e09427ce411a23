/-! THE REFERENCE: sort -/
def sf_sortV (S : jS) (s w : Nat) : Int32 := if w = 0 then nI (S 25 s / 29) else if w = 1 then nI (S 25 s % 29) else if w = 2 then nI (S 26 s) else if w = 3 then nI (S 27 s) else if w = 4 then nI (spPlace S s) else if w = 5 then nI (if S 28 s = 0 then 0 else 1) else nI (spFw (S 25 s))
def sf_sort (S : jS) (x y : Int32) : Nat × Int32 × jS := if inR x 0 (nI (S 10 1) - nI 1) then if inR y 0 6 then (0, sf_sortV S (jn x) (jn y), S) else (2, 0, S) else (1, 0, S)
