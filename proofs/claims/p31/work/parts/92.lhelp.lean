theorem CM.ref0 {M : jx_M} {S : jS} {p : Nat → Nat} {v : Nat} (h : CM M S p) : CM M (sw S 10 0 v) p := h
theorem W0.ref {S : jS} {v : Nat} (h : W0 S) : W0 (sw S 10 0 v) := h
theorem LI.of {M1 M2 : jx_M} {T : jS} {p : Nat → Nat} {k : Nat} (h : RF M1 M2 (sw T 10 0 k)) (hM : CM M1 T p) (hW : Wf T) (h0 : W0 T) (h47 : qN M1 47 = 1) : LI M2 := ⟨sw T 10 0 k, p, h.1, (hM.ext (fun r hr i c => h.2.1 r i c hr) (fun r i c => h.2.2.1 r i c) (fun r => h.2.2.2.2 r)).ref0, hW.ref, h0.ref, (h.2.2.2.2 47).trans h47⟩
