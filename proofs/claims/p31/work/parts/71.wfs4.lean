/-! THE INVARIANT, call by call: sortPie, unlock, lift -/
theorem Wf.SP : ∀ (d h : Nat) {S : jS}, Wf S → Wf (spSP d h S).2
  | 0, _, _, hW => hW
  | d + 1, h, S, hW => by
    unfold spSP
    split
    · rename_i h0
      exact Wf.SP d _ (Wf_sp1 hW h0)
    · exact hW
theorem Wf.UL {f : Nat} : ∀ (d l h : Nat) {S : jS}, Wf S → Wf (spUL f d l h S).2
  | 0, _, _, _, hW => hW
  | d + 1, l, h, S, hW => by
    unfold spUL
    split
    · rename_i h0
      split
      · exact Wf.UL d l _ (Wf_back hW h0)
      · exact Wf.UL d (l + 1) h hW
    · exact hW
theorem spUL_24 {f : Nat} : ∀ (d l h : Nat) (S : jS), (spUL f d l h S).2 10 24 = S 10 24
  | 0, _, _, _ => rfl
  | d + 1, l, h, S => by
    unfold spUL
    split
    · split
      · rw [spUL_24 d]; exact spBack_24
      · exact spUL_24 d _ _ _
    · rfl
theorem Wf.unlock {S : jS} (h : Wf S) {f : Nat} (hf : f < S 10 24) : Wf (sw (spUL f 13 0 0 (sw S 10 0 0)).2 43 f 2) :=
  (Wf.UL 13 0 0 (h.ref (v := 0))).st (by rw [spUL_24]; exact hf) (by omega)
theorem Wf.LF {f : Nat} (hf : f < 4) : ∀ (d l h : Nat) {S : jS}, Wf S → (∀ j, j < l → ¬ S 42 j = f) → Wf (spLF f d l h S).2
  | 0, _, _, _, hW, _ => hW
  | d + 1, l, h, S, hW, hlow => by
    have hj := jNo_v
    unfold spLF
    split
    · rename_i h0
      split
      · rename_i h1
        have hlow2 : ∀ j, j < l + 1 → ¬ sw S 42 l jNo 42 j = f := fun j hj2 => by
          rw [sw_at]
          by_cases e : j = l
          · rw [if_pos ⟨rfl, e⟩]; omega
          · rw [if_neg (fun q => e q.2)]
            exact hlow j (by omega)
        have hWf := hW.free h0 h1 hlow
        split
        · exact Wf.LF hf d (l + 1) h hWf hlow2
        · refine Wf.LF hf d l _ (Wf_fall hWf h0) (fun j hj2 => ?_)
          have h14 : sw S 42 l jNo 10 14 = S 10 14 := by rw [sw_at, if_neg (by omega)]
          rw [spFall_42 (by rw [h14]; omega)]
          rw [show up l j = j by unfold up; rw [if_pos hj2]]
          exact hlow2 j (by omega)
      · rename_i h1
        refine Wf.LF hf d (l + 1) h hW (fun j hj2 => ?_)
        by_cases e : j = l
        · rw [e]; exact h1
        · exact hlow j (by omega)
    · exact hW
theorem Wf.lift2 {S : jS} (h : Wf S) {f : Nat} (hf : f < S 10 24) : Wf (spLF f 13 0 0 (sw (sw S 10 0 0) 43 f 2)).2 :=
  Wf.LF (by have := h.1.1.1.2.2.1; omega) 13 0 0 ((h.ref (v := 0)).st hf (by omega)) (fun j hj => by omega)

