/-! THE INVARIANT, call by call: clear, measure, spaces, foul -/
theorem Wf.rows {S S' : jS} (h : Wf S) (hg : Rg S') (hr : ∀ a b, ¬ (a = 32 ∨ a = 33 ∨ a = 44 ∨ a = 45 ∨ (a = 10 ∧ (b = 0 ∨ b = 12 ∨ b = 13 ∨ b = 28))) → S' a b = S a b) : Wf S' :=
  h.keep (h.1.same hg (fun a b hab => hr a b (by omega))) (fun a b hab => hr a b (by omega)) (fun b => Or.inr (hr 40 b (by omega))) (fun l k hl hk => by rw [hr 27 _ (by omega)]; exact h.2.1 l k hl hk)
theorem Wf.clear {S : jS} (h : Wf S) : Wf (sw S 10 12 0) := by
  obtain ⟨⟨a1, a2, a3, a4, a5, a6, a7⟩, ⟨b1, b2, b3⟩, hf⟩ := h.1.1
  have e12 : sw S 10 12 0 10 12 = 0 := by rw [sw_at, if_pos ⟨rfl, rfl⟩]
  refine h.rows ⟨⟨a1, a2, a3, a4, a5, a6, a7⟩, ⟨by rw [e12]; omega, b2, fun k hk => ?_⟩, hf⟩ (fun a b hab => by rw [sw_at, if_neg (by omega)])
  rw [e12] at hk
  omega
theorem Wf.measure {S : jS} (h : Wf S) {n : Nat} (h1 : 20 ≤ n) (h2 : n ≤ 200) : Wf (sw S 10 13 n) := by
  obtain ⟨⟨a1, a2, a3, a4, a5, a6, a7⟩, hf⟩ := h.1.1
  have e13 : sw S 10 13 n 10 13 = n := by rw [sw_at, if_pos ⟨rfl, rfl⟩]
  exact h.rows ⟨⟨a1, a2, a3, a4, by rw [e13]; exact h2, by rw [e13]; exact h1, a7⟩, hf⟩ (fun a b hab => by rw [sw_at, if_neg (by omega)])
theorem Wf.spaces {S : jS} (h : Wf S) {u n : Nat} (hu : ¬ u = 5) : Wf (sw S 32 u n) := by
  obtain ⟨⟨a1, a2, a3, a4, a5, a6, a7⟩, hf⟩ := h.1.1
  have e5 : sw S 32 u n 32 5 = 0 := by rw [sw_at, if_neg (by omega)]; exact a7
  exact h.rows ⟨⟨a1, a2, a3, a4, a5, a6, e5⟩, hf⟩ (fun a b hab => by rw [sw_at, if_neg (by omega)])
theorem Wf.foul {S : jS} (h : Wf S) {k j : Nat} (hk : k < 58) (hj : j < 58) (h0 : 0 < S 30 k) : Wf (spPut (spTake S k) j (spTop S k)) := by
  have er : ∀ a b, ¬ (a = 27 ∨ a = 28 ∨ a = 29 ∨ a = 30) → spPut (spTake S k) j (spTop S k) a b = S a b := fun a b hab => by
    rw [spPut_row _ _ _ hab]
    show sw S 30 k (S 30 k - 1) a b = S a b
    rw [sw_at, if_neg (by omega)]
  have ht : S 27 (spTop S k) = 0 := (h.1.2.1.1 k (S 30 k - 1) hk (by omega)).1
  refine h.keep ((h.1.take hk h0).put hj (fun w => rfl)) (fun a b hab => er a b (by omega)) (fun b => Or.inr (er 40 b (by omega))) (fun l i hl hi => ?_)
  have h1 := h.2.1 l i hl hi
  rw [spPut_27, if_neg (fun e => by rw [e] at h1; omega)]
  exact h1

