/-! where a sort is -/
/-- where a sort is: the box, the line, the place in the heap -/
def spPlace (S : jS) (s : Nat) : Nat := if S 27 s = 0 then sumr (fun k => sumr (fun i => if S 29 (300 * k + i) = s then k % 29 else 0) 0 (S 30 k)) 0 58 else if S 27 s = 1 then sumr (fun l => sumr (fun i => if S 36 (64 * l + i) = s then l else 0) 0 (S 35 l)) 0 (S 10 14) else if S 27 s = 2 then sumr (fun i => if S 31 i = s then i else 0) 0 (S 10 9) else jNo
theorem sumr_one {f : Nat → Nat} {n k : Nat} (hk : k < n) (h : ∀ j, j < n → ¬ j = k → f j = 0) : sumr f 0 n = f k := by
  have h1 := sumr_upd (f := f) (g := fun j => if j = k then f k else 0) hk (fun j hj hne => by rw [if_neg hne, h j hj hne])
  have h2 := sumr_upd (f := fun _ => 0) (g := fun j => if j = k then f k else 0) hk (fun j hj hne => if_neg hne)
  have h3 : sumr (fun _ : Nat => 0) 0 n = 0 := sumr_0 n (fun _ _ => rfl)
  simp only [if_true] at h1 h2
  omega
theorem Wf.injL {S : jS} (h : Wf S) {l l' i i' : Nat} (hl : l < S 10 14) (hi : i < S 35 l) (hl' : l' < S 10 14) (hi' : i' < S 35 l') (e : S 36 (64 * l + i) = S 36 (64 * l' + i')) : l = l' ∧ i = i' := by
  by_cases e1 : l = l'
  · subst e1
    refine ⟨rfl, ?_⟩
    by_cases e2 : i = i'
    · exact e2
    · exfalso
      have h1 := h.1.2.2.le1 (S 36 (64 * l + i'))
      have h2 := sumr_ge2 (f := fun k => ind (S 36 (64 * l + i')) (S 36 (64 * l + k))) hi hi' e2
      simp only [e, ind_self] at h2
      have h4 := sumr_ge (f := fun l => lw S (ind (S 36 (64 * l + i'))) l (S 35 l)) hl
      have h5 := sumr_ge (f := fun j => lw S (ind (S 36 (64 * l + i'))) j (S 35 j)) hl
      have h6 : lw S (ind (S 36 (64 * l + i'))) l (S 35 l) = sumr (fun k => ind (S 36 (64 * l + i')) (S 36 (64 * l + k))) 0 (S 35 l) := rfl
      have h7 : lws S (ind (S 36 (64 * l + i'))) (S 10 14) = sumr (fun j => lw S (ind (S 36 (64 * l + i'))) j (S 35 j)) 0 (S 10 14) := rfl
      simp only [h7] at h1
      omega
  · exact absurd e (h.other hl hl' (fun q => e1 q.symm) hi hi')
/-- where the sort s is, by its tag -/
theorem Wf.at {S : jS} (h : Wf S) {s : Nat} (hs : s < S 10 1) : (S 27 s = 0 ∧ ∃ k i, k < 58 ∧ i < S 30 k ∧ S 29 (300 * k + i) = s) ∨ (S 27 s = 1 ∧ ∃ l i, l < S 10 14 ∧ i < S 35 l ∧ S 36 (64 * l + i) = s) ∨ (S 27 s = 2 ∧ ∃ i, i < S 10 9 ∧ S 31 i = s) ∨ S 27 s = 3 := by
  by_cases h3 : S 27 s = 3
  · exact Or.inr (Or.inr (Or.inr h3))
  · have h1 := h.1.2.2.one s
    rw [if_pos ⟨hs, h3⟩] at h1
    by_cases c1 : 0 < pws S (ind s)
    · obtain ⟨k, i, hk, hi, e⟩ := h.1.2.2.inPile c1
      have := (h.1.2.1.1 k i hk hi).1
      rw [e] at this
      exact Or.inl ⟨this, k, i, hk, hi, e⟩
    · by_cases c2 : 0 < hws S (ind s)
      · obtain ⟨i, hi, e⟩ := h.1.2.2.inHeap c2
        have := (h.1.2.1.2 i hi).1
        rw [e] at this
        exact Or.inr (Or.inr (Or.inl ⟨this, i, hi, e⟩))
      · have c3 : 0 < lws S (ind s) (S 10 14) := by
          have h2 : pws S (ind s) + hws S (ind s) + lws S (ind s) (S 10 14) = 1 := h1
          omega
        obtain ⟨l, i, hl, hi, e⟩ := lws_in c3
        have := h.2.1 l i hl hi
        rw [e] at this
        exact Or.inr (Or.inl ⟨this, l, i, hl, hi, e⟩)
theorem spPlace_P {S : jS} (h : Wf S) {s k i : Nat} (h27 : S 27 s = 0) (hk : k < 58) (hi : i < S 30 k) (e : S 29 (300 * k + i) = s) : spPlace S s = k % 29 := by
  unfold spPlace
  rw [if_pos h27, sumr_one hk (fun j hj hne => sumr_0 _ (fun i2 hi2 => if_neg (fun q => hne (h.1.2.2.injP hj hi2 hk hi (q.trans e.symm)).1))), sumr_one hi (fun j hj hne => if_neg (fun q => hne (h.1.2.2.injP hk hj hk hi (q.trans e.symm)).2)), if_pos e]
theorem spPlace_L {S : jS} (h : Wf S) {s l i : Nat} (h27 : S 27 s = 1) (hl : l < S 10 14) (hi : i < S 35 l) (e : S 36 (64 * l + i) = s) : spPlace S s = l := by
  unfold spPlace
  rw [if_neg (by omega), if_pos h27, sumr_one hl (fun j hj hne => sumr_0 _ (fun i2 hi2 => if_neg (fun q => hne (h.injL hj hi2 hl hi (q.trans e.symm)).1))), sumr_one hi (fun j hj hne => if_neg (fun q => hne (h.injL hl hj hl hi (q.trans e.symm)).2)), if_pos e]
theorem spPlace_H {S : jS} (h : Wf S) {s i : Nat} (h27 : S 27 s = 2) (hi : i < S 10 9) (e : S 31 i = s) : spPlace S s = i := by
  unfold spPlace
  rw [if_neg (by omega), if_neg (by omega), if_pos h27, sumr_one hi (fun j hj hne => if_neg (fun q => hne (h.1.2.2.injH hj hi (q.trans e.symm)))), if_pos e]
theorem spPlace_N {S : jS} {s : Nat} (h27 : S 27 s = 3) : spPlace S s = jNo := by
  unfold spPlace
  rw [if_neg (by omega), if_neg (by omega), if_neg (by omega)]

