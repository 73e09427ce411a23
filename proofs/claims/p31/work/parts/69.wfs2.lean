/-! THE INVARIANT, call by call: type, lock, proof -/
theorem Wf.type {S : jS} (h : Wf S) {c : Nat} (hc : okc c) (hc2 : c < 65536) (hn : ¬ S 10 12 = 60) : Wf (sw (sw S 33 (S 10 12) c) 10 12 (S 10 12 + 1)) := by
  obtain ⟨⟨a1, a2, a3, a4, a5, a6, a7⟩, ⟨b1, b2, b3⟩, hf⟩ := h.1.1
  have e12 : sw (sw S 33 (S 10 12) c) 10 12 (S 10 12 + 1) 10 12 = S 10 12 + 1 := by rw [sw_at, if_pos ⟨rfl, rfl⟩]
  have e33 : ∀ k, sw (sw S 33 (S 10 12) c) 10 12 (S 10 12 + 1) 33 k = if k = S 10 12 then c else S 33 k := fun k => by simp [sw_at]
  refine h.rows ⟨⟨a1, a2, a3, a4, a5, a6, a7⟩, ⟨by rw [e12]; omega, fun k => ?_, fun k hk => ?_⟩, hf⟩ (fun a b hab => by rw [sw_at, if_neg (by omega), sw_at, if_neg (by omega)])
  · rw [e33]
    split
    · exact hc2
    · exact b2 k
  · rw [e33]
    rw [e12] at hk
    split
    · exact hc
    · exact b3 k (by omega)
theorem spNF_0 {S : jS} {f n j : Nat} (h : spNF S f n = 0) (hj : j < n) : S 42 (f + j) = jNo := by
  have h1 := sumr_ge (f := fun j => jb (¬ S 42 (f + j) = jNo)) hj
  have h2 : sumr (fun j => jb (¬ S 42 (f + j) = jNo)) 0 n = 0 := h
  rw [h2] at h1
  refine Classical.byContradiction (fun e => ?_)
  simp only [jb_t e] at h1
  omega
theorem Wf.lock {S : jS} (h : Wf S) {f t : Nat} (ht : t < S 10 14) (h0 : spNF S f (t + 1 - f) = 0) (h4 : ¬ S 10 24 = 4) : Wf (spLock S f t) := by
  obtain ⟨⟨a1, a2, a3, a4, a5, a6, a7⟩, hT, hF, c1, c2, c3, c4, c5, c6⟩ := h.1.1
  have hj := jNo_v
  have er : ∀ a b, ¬ (a = 42 ∨ a = 43 ∨ (a = 10 ∧ b = 24)) → spLock S f t a b = S a b := fun a b hab => by
    unfold spLock
    rw [if_neg (by omega), if_neg (by omega), if_neg (by omega)]
  have e24 : spLock S f t 10 24 = S 10 24 + 1 := by
    unfold spLock
    rw [if_neg (by omega), if_neg (by omega), if_pos ⟨rfl, rfl⟩]
  have e43 : ∀ k, spLock S f t 43 k = if k = S 10 24 then 0 else S 43 k := fun k => by
    unfold spLock
    rw [if_neg (by omega)]
    by_cases e : k = S 10 24
    · rw [if_pos ⟨rfl, e⟩, if_pos e]
    · rw [if_neg (fun q => e q.2), if_neg e, if_neg (by omega)]
  have e42i : ∀ k, f ≤ k → k ≤ t → spLock S f t 42 k = S 10 24 := fun k g1 g2 => by
    unfold spLock
    rw [if_pos ⟨rfl, g1, g2⟩]
  have e42o : ∀ k, ¬ (f ≤ k ∧ k ≤ t) → spLock S f t 42 k = S 42 k := fun k g => by
    unfold spLock
    rw [if_neg (fun q => g q.2), if_neg (by omega), if_neg (by omega)]
  have e14 := er 10 14 (by omega)
  have hno : ∀ k, f ≤ k → k ≤ t → S 42 k = jNo := fun k g1 g2 => by
    have := spNF_0 h0 (j := k - f) (by omega)
    rwa [show f + (k - f) = k by omega] at this
  have hold : ∀ k, k < S 10 14 → ¬ S 42 k = S 10 24 := fun k hk => by
    have := (h.2.2.1 k hk).2.2.1
    omega
  have hg : Rg (spLock S f t) := by
    refine ⟨⟨?_, ?_, ?_, ?_, ?_, ?_, ?_⟩, ⟨?_, fun k => ?_, fun k hk => ?_⟩, fun s => ?_, fun s => ?_, fun s => ?_, fun k => ?_, fun k => ?_, fun k => ?_, fun k hk => ?_⟩
    · rw [er 10 1 (by omega)]; exact a1
    · rw [e14]; exact a2
    · rw [e24]; omega
    · rw [er 10 28 (by omega)]; exact a4
    · rw [er 10 13 (by omega)]; exact a5
    · rw [er 10 13 (by omega)]; exact a6
    · rw [er 32 5 (by omega)]; exact a7
    · rw [er 10 12 (by omega)]; exact hT.1
    · rw [er 33 k (by omega)]; exact hT.2.1 k
    · rw [er 10 12 (by omega)] at hk
      rw [er 33 k (by omega)]; exact hT.2.2 k hk
    · rw [er 25 s (by omega)]; exact hF s
    · rw [er 27 s (by omega)]; exact c1 s
    · rw [er 28 s (by omega)]; exact c2 s
    · rw [er 41 k (by omega)]; exact c3 k
    · rw [er 45 k (by omega)]; exact c4 k
    · rw [e43]
      split
      · omega
      · exact c5 k
    · rw [e24] at hk
      rw [e43, if_neg (by omega)]
      exact c6 k (by omega)
  refine ⟨(h.1.same hg (fun a b hab => er a b (by omega))).toR (fun w => ?_), fun l k hl hk => ?_, fun l hl => ?_, fun a b c g1 g2 g3 g4 g5 => ?_⟩
  · rw [e14]
    exact (lws_congr (fun b => er 35 b (by omega)) (fun b => er 36 b (by omega)) w).symm
  · rw [e14] at hl
    rw [er 35 l (by omega)] at hk
    rw [er 36 _ (by omega), er 27 _ (by omega)]
    exact h.2.1 l k hl hk
  · rw [e14] at hl
    obtain ⟨d1, d2, d3, d4, d5⟩ := h.2.2.1 l hl
    refine ⟨by rw [er 35 l (by omega), er 38 l (by omega)]; exact d1, by rw [er 34 l (by omega)]; exact d2, ?_, fun k hk => ?_, fun g hg => ?_⟩
    · rw [e24]
      by_cases e : f ≤ l ∧ l ≤ t
      · rw [e42i l e.1 e.2]; exact Or.inr (by omega)
      · rw [e42o l e]; omega
    · rw [er 35 l (by omega)] at hk
      rw [er 34 l (by omega), er 37 _ (by omega)]
      exact d4 k hk
    · rw [er 38 l (by omega)] at hg
      rw [er 40 _ (by omega)]
      exact d5 g hg
  · rw [e14] at g3
    by_cases ea : f ≤ a ∧ a ≤ t
    · rw [e42i a ea.1 ea.2] at g4 ⊢
      by_cases ec : f ≤ c ∧ c ≤ t
      · exact e42i b (by omega) (by omega)
      · rw [e42o c ec] at g4
        exact absurd g4.symm (hold c g3)
    · rw [e42o a ea] at g4 g5 ⊢
      by_cases ec : f ≤ c ∧ c ≤ t
      · rw [e42i c ec.1 ec.2] at g4
        exact absurd g4 (hold a (by omega))
      · rw [e42o c ec] at g4
        have hb := h.2.2.2 a b c g1 g2 g3 g4 g5
        by_cases eb : f ≤ b ∧ b ≤ t
        · rw [hno b eb.1 eb.2] at hb
          exact absurd hb.symm g5
        · rw [e42o b eb]; exact hb
def P45 (S : jS) : Prop := ∀ k, S 45 k < 65536
theorem P45.show {S : jS} (h : P45 S) {c : Nat} (hc : c < 65536) : P45 (spShow S c) := by
  intro k
  unfold spShow
  rw [sw_at, if_neg (by omega), sw_at]
  split
  · exact hc
  · exact h k
theorem P45.ink {S : jS} (h : P45 S) {s : Nat} (hF : FOK S) : P45 (spInk S s) := by
  intro k
  unfold spInk
  rw [sw_at, if_neg (by omega)]
  exact h.show (spGlyph_lt hF) k
theorem P45.prL {l : Nat} {S : jS} (h : P45 S) (hF : FOK S) : ∀ k, P45 (spPrL l k S).2
  | 0 => h
  | k + 1 => by
    have ih := P45.prL (l := l) h hF k
    have hF1 : FOK (spPrL l k S).2 := fun s => by rw [spPrL_row S (a := 25) (by omega)]; exact hF s
    unfold spPrL
    split
    · simp only
      split
      · exact (ih.show (by omega)).ink (fun s => by rw [spShow_row _ _ (by omega)]; exact hF1 s)
      · exact ih.ink hF1
    · exact ih.ink hF1
theorem P45.prA {f : Nat} {S : jS} (h : P45 S) (hF : FOK S) : ∀ l, P45 (spPrA f l S)
  | 0 => h
  | l + 1 => by
    have ih := P45.prA (f := f) h hF l
    unfold spPrA
    split
    · exact ih.prL (fun s => by rw [spPrA_row S (a := 25) (by omega)]; exact hF s) _
    · exact ih
theorem Wf.proof {S : jS} (h : Wf S) {f x v : Nat} : Wf (sw (spPrA f (S 10 14) (sw (sw S 10 0 0) 10 28 0)) 44 x v) := by
  obtain ⟨⟨a1, a2, a3, a4, a5, a6, a7⟩, hT, hF, c1, c2, c3, c4, c5, c6⟩ := h.1.1
  have er : ∀ a b, ¬ (a = 44 ∨ a = 45 ∨ a = 26 ∨ (a = 10 ∧ (b = 0 ∨ b = 28))) → sw (spPrA f (S 10 14) (sw (sw S 10 0 0) 10 28 0)) 44 x v a b = S a b := fun a b hab => by
    rw [sw_at, if_neg (by omega), spPrA_row _ (by omega), sw_at, if_neg (by omega), sw_at, if_neg (by omega)]
  have e45 : P45 (sw (spPrA f (S 10 14) (sw (sw S 10 0 0) 10 28 0)) 44 x v) := fun k => by
    rw [sw_at, if_neg (by omega)]
    exact P45.prA (S := sw (sw S 10 0 0) 10 28 0) c4 hF _ k
  have e28 : sw (spPrA f (S 10 14) (sw (sw S 10 0 0) 10 28 0)) 44 x v 10 28 ≤ 720 := by
    rw [sw_at, if_neg (by omega)]
    have h1 := spPrA_28 (f := f) (sw (sw S 10 0 0) 10 28 0) (fun l hl => (h.2.2.1 l hl).1) (S 10 14) (Nat.le_refl _)
    have h2 : sw (sw S 10 0 0) 10 28 0 10 28 = 0 := by rw [sw_at, if_pos ⟨rfl, rfl⟩]
    omega
  have hg : Rg (sw (spPrA f (S 10 14) (sw (sw S 10 0 0) 10 28 0)) 44 x v) := by
    generalize sw (spPrA f (S 10 14) (sw (sw S 10 0 0) 10 28 0)) 44 x v = T at *
    refine ⟨⟨?_, ?_, ?_, e28, ?_, ?_, ?_⟩, ⟨?_, fun k => ?_, fun k hk => ?_⟩, fun s => ?_, fun s => ?_, fun s => ?_, fun k => ?_, e45, fun k => ?_, fun k hk => ?_⟩
    · rw [er 10 1 (by omega)]; exact a1
    · rw [er 10 14 (by omega)]; exact a2
    · rw [er 10 24 (by omega)]; exact a3
    · rw [er 10 13 (by omega)]; exact a5
    · rw [er 10 13 (by omega)]; exact a6
    · rw [er 32 5 (by omega)]; exact a7
    · rw [er 10 12 (by omega)]; exact hT.1
    · rw [er 33 k (by omega)]; exact hT.2.1 k
    · rw [er 10 12 (by omega)] at hk
      rw [er 33 k (by omega)]; exact hT.2.2 k hk
    · rw [er 25 s (by omega)]; exact hF s
    · rw [er 27 s (by omega)]; exact c1 s
    · rw [er 28 s (by omega)]; exact c2 s
    · rw [er 41 k (by omega)]; exact c3 k
    · rw [er 43 k (by omega)]; exact c5 k
    · rw [er 10 24 (by omega)] at hk
      rw [er 43 k (by omega)]; exact c6 k hk
  exact h.keep (h.1.same hg (fun a b hab => er a b (by omega))) (fun a b hab => er a b (by omega)) (fun b => Or.inr (er 40 b (by omega))) (fun l k hl hk => by rw [er 27 _ (by omega)]; exact h.2.1 l k hl hk)

