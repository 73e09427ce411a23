/-! STEPS: what a step does to weights, tags, ranges (no machine) -/
theorem Rg.rows {S S' : jS} (h : Rg S) (h10 : ∀ b, b = 1 ∨ b = 12 ∨ b = 13 ∨ b = 14 ∨ b = 24 ∨ b = 28 → S' 10 b = S 10 b) (h32 : S' 32 5 = S 32 5) (hr : ∀ a b, a = 33 ∨ a = 25 ∨ a = 41 ∨ a = 45 ∨ a = 43 → S' a b = S a b) (h27 : ∀ s, S' 27 s < 4) (h28 : ∀ s, S' 28 s < 2) : Rg S' := by
  obtain ⟨⟨a1, a2, a3, a4, a5, a6, a7⟩, ⟨b1, b2, b3⟩, c, d, e, f, g, i, j⟩ := h
  have e33 : ∀ b, S' 33 b = S 33 b := fun b => hr 33 b (by omega)
  have e1 := h10 1 (by omega)
  have e12 := h10 12 (by omega)
  have e13 := h10 13 (by omega)
  have e14 := h10 14 (by omega)
  have e24 := h10 24 (by omega)
  have e28 := h10 28 (by omega)
  refine ⟨⟨by omega, by omega, by omega, by omega, by omega, by omega, by omega⟩, ⟨by omega, fun k => by rw [e33]; exact b2 k, fun k hk => by rw [e33]; exact b3 k (by omega)⟩, fun s => by rw [hr 25 s (by omega)]; exact c s, h27, h28, fun k => by rw [hr 41 k (by omega)]; exact f k, fun k => by rw [hr 45 k (by omega)]; exact g k, fun k => by rw [hr 43 k (by omega)]; exact i k, fun k hk => by rw [hr 43 k (by omega)]; exact j k (by omega)⟩
theorem spPut_29 (S : jS) (k s x : Nat) : spPut S k s 29 x = if x = 300 * k + S 30 k then s else S 29 x := by
  show sw (sw (sw (sw S 29 (300 * k + S 30 k) s) 30 k (S 30 k + 1)) 27 s 0) 28 s 0 29 x = _
  simp [sw_at]
theorem spPut_30 (S : jS) (k s x : Nat) : spPut S k s 30 x = if x = k then S 30 k + 1 else S 30 x := by
  show sw (sw (sw (sw S 29 (300 * k + S 30 k) s) 30 k (S 30 k + 1)) 27 s 0) 28 s 0 30 x = _
  simp [sw_at]
theorem spPut_27 (S : jS) (k s x : Nat) : spPut S k s 27 x = if x = s then 0 else S 27 x := by
  show sw (sw (sw (sw S 29 (300 * k + S 30 k) s) 30 k (S 30 k + 1)) 27 s 0) 28 s 0 27 x = _
  simp [sw_at]
theorem spPut_28 (S : jS) (k s x : Nat) : spPut S k s 28 x = if x = s then 0 else S 28 x := by
  show sw (sw (sw (sw S 29 (300 * k + S 30 k) s) 30 k (S 30 k + 1)) 27 s 0) 28 s 0 28 x = _
  simp [sw_at]
theorem spPut_row (S : jS) (k s : Nat) {a b : Nat} (h : ¬ (a = 27 ∨ a = 28 ∨ a = 29 ∨ a = 30)) : spPut S k s a b = S a b := by
  show sw (sw (sw (sw S 29 (300 * k + S 30 k) s) 30 k (S 30 k + 1)) 27 s 0) 28 s 0 a b = _
  simp only [sw_at]
  rw [if_neg (by omega), if_neg (by omega), if_neg (by omega), if_neg (by omega)]
theorem spHome_eq (S : jS) (s : Nat) : spHome S s = if nI (S 26 s) < nI 12 then spPut S (S 25 s) s else sw (sw S 28 s 0) 27 s 3 := by
  unfold spHome
  split
  · refine sw_congr (fun a b => ?_)
    show sw (sw (sw (sw (sw S 28 s 0) 29 (300 * S 25 s + S 30 (S 25 s)) s) 30 (S 25 s) (S 30 (S 25 s) + 1)) 27 s 0) 28 s 0 a b = sw (sw (sw (sw S 29 (300 * S 25 s + S 30 (S 25 s)) s) 30 (S 25 s) (S 30 (S 25 s) + 1)) 27 s 0) 28 s 0 a b
    simp only [sw_at]
    by_cases e : a = 28 ∧ b = s
    · rw [if_pos e, if_pos e]
    · rw [if_neg e, if_neg e, if_neg e]
  · rfl
section
variable {S : jS} {R R' : (Nat → Nat) → Nat}
theorem WC.toR (h : WC S R) (e : ∀ w, R w = R' w) : WC S R' := ⟨h.1, h.2.1, fun w => by rw [← e]; exact h.2.2 w⟩
/-- rows of places and sorts as they were -/
theorem WC.same {S' : jS} (h : WC S R) (hg : Rg S') (hr : ∀ a b, (a = 10 ∧ (b = 1 ∨ b = 9)) ∨ a = 27 ∨ a = 28 ∨ a = 29 ∨ a = 30 ∨ a = 31 → S' a b = S a b) : WC S' R := by
  obtain ⟨h1, h2, h3⟩ := h
  have e9 := hr 10 9 (by omega)
  have e30 : ∀ k, S' 30 k = S 30 k := fun k => hr 30 k (by omega)
  have e29 : ∀ k, S' 29 k = S 29 k := fun k => hr 29 k (by omega)
  have e31 : ∀ k, S' 31 k = S 31 k := fun k => hr 31 k (by omega)
  have e27 : ∀ k, S' 27 k = S 27 k := fun k => hr 27 k (by omega)
  have e28 : ∀ k, S' 28 k = S 28 k := fun k => hr 28 k (by omega)
  refine ⟨hg, ⟨fun k i hk hi => ?_, fun i hi => ?_⟩, fun w => ?_⟩
  · rw [e29, e27, e28]
    exact h2.1 k i hk (by rw [← e30]; exact hi)
  · rw [e31, e27, e28]
    exact h2.2 i (by rw [← e9]; exact hi)
  · have p1 : pws S' w = pws S w := by
      unfold pws pw
      simp only [e29, e30]
    have p2 : hws S' w = hws S w := by
      unfold hws
      simp only [e31, e9]
    have p3 : lvs S' w = lvs S w := by
      unfold lvs
      simp only [e27, hr 10 1 (by omega)]
    rw [p1, p2, p3]
    exact h3 w
theorem WC.take {k : Nat} (h : WC S R) (hk : k < 58) (h0 : 0 < S 30 k) : WC (spTake S k) (fun w => R w + w (spTop S k)) := by
  obtain ⟨h1, h2, h3⟩ := h
  have e30 : ∀ j, spTake S k 30 j = if j = k then S 30 k - 1 else S 30 j := fun j => by
    show sw S 30 k (S 30 k - 1) 30 j = _
    simp [sw_at]
  have er : ∀ a b, ¬ a = 30 → spTake S k a b = S a b := fun a b ha => by
    show sw S 30 k (S 30 k - 1) a b = _
    rw [sw_at, if_neg (fun q => ha q.1)]
  refine ⟨h1.rows (fun b _ => er 10 b (by omega)) (er 32 5 (by omega)) (fun a b ha => er a b (by omega)) (fun s => by rw [er 27 s (by omega)]; exact h1.2.2.2.1 s) (fun s => by rw [er 28 s (by omega)]; exact h1.2.2.2.2.1 s), ⟨fun j i hj hi => ?_, fun i hi => ?_⟩, fun w => ?_⟩
  · rw [er 29 _ (by omega), er 27 _ (by omega), er 28 _ (by omega)]
    rw [e30] at hi
    refine h2.1 j i hj ?_
    by_cases e : j = k
    · rw [if_pos e] at hi; rw [e]; omega
    · rw [if_neg e] at hi; exact hi
  · rw [er 31 _ (by omega), er 27 _ (by omega), er 28 _ (by omega)]
    rw [er 10 9 (by omega)] at hi
    exact h2.2 i hi
  · have p2 : hws (spTake S k) w = hws S w := rfl
    have p3 : lvs (spTake S k) w = lvs S w := rfl
    have e1 : pw (spTake S k) w k + w (spTop S k) = pw S w k := by
      unfold pw
      rw [e30, if_pos rfl]
      show sumr (fun i => w (S 29 (300 * k + i))) 0 (S 30 k - 1) + w (S 29 (300 * k + (S 30 k - 1))) = _
      rw [← sumr_s (f := fun i => w (S 29 (300 * k + i))), Nat.sub_add_cancel h0]
    have e2 := sumr_upd (f := pw S w) (g := pw (spTake S k) w) hk (fun j hj hne => by
      unfold pw
      rw [e30, if_neg hne]
      rfl)
    have e3 := h3 w
    rw [p2, p3]
    unfold pws at e3 ⊢
    show _ + _ + (R w + w (spTop S k)) = _
    omega
theorem WC.put {k s : Nat} (h : WC S R) (hk : k < 58) (hR : ∀ w, R w = R' w + w s) : WC (spPut S k s) R' := by
  obtain ⟨h1, h2, h3⟩ := h
  have hi1 : R (ind s) = R' (ind s) + 1 := by rw [hR, ind_self]
  have hl := h3.live (s := s) (by omega)
  have hc := h3.cnt hk
  have hc1 : R (fun _ => 1) = R' (fun _ => 1) + 1 := hR _
  have hn := h1.1.1
  refine ⟨h1.rows (fun b _ => spPut_row S k s (by omega)) (spPut_row S k s (by omega)) (fun a b ha => spPut_row S k s (by omega)) (fun t => ?_) (fun t => ?_), ⟨fun j i hj hi => ?_, fun i hi => ?_⟩, fun w => ?_⟩
  · rw [spPut_27]
    have := h1.2.2.2.1 t
    split <;> omega
  · rw [spPut_28]
    have := h1.2.2.2.2.1 t
    split <;> omega
  · rw [spPut_29, spPut_27, spPut_28]
    rw [spPut_30] at hi
    by_cases e : 300 * j + i = 300 * k + S 30 k
    · rw [if_pos e]
      simp
    · rw [if_neg e]
      have hi2 : i < S 30 j := by
        by_cases e2 : j = k
        · subst e2; rw [if_pos rfl] at hi; omega
        · rw [if_neg e2] at hi; exact hi
      have h4 := h3.noPile (s := s) (by omega) hj hi2
      rw [if_neg h4, if_neg h4]
      exact h2.1 j i hj hi2
  · rw [spPut_row S k s (by omega)] at hi
    have h4 := h3.noHeap (s := s) (by omega) hi
    rw [spPut_row S k s (a := 31) (by omega), spPut_27, spPut_28, if_neg h4, if_neg h4]
    exact h2.2 i hi
  · have p2 : hws (spPut S k s) w = hws S w := by
      unfold hws
      rw [spPut_row S k s (by omega)]
      exact sumr_eq _ (fun i _ => by rw [spPut_row S k s (by omega)])
    have p3 : lvs (spPut S k s) w = lvs S w := by
      unfold lvs
      rw [spPut_row S k s (by omega)]
      refine sumr_eq _ (fun t _ => ?_)
      rw [spPut_27]
      by_cases e : t = s
      · rw [if_pos e, if_neg (by omega), e, if_neg hl.2]
      · rw [if_neg e]
    have hle : ∀ j, j < 58 → S 30 j ≤ 300 := fun j hj => by have := h3.cnt hj; omega
    have e1 : pw (spPut S k s) w k = pw S w k + w s := by
      unfold pw
      rw [spPut_30, if_pos rfl, sumr_s, spPut_29, if_pos rfl]
      congr 1
      exact sumr_eq _ (fun i hi => by rw [spPut_29, if_neg (by omega)])
    have e2 := sumr_upd (f := pw S w) (g := pw (spPut S k s) w) hk (fun j hj hne => by
      unfold pw
      rw [spPut_30, if_neg hne]
      exact sumr_eq _ (fun i hi => by
        have := hle j hj
        rw [spPut_29, if_neg (by omega)]))
    have e3 := h3 w
    have e4 := hR w
    rw [p2, p3]
    unfold pws at e3 ⊢
    omega
theorem WC.melt {s : Nat} (h : WC S R) (hR : ∀ w, R w = R' w + w s) : WC (sw (sw S 28 s 0) 27 s 3) R' := by
  obtain ⟨h1, h2, h3⟩ := h
  have hi1 : R (ind s) = R' (ind s) + 1 := by rw [hR, ind_self]
  have hl := h3.live (s := s) (by omega)
  have e27 : ∀ t, sw (sw S 28 s 0) 27 s 3 27 t = if t = s then 3 else S 27 t := fun t => by simp [sw_at]
  have e28 : ∀ t, sw (sw S 28 s 0) 27 s 3 28 t = if t = s then 0 else S 28 t := fun t => by simp [sw_at]
  have er : ∀ a b, ¬ a = 27 → ¬ a = 28 → sw (sw S 28 s 0) 27 s 3 a b = S a b := fun a b ha hb => by
    rw [sw_at, if_neg (fun q => ha q.1), sw_at, if_neg (fun q => hb q.1)]
  refine ⟨h1.rows (fun b _ => er 10 b (by omega) (by omega)) (er 32 5 (by omega) (by omega)) (fun a b ha => er a b (by omega) (by omega)) (fun t => ?_) (fun t => ?_), ⟨fun j i hj hi => ?_, fun i hi => ?_⟩, fun w => ?_⟩
  · rw [e27]
    have := h1.2.2.2.1 t
    split <;> omega
  · rw [e28]
    have := h1.2.2.2.2.1 t
    split <;> omega
  · rw [er 30 _ (by omega) (by omega)] at hi
    have h4 := h3.noPile (s := s) (by omega) hj hi
    rw [er 29 _ (by omega) (by omega), e27, e28, if_neg h4, if_neg h4]
    exact h2.1 j i hj hi
  · rw [er 10 _ (by omega) (by omega)] at hi
    have h4 := h3.noHeap (s := s) (by omega) hi
    rw [er 31 _ (by omega) (by omega), e27, e28, if_neg h4, if_neg h4]
    exact h2.2 i hi
  · have p1 : pws (sw (sw S 28 s 0) 27 s 3) w = pws S w := rfl
    have p2 : hws (sw (sw S 28 s 0) 27 s 3) w = hws S w := rfl
    have p3 := sumr_upd (f := fun t => if S 27 t = 3 then 0 else w t) (g := fun t => if sw (sw S 28 s 0) 27 s 3 27 t = 3 then 0 else w t) hl.1 (fun j _ hne => by simp only [e27]; rw [if_neg hne])
    have p4 : (if sw (sw S 28 s 0) 27 s 3 27 s = 3 then 0 else w s) = 0 := by rw [e27, if_pos rfl, if_pos rfl]
    have p5 : (if S 27 s = 3 then 0 else w s) = w s := if_neg hl.2
    have e3 := h3 w
    have e4 := hR w
    have e5 : lvs (sw (sw S 28 s 0) 27 s 3) w = sumr (fun t => if sw (sw S 28 s 0) 27 s 3 27 t = 3 then 0 else w t) 0 (S 10 1) := rfl
    have e6 : lvs S w = sumr (fun t => if S 27 t = 3 then 0 else w t) 0 (S 10 1) := rfl
    rw [p1, p2]
    simp only [p4, p5] at p3
    omega
theorem WC.home {s : Nat} (h : WC S R) (hR : ∀ w, R w = R' w + w s) : WC (spHome S s) R' := by
  rw [spHome_eq]
  split
  · exact h.put (h.1.2.2.1 s) hR
  · exact h.melt hR
theorem WC.mark {s v : Nat} (h : WC S R) (hs : 0 < R (ind s)) (hv : v < 3) : WC (sw S 27 s v) R := by
  obtain ⟨h1, h2, h3⟩ := h
  have hl := h3.live (s := s) (by omega)
  have e27 : ∀ t, sw S 27 s v 27 t = if t = s then v else S 27 t := fun t => by simp [sw_at]
  have er : ∀ a b, ¬ a = 27 → sw S 27 s v a b = S a b := fun a b ha => by rw [sw_at, if_neg (fun q => ha q.1)]
  refine ⟨h1.rows (fun b _ => er 10 b (by omega)) (er 32 5 (by omega)) (fun a b ha => er a b (by omega)) (fun t => ?_) (fun t => ?_), ⟨fun j i hj hi => ?_, fun i hi => ?_⟩, fun w => ?_⟩
  · rw [e27]
    have := h1.2.2.2.1 t
    split <;> omega
  · rw [er 28 _ (by omega)]
    exact h1.2.2.2.2.1 t
  · have h4 := h3.noPile (s := s) hs hj hi
    have h5 := h2.1 j i hj hi
    exact ⟨by rw [er 29 _ (by omega), e27, if_neg h4]; exact h5.1, h5.2⟩
  · have h4 := h3.noHeap (s := s) hs hi
    have h5 := h2.2 i hi
    exact ⟨by rw [er 31 _ (by omega), e27, if_neg h4]; exact h5.1, h5.2⟩
  · have p3 : lvs (sw S 27 s v) w = lvs S w := by
      unfold lvs
      refine sumr_eq _ (fun t _ => ?_)
      rw [e27]
      by_cases e : t = s
      · rw [if_pos e, if_neg (by omega), e, if_neg hl.2]
      · rw [if_neg e]
    rw [p3]
    exact h3 w
theorem WC.turn {s v : Nat} (h : WC S R) (hs : 0 < R (ind s)) (hv : v < 2) : WC (sw S 28 s v) R := by
  obtain ⟨h1, h2, h3⟩ := h
  have e28 : ∀ t, sw S 28 s v 28 t = if t = s then v else S 28 t := fun t => by simp [sw_at]
  have er : ∀ a b, ¬ a = 28 → sw S 28 s v a b = S a b := fun a b ha => by rw [sw_at, if_neg (fun q => ha q.1)]
  refine ⟨h1.rows (fun b _ => er 10 b (by omega)) (er 32 5 (by omega)) (fun a b ha => er a b (by omega)) (fun t => ?_) (fun t => ?_), ⟨fun j i hj hi => ?_, fun i hi => ?_⟩, fun w => ?_⟩
  · rw [er 27 _ (by omega)]
    exact h1.2.2.2.1 t
  · rw [e28]
    have := h1.2.2.2.2.1 t
    split <;> omega
  · have h4 := h3.noPile (s := s) hs hj hi
    have h5 := h2.1 j i hj hi
    exact ⟨h5.1, by rw [er 29 _ (by omega), e28, if_neg h4]; exact h5.2⟩
  · have h4 := h3.noHeap (s := s) hs hi
    have h5 := h2.2 i hi
    exact ⟨h5.1, by rw [er 31 _ (by omega), e28, if_neg h4]; exact h5.2⟩
  · exact h3 w
theorem spToHeap_31 (S : jS) (s x : Nat) : spToHeap S s 31 x = if x = S 10 9 then s else S 31 x := by simp [spToHeap, sw_at]
theorem spToHeap_27 (S : jS) (s x : Nat) : spToHeap S s 27 x = if x = s then 2 else S 27 x := by simp [spToHeap, sw_at]
theorem spToHeap_28 (S : jS) (s x : Nat) : spToHeap S s 28 x = if x = s then 0 else S 28 x := by simp [spToHeap, sw_at]
theorem spToHeap_9 (S : jS) (s : Nat) : spToHeap S s 10 9 = S 10 9 + 1 := by simp [spToHeap, sw_at]
theorem spToHeap_row (S : jS) (s : Nat) {a b : Nat} (h : ¬ (a = 27 ∨ a = 28 ∨ a = 31 ∨ (a = 10 ∧ b = 9))) : spToHeap S s a b = S a b := by
  simp only [spToHeap, sw_at]
  rw [if_neg (by omega), if_neg (by omega), if_neg (by omega), if_neg (by omega)]
theorem WC.toHeap {s : Nat} (h : WC S R) (hR : ∀ w, R w = R' w + w s) : WC (spToHeap S s) R' := by
  obtain ⟨h1, h2, h3⟩ := h
  have hi1 : R (ind s) = R' (ind s) + 1 := by rw [hR, ind_self]
  have hl := h3.live (s := s) (by omega)
  refine ⟨h1.rows (fun b _ => spToHeap_row S s (by omega)) (spToHeap_row S s (by omega)) (fun a b ha => spToHeap_row S s (by omega)) (fun t => ?_) (fun t => ?_), ⟨fun j i hj hi => ?_, fun i hi => ?_⟩, fun w => ?_⟩
  · rw [spToHeap_27]
    have := h1.2.2.2.1 t
    split <;> omega
  · rw [spToHeap_28]
    have := h1.2.2.2.2.1 t
    split <;> omega
  · rw [spToHeap_row S s (by omega)] at hi
    have h4 := h3.noPile (s := s) (by omega) hj hi
    rw [spToHeap_row S s (a := 29) (by omega), spToHeap_27, spToHeap_28, if_neg h4, if_neg h4]
    exact h2.1 j i hj hi
  · rw [spToHeap_9] at hi
    rw [spToHeap_31, spToHeap_27, spToHeap_28]
    by_cases e : i = S 10 9
    · rw [if_pos e]
      simp
    · have h4 := h3.noHeap (s := s) (by omega) (show i < S 10 9 by omega)
      rw [if_neg e, if_neg h4, if_neg h4]
      exact h2.2 i (by omega)
  · have p1 : pws (spToHeap S s) w = pws S w := by
      unfold pws pw
      refine sumr_eq _ (fun k _ => ?_)
      rw [spToHeap_row S s (by omega)]
      exact sumr_eq _ (fun i _ => by rw [spToHeap_row S s (by omega)])
    have p2 : hws (spToHeap S s) w = hws S w + w s := by
      unfold hws
      rw [spToHeap_9, sumr_s, spToHeap_31, if_pos rfl]
      congr 1
      exact sumr_eq _ (fun i hi => by rw [spToHeap_31, if_neg (by omega)])
    have p3 : lvs (spToHeap S s) w = lvs S w := by
      unfold lvs
      rw [spToHeap_row S s (by omega)]
      refine sumr_eq _ (fun t _ => ?_)
      rw [spToHeap_27]
      by_cases e : t = s
      · rw [if_pos e, if_neg (by omega), e, if_neg hl.2]
      · rw [if_neg e]
    have e3 := h3 w
    have e4 := hR w
    rw [p1, p2, p3]
    omega
theorem spOffHeap_row (S : jS) (p : Nat) {a b : Nat} (h : ¬ (a = 31 ∨ (a = 10 ∧ b = 9))) : spOffHeap S p a b = S a b := by
  unfold spOffHeap
  rw [if_neg (by omega), if_neg (by omega)]
theorem spOffHeap_9 (S : jS) (p : Nat) : spOffHeap S p 10 9 = S 10 9 - 1 := by
  unfold spOffHeap
  rw [if_neg (by omega), if_pos (by omega)]
theorem spOffHeap_31 (S : jS) (p i : Nat) (hi : i < S 10 9 - 1) : spOffHeap S p 31 i = if i < p then S 31 i else S 31 (i + 1) := by
  unfold spOffHeap
  by_cases e : i < p
  · rw [if_neg (by omega), if_neg (by omega), if_pos e]
  · rw [if_pos (by omega), if_neg e]
theorem WC.offHeap {p : Nat} (h : WC S R) (hp : p < S 10 9) : WC (spOffHeap S p) (fun w => R w + w (S 31 p)) := by
  obtain ⟨h1, h2, h3⟩ := h
  have er : ∀ a b, ¬ (a = 31 ∨ (a = 10 ∧ b = 9)) → spOffHeap S p a b = S a b := fun a b h => spOffHeap_row S p h
  refine ⟨h1.rows (fun b _ => er 10 b (by omega)) (er 32 5 (by omega)) (fun a b ha => er a b (by omega)) (fun t => ?_) (fun t => ?_), ⟨fun j i hj hi => ?_, fun i hi => ?_⟩, fun w => ?_⟩
  · rw [er 27 _ (by omega)]; exact h1.2.2.2.1 t
  · rw [er 28 _ (by omega)]; exact h1.2.2.2.2.1 t
  · rw [er 30 _ (by omega)] at hi
    rw [er 29 _ (by omega), er 27 _ (by omega), er 28 _ (by omega)]
    exact h2.1 j i hj hi
  · rw [spOffHeap_9] at hi
    rw [er 27 _ (by omega), er 28 _ (by omega), spOffHeap_31 S p i hi]
    split
    · exact h2.2 i (by omega)
    · exact h2.2 (i + 1) (by omega)
  · have p1 : pws (spOffHeap S p) w = pws S w := by
      unfold pws pw
      refine sumr_eq _ (fun k _ => ?_)
      rw [er 30 _ (by omega)]
      exact sumr_eq _ (fun i _ => by rw [er 29 _ (by omega)])
    have p3 : lvs (spOffHeap S p) w = lvs S w := by
      unfold lvs
      rw [er 10 1 (by omega)]
      exact sumr_eq _ (fun t _ => by rw [er 27 _ (by omega)])
    have p2 : hws (spOffHeap S p) w + w (S 31 p) = hws S w := by
      unfold hws
      rw [spOffHeap_9]
      have h4 := sumr_del (f := fun i => w (S 31 i)) (l := p) (n := S 10 9 - 1) (by omega)
      rw [Nat.sub_add_cancel (by omega)] at h4
      rw [← h4]
      congr 1
      refine sumr_eq _ (fun i hi => ?_)
      rw [spOffHeap_31 S p i hi]
      split <;> rfl
    have e3 := h3 w
    rw [p1, p3]
    show _ + _ + (R w + w (S 31 p)) = _
    omega
end
