/-! STEPS: a line emptied, filled, mended (no machine) -/
theorem LRg.congr5 {S S' : jS} {l : Nat} (h : LRg S l) (hr : ∀ a b, a = 34 ∨ a = 35 ∨ a = 37 ∨ a = 38 ∨ a = 42 → S' a b = S a b) (h24 : S' 10 24 = S 10 24) (h5 : ∀ g, g ≤ S 38 l → S' 40 (448 * l + 7 * g + 5) = 0) : LRg S' l := by
  obtain ⟨h1, h2, h3, h4, -⟩ := h
  unfold LRg
  rw [hr 35 l (by omega), hr 38 l (by omega), hr 34 l (by omega), hr 42 l (by omega), h24]
  exact ⟨h1, h2, h3, fun k hk => by rw [hr 37 _ (by omega)]; exact h4 k hk, h5⟩
/-- lines as they were but for the row 36, spaces, tags -/
theorem Wf.keep5 {S S' : jS} (h : Wf S) (hc : WC S' (fun w => lws S' w (S 10 14))) (hr : ∀ a b, a = 34 ∨ a = 35 ∨ a = 37 ∨ a = 38 ∨ a = 42 ∨ (a = 10 ∧ (b = 14 ∨ b = 24)) → S' a b = S a b) (h5 : ∀ l g, l < S 10 14 → g ≤ S 38 l → S' 40 (448 * l + 7 * g + 5) = 0) (h27 : ∀ l k, l < S 10 14 → k < S 35 l → S' 27 (S' 36 (64 * l + k)) = 1) : Wf S' := by
  have e14 := hr 10 14 (by omega)
  refine ⟨hc.toR (fun w => by rw [e14]), fun l k hl hk => ?_, fun l hl => ?_, fun a b c h1 h2 h3 h4 h5 => ?_⟩
  · rw [e14] at hl
    rw [hr 35 l (by omega)] at hk
    exact h27 l k hl hk
  · rw [e14] at hl
    exact (h.2.2.1 l hl).congr5 (fun a b hab => hr a b (by omega)) (hr 10 24 (by omega)) (fun g hg => h5 l g hl hg)
  · rw [e14] at h3
    rw [hr 42 a (by omega), hr 42 c (by omega)] at h4
    rw [hr 42 a (by omega)] at h5
    rw [hr 42 a (by omega), hr 42 b (by omega)]
    exact h.2.2.2 a b c h1 h2 h3 h4 h5
theorem spTaken_0 (S : jS) (u n : Nat) (h : S 32 u = 0) : spTaken S u n = 0 := by
  have h1 : spTaken S u n ≤ jP (S 32 u) := Nat.min_le_right _ _
  have := jP_le (S 32 u)
  omega
theorem spFG_5 {c : Nat} : ∀ (u n : Nat) (S : jS), u ≤ 6 → S 32 5 = 0 → spFG c u n S 32 5 = 0 ∧ spFG c u n S 40 (c + 5) = S 40 (c + 5) ∧ ∀ b, ¬ (c + 1 ≤ b ∧ b ≤ c + 6) → spFG c u n S 40 b = S 40 b
  | 0, _, _, _, h => ⟨h, rfl, fun _ _ => rfl⟩
  | u + 1, n, S, hu, h => by
    unfold spFG
    have e32 : spF1 S (c + (u + 1)) (u + 1) (spTaken S (u + 1) n) 32 5 = 0 := by
      show sw (sw S 32 (u + 1) (S 32 (u + 1) - spTaken S (u + 1) n)) 40 (c + (u + 1)) (S 40 (c + (u + 1)) + spTaken S (u + 1) n) 32 5 = 0
      rw [sw_at, if_neg (by omega), sw_at]
      by_cases e : 5 = u + 1
      · rw [if_pos ⟨rfl, e⟩, ← e, h, Nat.zero_sub]
      · rw [if_neg (fun q => e q.2), h]
    have e40 : ∀ b, spF1 S (c + (u + 1)) (u + 1) (spTaken S (u + 1) n) 40 b = if b = c + (u + 1) then S 40 b + spTaken S (u + 1) n else S 40 b := fun b => by
      show sw (sw S 32 (u + 1) (S 32 (u + 1) - spTaken S (u + 1) n)) 40 (c + (u + 1)) (S 40 (c + (u + 1)) + spTaken S (u + 1) n) 40 b = _
      rw [sw_at]
      by_cases e : b = c + (u + 1)
      · rw [if_pos ⟨rfl, e⟩, if_pos e, e]
      · rw [if_neg (fun q => e q.2), if_neg e, sw_at, if_neg (by omega)]
    obtain ⟨h1, h2, h3⟩ := spFG_5 (c := c) u (n - spTaken S (u + 1) n * (u + 1)) (spF1 S (c + (u + 1)) (u + 1) (spTaken S (u + 1) n)) (by omega) e32
    refine ⟨h1, ?_, fun b hb => ?_⟩
    · rw [h2, e40]
      by_cases e : c + 5 = c + (u + 1)
      · rw [if_pos e, spTaken_0 S (u + 1) n (by rw [show u + 1 = 5 by omega]; exact h)]
        rfl
      · rw [if_neg e]
    · rw [h3 b hb, e40, if_neg (by omega)]
theorem spFillGap_row (S : jS) (l g n : Nat) {a b : Nat} (h : ¬ (a = 32 ∨ a = 40)) : spFillGap S l g n a b = S a b := spFG_row (fun e => h (Or.inl e)) (fun e => h (Or.inr e)) 6 n S
theorem Wf_fillGap {S : jS} (h : Wf S) {l g n : Nat} (hl : l < S 10 14) (hg : g ≤ S 38 l) : Wf (spFillGap S l g n) := by
  have hL := (h.2.2.1 l hl)
  obtain ⟨h1, h2, h3⟩ := spFG_5 (c := 448 * l + 7 * g) 6 n S (Nat.le_refl _) h.1.1.1.2.2.2.2.2.2
  have er : ∀ a b, ¬ (a = 32 ∨ a = 40) → spFillGap S l g n a b = S a b := fun a b hab => spFillGap_row S l g n hab
  have hc : WC (spFillGap S l g n) (fun w => lws S w (S 10 14)) := h.1.same (h.1.1.rows (fun b _ => er 10 b (by omega)) (by rw [h.1.1.1.2.2.2.2.2.2]; exact h1) (fun a b ha => er a b (by omega)) (fun s => by rw [er 27 s (by omega)]; exact h.1.1.2.2.2.1 s) (fun s => by rw [er 28 s (by omega)]; exact h.1.1.2.2.2.2.1 s)) (fun a b ha => er a b (by omega))
  refine h.keep5 (hc.toR (fun w => (lws_congr (fun b => er 35 b (by omega)) (fun b => er 36 b (by omega)) w).symm)) (fun a b hab => er a b (by omega)) (fun l' g' hl' hg' => ?_) (fun l' k hl' hk => ?_)
  · have h5 := (h.2.2.1 l' hl').2.2.2.2 g' hg'
    have hb := (h.2.2.1 l' hl').1
    by_cases e : l' = l ∧ g' = g
    · obtain ⟨e1, e2⟩ := e
      subst e1 e2
      exact h2.trans h5
    · refine (h3 _ ?_).trans h5
      have := hL.1
      rcases Nat.lt_trichotomy l' l with q | q | q <;> omega
  · rw [er 36 _ (by omega), er 27 _ (by omega)]
    exact h.2.1 l' k hl' hk
theorem Wf_zero {S : jS} (h : Wf S) (l k : Nat) : Wf (spZero S l k) := by
  have er : ∀ a b, ¬ a = 40 → spZero S l k a b = S a b := fun a b hab => by unfold spZero; rw [if_neg (by omega)]
  have hc : WC (spZero S l k) (fun w => lws S w (S 10 14)) := h.1.same (h.1.1.rows (fun b _ => er 10 b (by omega)) (er 32 5 (by omega)) (fun a b ha => er a b (by omega)) (fun s => by rw [er 27 s (by omega)]; exact h.1.1.2.2.2.1 s) (fun s => by rw [er 28 s (by omega)]; exact h.1.1.2.2.2.2.1 s)) (fun a b ha => er a b (by omega))
  refine h.keep5 (hc.toR (fun w => (lws_congr (fun b => er 35 b (by omega)) (fun b => er 36 b (by omega)) w).symm)) (fun a b hab => er a b (by omega)) (fun l' g' hl' hg' => ?_) (fun l' k' hl' hk => ?_)
  · unfold spZero
    split
    · rfl
    · exact (h.2.2.1 l' hl').2.2.2.2 g' hg'
  · rw [er 36 _ (by omega), er 27 _ (by omega)]
    exact h.2.1 l' k' hl' hk
theorem Wf_fills {S : jS} (h : Wf S) {l : Nat} {w : Nat → Nat} (hl : l < S 10 14) : ∀ g, g ≤ S 38 l → Wf (spFills l w g S)
  | 0, _ => h
  | g + 1, hg => by
    unfold spFills
    have ih := Wf_fills h (w := w) hl g (by omega)
    refine Wf_fillGap ih ?_ ?_
    · rw [spFills_row (by omega) (by omega)]; exact hl
    · rw [spFills_row (by omega) (by omega)]; omega
theorem Wf_fill {S : jS} (h : Wf S) {l : Nat} (hl : l < S 10 14) : Wf (spFill S l) := by
  unfold spFill
  have h0 := Wf_zero h l (448 * l + 7 * S 38 l + 7)
  split
  · exact h0
  · refine Wf_fillGap (Wf_fills h0 (show l < S 10 14 from hl) _ (show S 38 l ≤ S 38 l from Nat.le_refl _)) ?_ ?_
    · rw [spFills_row (by omega) (by omega)]; exact hl
    · rw [spFills_row (by omega) (by omega)]; exact Nat.le_refl _
theorem spFill_row (S : jS) (l : Nat) {a b : Nat} (h1 : ¬ a = 32) (h2 : ¬ a = 40) : spFill S l a b = S a b := by
  unfold spFill
  have e0 : spZero S l (448 * l + 7 * S 38 l + 7) a b = S a b := by unfold spZero; rw [if_neg (by omega)]
  split
  · exact e0
  · rw [spFillGap_row _ _ _ _ (by omega), spFills_row h1 h2, e0]
theorem Wf_empty {S : jS} (h : Wf S) {l : Nat} (hl : l < S 10 14) : Wf (spEmpty S l) := by
  have er : ∀ a b, ¬ (a = 32 ∨ a = 40) → spEmpty S l a b = S a b := fun a b hab => spEmpty_row S l hab
  exact h.keep (spEmpty_WC h.1 (h.2.2.1 l hl).2.2.2.2) (fun a b hab => er a b (by omega)) (fun b => spEmpty_40 S l b) (fun l' k hl' hk => by rw [er 27 _ (by omega)]; exact h.2.1 l' k hl' hk)
/-- one sort of a line put in another's place, the other one home -/
theorem Wf_swap {S S1 : jS} {l k s : Nat} (h : Wf S) (hl : l < S 10 14) (hk : k < S 35 l) (hc : WC S1 (fun w => lws S w (S 10 14) + w s)) (hr : ∀ a b, ¬ (a = 27 ∨ a = 28 ∨ a = 29 ∨ a = 30 ∨ a = 31 ∨ a = 10) → S1 a b = S a b) (h10 : ∀ b, b = 14 ∨ b = 24 → S1 10 b = S 10 b) (h27 : ∀ t, S1 27 t = S 27 t) : Wf (spHome (sw (sw S1 36 (64 * l + k) s) 27 s 1) (S 36 (64 * l + k))) := by
  have hlr := (h.2.2.1 l hl).1
  have e36 : ∀ b, sw (sw S1 36 (64 * l + k) s) 27 s 1 36 b = if b = 64 * l + k then s else S 36 b := fun b => by
    rw [sw_at, if_neg (by omega), sw_at]
    by_cases e : b = 64 * l + k
    · rw [if_pos ⟨rfl, e⟩, if_pos e]
    · rw [if_neg (fun q => e q.2), if_neg e, hr 36 b (by omega)]
  have er : ∀ a b, ¬ (a = 27 ∨ a = 36) → sw (sw S1 36 (64 * l + k) s) 27 s 1 a b = S1 a b := fun a b hab => by rw [sw_at, if_neg (by omega), sw_at, if_neg (by omega)]
  have hflight : ∀ l' k', l' < S 10 14 → k' < S 35 l' → ¬ S 36 (64 * l' + k') = s := fun l' k' hl' hk' e => by
    have h1 := hc.2.2.le1 s
    have h2 := Wf.lineR hl' hk'
    rw [e] at h2
    simp only [ind_self] at h1
    omega
  have hc2 : WC (sw S1 36 (64 * l + k) s) (fun w => lws S w (S 10 14) + w s) := hc.same hc.1 (fun a b hab => by rw [sw_at, if_neg (by omega)])
  have hc3 := hc2.mark (s := s) (v := 1) (by simp only [ind_self]; omega) (by omega)
  have hw : ∀ w, lws (sw (sw S1 36 (64 * l + k) s) 27 s 1) w (S 10 14) + w (S 36 (64 * l + k)) = lws S w (S 10 14) + w s := fun w => by
    have e35 : ∀ b, sw (sw S1 36 (64 * l + k) s) 27 s 1 35 b = S 35 b := fun b => by rw [er 35 b (by omega), hr 35 b (by omega)]
    have h1 := sumr_upd (f := fun j => lw S w j (S 35 j)) (g := fun j => lw (sw (sw S1 36 (64 * l + k) s) 27 s 1) w j (S 35 j)) hl (fun j hj hne => by
      unfold lw
      have hjr := (h.2.2.1 j hj).1
      exact sumr_eq _ (fun i hi => by rw [e36, if_neg (by omega)]))
    have h2 := sumr_upd (f := fun i => w (S 36 (64 * l + i))) (g := fun i => w (sw (sw S1 36 (64 * l + k) s) 27 s 1 36 (64 * l + i))) hk (fun j hj hne => by
      show w _ = w _
      rw [e36, if_neg (by omega)])
    have h3 : sw (sw S1 36 (64 * l + k) s) 27 s 1 36 (64 * l + k) = s := by rw [e36, if_pos rfl]
    have h4 : lws (sw (sw S1 36 (64 * l + k) s) 27 s 1) w (S 10 14) = sumr (fun j => lw (sw (sw S1 36 (64 * l + k) s) 27 s 1) w j (S 35 j)) 0 (S 10 14) := by
      unfold lws
      exact sumr_eq _ (fun j _ => by rw [e35])
    have h5 : lws S w (S 10 14) = sumr (fun j => lw S w j (S 35 j)) 0 (S 10 14) := rfl
    have h6 : lw S w l (S 35 l) = sumr (fun i => w (S 36 (64 * l + i))) 0 (S 35 l) := rfl
    have h7 : lw (sw (sw S1 36 (64 * l + k) s) 27 s 1) w l (S 35 l) = sumr (fun i => w (sw (sw S1 36 (64 * l + k) s) 27 s 1 36 (64 * l + i))) 0 (S 35 l) := rfl
    simp only [h3] at h2
    omega
  have hc4 := hc3.home (s := S 36 (64 * l + k)) (R' := fun w => lws (sw (sw S1 36 (64 * l + k) s) 27 s 1) w (S 10 14)) (fun w => (hw w).symm)
  have er2 : ∀ a b, ¬ (a = 27 ∨ a = 28 ∨ a = 29 ∨ a = 30) → spHome (sw (sw S1 36 (64 * l + k) s) 27 s 1) (S 36 (64 * l + k)) a b = sw (sw S1 36 (64 * l + k) s) 27 s 1 a b := fun a b hab => spHome_row hab
  have er3 : ∀ a b, a = 34 ∨ a = 35 ∨ a = 37 ∨ a = 38 ∨ a = 42 ∨ a = 40 ∨ (a = 10 ∧ (b = 14 ∨ b = 24)) → spHome (sw (sw S1 36 (64 * l + k) s) 27 s 1) (S 36 (64 * l + k)) a b = S a b := fun a b hab => by
    rw [er2 a b (by omega), er a b (by omega)]
    by_cases e : a = 10
    · subst e; exact h10 b (by omega)
    · exact hr a b (by omega)
  refine h.keep5 (hc4.toR (fun w => (lws_congr (fun b => er2 35 b (by omega)) (fun b => er2 36 b (by omega)) w).symm)) (fun a b hab => er3 a b (by omega)) (fun l' g hl' hg => ?_) (fun l' k' hl' hk' => ?_)
  · rw [er3 40 _ (by omega)]
    exact (h.2.2.1 l' hl').2.2.2.2 g hg
  · rw [er2 36 _ (by omega), e36]
    have hlr' := (h.2.2.1 l' hl').1
    by_cases e : 64 * l' + k' = 64 * l + k
    · rw [if_pos e, spHome_27 _ _ _ (fun q => hflight l k hl hk q.symm), sw_at, if_pos ⟨rfl, rfl⟩]
    · rw [if_neg e]
      have hne : ¬ S 36 (64 * l' + k') = S 36 (64 * l + k) := fun q => by
        obtain ⟨q1, q2⟩ := h.injL hl' hk' hl hk q
        exact e (by rw [q1, q2])
      rw [spHome_27 _ _ _ hne, sw_at, if_neg (fun q => hflight l' k' hl' hk' q.2), sw_at, if_neg (by omega), h27]
      exact h.2.1 l' k' hl' hk'

