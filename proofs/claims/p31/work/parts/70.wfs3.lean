/-! THE INVARIANT, call by call: cast -/
theorem WC.heapLt {S : jS} {R : (Nat → Nat) → Nat} (h : WC S R) {i : Nat} (hi : i < S 10 9) : S 31 i < S 10 1 := by
  have h1 := h.2.2 (ind (S 31 i))
  have h2 := hws_ge (S := S) (w := ind (S 31 i)) hi
  rw [ind_self] at h2
  rw [lvs_ind] at h1
  by_cases e : S 31 i < S 10 1 ∧ ¬ S 27 (S 31 i) = 3
  · exact e.1
  · rw [if_neg e] at h1; omega
theorem WC.pileLt {S : jS} {R : (Nat → Nat) → Nat} (h : WC S R) {k i : Nat} (hk : k < 58) (hi : i < S 30 k) : S 29 (300 * k + i) < S 10 1 := by
  have h1 := h.2.2 (ind (S 29 (300 * k + i)))
  have h2 := pws_ge (S := S) (w := ind (S 29 (300 * k + i))) hk hi
  rw [ind_self] at h2
  rw [lvs_ind] at h1
  by_cases e : S 29 (300 * k + i) < S 10 1 ∧ ¬ S 27 (S 29 (300 * k + i)) = 3
  · exact e.1
  · rw [if_neg e] at h1; omega
def spNew (S : jS) (k : Nat) : jS := sw (sw (sw (sw S 25 (S 10 1) k) 27 (S 10 1) 0) 28 (S 10 1) 0) 10 1 (S 10 1 + 1)
theorem WC.new {S : jS} {R : (Nat → Nat) → Nat} (h : WC S R) {k : Nat} (hk : k < 58) (hn : S 10 1 < 300) : WC (spNew S k) (fun w => R w + w (S 10 1)) := by
  obtain ⟨⟨a1, a2, a3, a4, a5, a6, a7⟩, hT, hF, c1, c2, c3, c4, c5, c6⟩ := h.1
  have er : ∀ a b, ¬ (a = 25 ∨ a = 27 ∨ a = 28 ∨ (a = 10 ∧ b = 1)) → spNew S k a b = S a b := fun a b hab => by
    unfold spNew
    rw [sw_at, if_neg (by omega), sw_at, if_neg (by omega), sw_at, if_neg (by omega), sw_at, if_neg (by omega)]
  have e1 : spNew S k 10 1 = S 10 1 + 1 := by unfold spNew; rw [sw_at, if_pos ⟨rfl, rfl⟩]
  have e25 : ∀ t, spNew S k 25 t = if t = S 10 1 then k else S 25 t := fun t => by unfold spNew; simp [sw_at]
  have e27 : ∀ t, spNew S k 27 t = if t = S 10 1 then 0 else S 27 t := fun t => by unfold spNew; simp [sw_at]
  have e28 : ∀ t, spNew S k 28 t = if t = S 10 1 then 0 else S 28 t := fun t => by unfold spNew; simp [sw_at]
  refine ⟨⟨⟨?_, ?_, ?_, ?_, ?_, ?_, ?_⟩, ⟨?_, fun k => ?_, fun k hk => ?_⟩, fun s => ?_, fun s => ?_, fun s => ?_, fun k => ?_, fun k => ?_, fun k => ?_, fun k hk => ?_⟩, ⟨fun j i hj hi => ?_, fun i hi => ?_⟩, fun w => ?_⟩
  · rw [e1]; omega
  · rw [er 10 14 (by omega)]; exact a2
  · rw [er 10 24 (by omega)]; exact a3
  · rw [er 10 28 (by omega)]; exact a4
  · rw [er 10 13 (by omega)]; exact a5
  · rw [er 10 13 (by omega)]; exact a6
  · rw [er 32 5 (by omega)]; exact a7
  · rw [er 10 12 (by omega)]; exact hT.1
  · rw [er 33 k (by omega)]; exact hT.2.1 k
  · rw [er 10 12 (by omega)] at hk
    rw [er 33 k (by omega)]; exact hT.2.2 k hk
  · rw [e25]
    split
    · exact hk
    · exact hF s
  · rw [e27]
    split
    · omega
    · exact c1 s
  · rw [e28]
    split
    · omega
    · exact c2 s
  · rw [er 41 k (by omega)]; exact c3 k
  · rw [er 45 k (by omega)]; exact c4 k
  · rw [er 43 k (by omega)]; exact c5 k
  · rw [er 10 24 (by omega)] at hk
    rw [er 43 k (by omega)]; exact c6 k hk
  · rw [er 30 j (by omega)] at hi
    rw [er 29 _ (by omega), e27, e28]
    have := h.pileLt hj hi
    rw [if_neg (by omega), if_neg (by omega)]
    exact h.2.1.1 j i hj hi
  · rw [er 10 9 (by omega)] at hi
    rw [er 31 _ (by omega), e27, e28]
    have := h.heapLt hi
    rw [if_neg (by omega), if_neg (by omega)]
    exact h.2.1.2 i hi
  · have p1 : pws (spNew S k) w = pws S w := by
      unfold pws pw
      simp only [fun b => er 30 b (by omega), fun b => er 29 b (by omega)]
    have p2 : hws (spNew S k) w = hws S w := by
      unfold hws
      simp only [er 10 9 (by omega), fun b => er 31 b (by omega)]
    have p3 : lvs (spNew S k) w = lvs S w + w (S 10 1) := by
      unfold lvs
      rw [e1, sumr_s, e27, if_pos rfl, if_neg (by omega)]
      rw [sumr_eq (g := fun s => if S 27 s = 3 then 0 else w s) (S 10 1) (fun s hs => by rw [e27, if_neg (show ¬ s = S 10 1 by omega)])]
    have p4 := h.2.2 w
    rw [p1, p2, p3]
    show pws S w + hws S w + (R w + w (S 10 1)) = lvs S w + w (S 10 1)
    omega
theorem spCastOne_new (S : jS) (k : Nat) : spCastOne S k = spPut (spNew S k) k (S 10 1) := by
  refine sw_congr (fun a b => ?_)
  unfold spCastOne spPut spNew
  simp only [sw_at]
  grind
theorem Wf.castOne {S : jS} (h : Wf S) {k : Nat} (hk : k < 58) (hn : S 10 1 < 300) : Wf (spCastOne S k) := by
  rw [spCastOne_new]
  have er : ∀ a b, ¬ (a = 25 ∨ a = 27 ∨ a = 28 ∨ a = 29 ∨ a = 30 ∨ (a = 10 ∧ b = 1)) → spPut (spNew S k) k (S 10 1) a b = S a b := fun a b hab => by
    rw [spPut_row _ _ _ (by omega)]
    unfold spNew
    rw [sw_at, if_neg (by omega), sw_at, if_neg (by omega), sw_at, if_neg (by omega), sw_at, if_neg (by omega)]
  refine h.keep ((h.1.new hk hn).put hk (fun w => rfl)) (fun a b hab => er a b (by omega)) (fun b => Or.inr (er 40 b (by omega))) (fun l i hl hi => ?_)
  have h1 := h.2.1 l i hl hi
  have h2 := h.inLine hl hi
  rw [spPut_27, if_neg (by omega)]
  unfold spNew
  rw [sw_at, if_neg (by omega), sw_at, if_neg (by omega), sw_at, if_neg (by omega), sw_at, if_neg (by omega)]
  exact h1
theorem Wf.cast {k : Nat} (hk : k < 58) : ∀ (n : Nat) {S : jS}, Wf S → S 10 1 + n ≤ 300 → Wf (spCast k n S)
  | 0, _, h, _ => h
  | n + 1, S, h, hn => by
    have e1 : spCastOne S k 10 1 = S 10 1 + 1 := by unfold spCastOne; rw [sw_at, if_pos ⟨rfl, rfl⟩]
    exact Wf.cast hk n (h.castOne hk (by omega)) (by rw [e1]; omega)

