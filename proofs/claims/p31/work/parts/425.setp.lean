/-! STEPS: a line being set (no machine) -/
def spStN (l f b c : Nat) (S : jS) : jS := sw (sw (sw (spPick S (29 * f + spBox c) f b) 36 (64 * l + S 35 l) (spTop S (spPickAt S (29 * f + spBox c) f b))) 37 (64 * l + S 35 l) (29 * f + spBox c)) 35 l (S 35 l + 1)
def spStG (l k : Nat) (S : jS) : jS := if S 33 (k - 1) = 32 then sw S 39 (64 * l + S 38 l) (S 35 l) else sw (sw S 39 (64 * l + S 38 l) (S 35 l)) 38 l (S 38 l + 1)
def spSgn (S : jS) (t k : Nat) : Nat := if k = t then 45 else S 33 k
def spSt (l f b t k : Nat) (S : jS) : jS := if spSgn S t k = 32 then spStG l k S else spStN l f b (spSgn S t k) S
/-- d signs from k on set: the box that is missing and 1 more, or 0; the state -/
def spSet (l f b t : Nat) : Nat → Nat → jS → Nat × jS
  | 0, _, S => (0, S)
  | d + 1, k, S => if ¬ spSgn S t k = 32 ∧ spPickAt S (29 * f + spBox (spSgn S t k)) f b = jNo then (spBox (spSgn S t k) + 1, S) else spSet l f b t d (k + 1) (spSt l f b t k S)
def SL (S S' : jS) (l : Nat) : Prop := ∀ a b, ¬ (a = 46 ∨ (a = 10 ∧ (b = 0 ∨ 29 ≤ b)) ∨ ((a = 35 ∨ a = 38) ∧ b = l) ∨ ((a = 36 ∨ a = 37 ∨ a = 39) ∧ 64 * l ≤ b)) → S' a b = S a b
def WS (S T : jS) (l f fr k : Nat) : Prop := WC T (fun w => lws S w l + lw T w l (T 35 l)) ∧ T 35 l + T 38 l + fr ≤ k ∧ (∀ a b, ¬ (a = 28 ∨ a = 30 ∨ a = 46 ∨ (a = 10 ∧ (b = 0 ∨ 29 ≤ b)) ∨ ((a = 35 ∨ a = 38) ∧ b = l) ∨ ((a = 36 ∨ a = 37 ∨ a = 39) ∧ 64 * l ≤ b)) → T a b = S a b) ∧ (∀ j, j < T 35 l → 29 * f ≤ T 37 (64 * l + j) ∧ T 37 (64 * l + j) < 29 * f + 29) ∧ (∀ k, k < 58 → T 46 k = S 30 k ∧ T 30 k ≤ S 30 k) ∧ (∀ k, 58 ≤ k → T 30 k = S 30 k) ∧ ∀ s, T 28 s = S 28 s ∨ ∃ k i, k < 58 ∧ T 30 k ≤ i ∧ i < S 30 k ∧ S 29 (300 * k + i) = s
theorem lw_s {S : jS} {w : Nat → Nat} {l n : Nat} : lw S w l (n + 1) = lw S w l n + w (S 36 (64 * l + n)) := sumr_s n
theorem spPick_eq {S : jS} {af f b : Nat} (h : ¬ spPickAt S af f b = jNo) : spPick S af f b = if 0 < S 30 af then spTake S (spPickAt S af f b) else sw (spTake S (spPickAt S af f b)) 28 (spTop S (spPickAt S af f b)) 1 := by
  unfold spPick
  by_cases c : 0 < S 30 af
  · rw [if_pos c, if_pos c, show spPickAt S af f b = af from if_pos c]
  · rw [if_neg c, if_neg c, if_neg h]
theorem spPick_row {S : jS} {af f b x y : Nat} (h : ¬ (x = 28 ∨ x = 30)) : spPick S af f b x y = S x y := by
  have e1 : ∀ k, spTake S k x y = S x y := fun k => by
    show sw S 30 k (S 30 k - 1) x y = _
    rw [sw_at, if_neg (by omega)]
  unfold spPick
  split
  · exact e1 _
  · split
    · rfl
    · rw [sw_at, if_neg (by omega)]
      exact e1 _
theorem spPick_30 {S : jS} {af f b k : Nat} (h : ¬ spPickAt S af f b = jNo) : spPick S af f b 30 k = if k = spPickAt S af f b then S 30 k - 1 else S 30 k := by
  rw [spPick_eq h]
  have e1 : ∀ j, spTake S j 30 k = if k = j then S 30 k - 1 else S 30 k := fun j => by
    show sw S 30 j (S 30 j - 1) 30 k = _
    rw [sw_at]
    by_cases e : k = j
    · rw [if_pos ⟨rfl, e⟩, if_pos e, e]
    · rw [if_neg (fun q => e q.2), if_neg e]
  split
  · exact e1 _
  · rw [sw_at, if_neg (by omega)]
    exact e1 _
theorem spPick_28 {S : jS} {af f b s : Nat} (h : ¬ spPickAt S af f b = jNo) (hs : ¬ s = spTop S (spPickAt S af f b)) : spPick S af f b 28 s = S 28 s := by
  rw [spPick_eq h]
  split
  · rfl
  · rw [sw_at, if_neg (fun q => hs q.2)]
    rfl
theorem spPick_WC {S : jS} {R : (Nat → Nat) → Nat} {af f b : Nat} (h : WC S R) (haf : af < 58) (hf : f < 2) (hn : ¬ spPickAt S af f b = jNo) : WC (spPick S af f b) (fun w => R w + w (spTop S (spPickAt S af f b))) := by
  obtain ⟨h1, h2⟩ := spPickAt_ok haf hf hn
  have h3 := h.take h1 h2
  rw [spPick_eq hn]
  split
  · exact h3
  · refine h3.turn ?_ (by omega)
    show 0 < R _ + ind _ _
    rw [ind_self]
    omega
theorem WS_N {S T : jS} {l f fr k b c : Nat} (h : WS S T l f fr k) (hf : f < 2) (hc : spBox c < 29) (hn : ¬ spPickAt T (29 * f + spBox c) f b = jNo) (hl : l < 12) (h60 : k < fr + 60) : WS S (spStN l f b c T) l f fr (k + 1) := by
  obtain ⟨h1, h2, h3, h4, h5, h5b, h6⟩ := h
  have hp := spPick_WC (af := 29 * f + spBox c) (b := b) h1 (by omega) hf hn
  obtain ⟨g1, g2⟩ := spPickAt_ok (S := T) (af := 29 * f + spBox c) (turns := b) (by omega) hf hn
  have er : ∀ x y, ¬ (x = 28 ∨ x = 30 ∨ (x = 35 ∧ y = l) ∨ ((x = 36 ∨ x = 37) ∧ y = 64 * l + T 35 l)) → spStN l f b c T x y = T x y := fun x y hxy => by
    unfold spStN
    rw [sw_at, if_neg (by omega), sw_at, if_neg (by omega), sw_at, if_neg (by omega), spPick_row (by omega)]
  have e35 : spStN l f b c T 35 l = T 35 l + 1 := by unfold spStN; rw [sw_at, if_pos ⟨rfl, rfl⟩]
  have e36 : spStN l f b c T 36 (64 * l + T 35 l) = spTop T (spPickAt T (29 * f + spBox c) f b) := by unfold spStN; rw [sw_at, if_neg (by omega), sw_at, if_neg (by omega), sw_at, if_pos ⟨rfl, rfl⟩]
  have e37 : spStN l f b c T 37 (64 * l + T 35 l) = 29 * f + spBox c := by unfold spStN; rw [sw_at, if_neg (by omega), sw_at, if_pos ⟨rfl, rfl⟩]
  have e30 : ∀ j, spStN l f b c T 30 j = if j = spPickAt T (29 * f + spBox c) f b then T 30 j - 1 else T 30 j := fun j => by
    unfold spStN
    rw [sw_at, if_neg (by omega), sw_at, if_neg (by omega), sw_at, if_neg (by omega), spPick_30 hn]
  have e28 : ∀ s, spStN l f b c T 28 s = spPick T (29 * f + spBox c) f b 28 s := fun s => by
    unfold spStN
    rw [sw_at, if_neg (by omega), sw_at, if_neg (by omega), sw_at, if_neg (by omega)]
  refine ⟨?_, ?_, fun x y hxy => ?_, fun j hj => ?_, fun j hj => ?_, fun j hj => ?_, fun s => ?_⟩
  · have hs : WC (spStN l f b c T) (fun w => lws S w l + lw T w l (T 35 l) + w (spTop T (spPickAt T (29 * f + spBox c) f b))) := by
      refine hp.same (hp.1.rows (fun x hx => ?_) ?_ (fun x y hxy => ?_) (fun s => ?_) (fun s => ?_)) (fun x y hxy => ?_)
      · unfold spStN; rw [sw_at, if_neg (by omega), sw_at, if_neg (by omega), sw_at, if_neg (by omega)]
      · unfold spStN; rw [sw_at, if_neg (by omega), sw_at, if_neg (by omega), sw_at, if_neg (by omega)]
      · unfold spStN; rw [sw_at, if_neg (by omega), sw_at, if_neg (by omega), sw_at, if_neg (by omega)]
      · unfold spStN; rw [sw_at, if_neg (by omega), sw_at, if_neg (by omega), sw_at, if_neg (by omega)]; exact hp.1.2.2.2.1 s
      · rw [e28]; exact hp.1.2.2.2.2.1 s
      · unfold spStN; rw [sw_at, if_neg (by omega), sw_at, if_neg (by omega), sw_at, if_neg (by omega)]
    refine hs.toR (fun w => ?_)
    rw [e35, lw_s, e36]
    have e9 : lw (spStN l f b c T) w l (T 35 l) = lw T w l (T 35 l) := sumr_eq _ (fun i hi => by rw [er 36 _ (by omega)])
    rw [e9]
    omega
  · rw [e35, er 38 l (by omega)]
    omega
  · rw [er x y (by omega)]
    exact h3 x y hxy
  · rw [e35] at hj
    by_cases e : j = T 35 l
    · rw [e, e37]; omega
    · rw [er 37 _ (by omega)]
      exact h4 j (by omega)
  · rw [er 46 j (by omega), e30]
    have := h5 j hj
    refine ⟨this.1, ?_⟩
    split <;> omega
  · rw [e30, if_neg (by omega)]
    exact h5b j hj
  · rw [e28]
    by_cases e : s = spTop T (spPickAt T (29 * f + spBox c) f b)
    · right
      have g3 := (h5 _ g1).2
      refine ⟨spPickAt T (29 * f + spBox c) f b, T 30 (spPickAt T (29 * f + spBox c) f b) - 1, g1, ?_, by omega, ?_⟩
      · rw [e30, if_pos rfl]
        exact Nat.le_refl _
      · rw [e]
        exact (h3 29 _ (by omega)).symm
    · rw [spPick_28 hn e]
      rcases h6 s with q | ⟨k1, i1, q1, q2, q3, q4⟩
      · exact Or.inl q
      · right
        refine ⟨k1, i1, q1, ?_, q3, q4⟩
        rw [e30]
        split <;> omega
theorem WS_G {S T : jS} {l f fr k : Nat} (h : WS S T l f fr k) (hl : l < 12) (h60 : k < fr + 60) : WS S (spStG l k T) l f fr (k + 1) := by
  obtain ⟨h1, h2, h3, h4, h5, h5b, h6⟩ := h
  have er : ∀ x y, ¬ ((x = 38 ∧ y = l) ∨ (x = 39 ∧ y = 64 * l + T 38 l)) → spStG l k T x y = T x y := fun x y hxy => by
    unfold spStG
    split
    · rw [sw_at, if_neg (by omega)]
    · rw [sw_at, if_neg (by omega), sw_at, if_neg (by omega)]
  have e38 : spStG l k T 38 l ≤ T 38 l + 1 := by
    unfold spStG
    split
    · rw [sw_at, if_neg (by omega)]; omega
    · rw [sw_at, if_pos ⟨rfl, rfl⟩]; exact Nat.le_refl _
  have e35 : spStG l k T 35 l = T 35 l := er 35 l (by omega)
  refine ⟨?_, ?_, fun x y hxy => ?_, fun j hj => ?_, fun j hj => ?_, fun j hj => ?_, fun s => ?_⟩
  · have hs : WC (spStG l k T) (fun w => lws S w l + lw T w l (T 35 l)) := by
      refine h1.same (h1.1.rows (fun x hx => er 10 x (by omega)) (er 32 5 (by omega)) (fun x y hxy => er x y (by omega)) (fun s => ?_) (fun s => ?_)) (fun x y hxy => er x y (by omega))
      · rw [er 27 s (by omega)]; exact h1.1.2.2.2.1 s
      · rw [er 28 s (by omega)]; exact h1.1.2.2.2.2.1 s
    refine hs.toR (fun w => ?_)
    rw [e35]
    have e9 : lw (spStG l k T) w l (T 35 l) = lw T w l (T 35 l) := sumr_eq _ (fun i hi => by rw [er 36 _ (by omega)])
    rw [e9]
  · rw [e35]; omega
  · rw [er x y (by omega)]
    exact h3 x y hxy
  · rw [e35] at hj
    rw [er 37 _ (by omega)]
    exact h4 j hj
  · rw [er 46 j (by omega), er 30 j (by omega)]
    exact h5 j hj
  · rw [er 30 j (by omega)]
    exact h5b j hj
  · rw [er 28 s (by omega)]
    rcases h6 s with q | ⟨k1, i1, q1, q2, q3, q4⟩
    · exact Or.inl q
    · refine Or.inr ⟨k1, i1, q1, ?_, q3, q4⟩
      rw [er 30 _ (by omega)]
      exact q2
/-- the state as a line begins to be set -/
def spBeg (S : jS) (f : Nat) : jS := sw (sw (spKeep (sw (spFT S (spBlanks S 0) (spTo S 0 f) (spSplit S 0 f)) 10 0 0)) 35 (S 10 14) 0) 38 (S 10 14) 0
theorem spBeg_row {S : jS} {f x y : Nat} (h : ¬ (x = 46 ∨ (x = 10 ∧ (y = 0 ∨ 29 ≤ y)) ∨ ((x = 35 ∨ x = 38) ∧ y = S 10 14))) : spBeg S f x y = S x y := by
  unfold spBeg spKeep spFT
  rw [sw_at, if_neg (by omega), sw_at, if_neg (by omega), if_neg (by omega), sw_at, if_neg (by omega), sw_at, if_neg (by omega), sw_at, if_neg (by omega), sw_at, if_neg (by omega)]
theorem WS_beg {S : jS} (h : Wf S) {f : Nat} : WS S (spBeg S f) (S 10 14) f (spBlanks S 0) (spBlanks S 0) := by
  have e35 : spBeg S f 35 (S 10 14) = 0 := by unfold spBeg; rw [sw_at, if_neg (by omega), sw_at, if_pos ⟨rfl, rfl⟩]
  have e38 : spBeg S f 38 (S 10 14) = 0 := by unfold spBeg; rw [sw_at, if_pos ⟨rfl, rfl⟩]
  have er : ∀ x y, ¬ (x = 46 ∨ (x = 10 ∧ (y = 0 ∨ 29 ≤ y)) ∨ ((x = 35 ∨ x = 38) ∧ y = S 10 14)) → spBeg S f x y = S x y := fun x y hxy => spBeg_row hxy
  refine ⟨?_, by rw [e35, e38]; omega, fun x y hxy => er x y (by omega), fun j hj => by rw [e35] at hj; omega, fun j hj => ⟨?_, ?_⟩, fun j hj => er 30 j (by omega), fun s => Or.inl (er 28 s (by omega))⟩
  · have hs : WC (spBeg S f) (fun w => lws S w (S 10 14)) := by
      refine h.1.same (h.1.1.rows (fun x hx => er 10 x (by omega)) (er 32 5 (by omega)) (fun x y hxy => er x y (by omega)) (fun s => ?_) (fun s => ?_)) (fun x y hxy => er x y (by omega))
      · rw [er 27 s (by omega)]; exact h.1.1.2.2.2.1 s
      · rw [er 28 s (by omega)]; exact h.1.1.2.2.2.2.1 s
    refine hs.toR (fun w => ?_)
    rw [e35]
    rfl
  · unfold spBeg
    rw [sw_at, if_neg (by omega), sw_at, if_neg (by omega)]
    unfold spKeep
    rw [if_pos ⟨rfl, hj⟩]
    show sw (spFT S _ _ _) 10 0 0 30 j = _
    rw [sw_at, if_neg (by omega)]
    unfold spFT
    rw [sw_at, if_neg (by omega), sw_at, if_neg (by omega), sw_at, if_neg (by omega)]
  · rw [er 30 j (by omega)]
    exact Nat.le_refl _
