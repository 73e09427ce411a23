/-! PURE: beside Wf: what lies in a box is of the box's case (PF), what is melted isn't turned and is worn (ML) -/
def PF (S : jS) : Prop := ∀ k i, k < 58 → i < S 30 k → S 25 (S 29 (300 * k + i)) / 29 = k / 29
def ML (S : jS) : Prop := ∀ s, s < S 10 1 → S 27 s = 3 → S 28 s = 0 ∧ ¬ nI (S 26 s) < nI 12
def PM (S : jS) : Prop := PF S ∧ ML S
theorem PM.same {S S' : jS} (h : PM S) (hr : ∀ a b, (a = 10 ∧ b = 1) ∨ (25 ≤ a ∧ a ≤ 30) → S' a b = S a b) : PM S' := by
  have e : ∀ a, 25 ≤ a → a ≤ 30 → ∀ b, S' a b = S a b := fun a h1 h2 b => hr a b (Or.inr ⟨h1, h2⟩)
  refine ⟨fun k i hk hi => ?_, fun s hs h3 => ?_⟩
  · rw [e 30 (by omega) (by omega)] at hi
    rw [e 29 (by omega) (by omega), e 25 (by omega) (by omega)]
    exact h.1 k i hk hi
  · rw [hr 10 1 (Or.inl ⟨rfl, rfl⟩)] at hs
    rw [e 27 (by omega) (by omega)] at h3
    rw [e 28 (by omega) (by omega), e 26 (by omega) (by omega)]
    exact h.2 s hs h3
theorem PM.put {S : jS} {k s : Nat} (h : PM S) (hf : S 25 s / 29 = k / 29) (hc : ∀ j, j < 58 → S 30 j ≤ 300) (hk3 : S 30 k < 300) : PM (spPut S k s) := by
  refine ⟨fun j i hj hi => ?_, fun t ht h3 => ?_⟩
  · rw [spPut_30] at hi
    rw [spPut_29, spPut_row S k s (a := 25) (by omega)]
    have := hc j hj
    by_cases e : j = k
    · subst e
      rw [if_pos rfl] at hi
      by_cases e2 : i = S 30 j
      · rw [if_pos (by rw [e2])]; exact hf
      · rw [if_neg (by omega)]; exact h.1 j i hj (by omega)
    · rw [if_neg e] at hi
      rw [if_neg (by omega)]; exact h.1 j i hj hi
  · rw [spPut_row S k s (a := 10) (by omega)] at ht
    rw [spPut_27] at h3
    rw [spPut_28, spPut_row S k s (a := 26) (by omega)]
    by_cases e : t = s
    · rw [if_pos e] at h3; omega
    · rw [if_neg e] at h3 ⊢
      exact h.2 t ht h3
theorem PM.take {S : jS} {k : Nat} (h : PM S) : PM (spTake S k) := by
  refine ⟨fun j i hj hi => ?_, h.2⟩
  have e : spTake S k 30 j = if j = k then S 30 k - 1 else S 30 j := by unfold spTake; rw [sw_at]; by_cases c : j = k <;> simp [c]
  have hi2 : i < S 30 j := by
    rw [e] at hi
    by_cases c : j = k
    · rw [if_pos c] at hi; rw [c]; omega
    · rw [if_neg c] at hi; exact hi
  exact h.1 j i hj hi2
theorem PM.melt {S : jS} {s : Nat} (h : PM S) (hm : ¬ nI (S 26 s) < nI 12) : PM (sw (sw S 28 s 0) 27 s 3) := by
  refine ⟨h.1, fun t ht h3 => ?_⟩
  have e28 : sw (sw S 28 s 0) 27 s 3 28 t = if t = s then 0 else S 28 t := by simp [sw_at]
  have e27 : sw (sw S 28 s 0) 27 s 3 27 t = if t = s then 3 else S 27 t := by simp [sw_at]
  have e26 : sw (sw S 28 s 0) 27 s 3 26 t = S 26 t := by simp [sw_at]
  rw [e27] at h3
  rw [e28, e26]
  by_cases e : t = s
  · rw [if_pos e, e]; exact ⟨rfl, hm⟩
  · rw [if_neg e] at h3 ⊢; exact h.2 t ht h3
theorem PM.home {S : jS} {s : Nat} (h : PM S) (hF : FOK S) (hc : ∀ j, j < 58 → S 30 j < 300) : PM (spHome S s) := by
  rw [spHome_eq]
  by_cases e : nI (S 26 s) < nI 12
  · rw [if_pos e]; exact h.put rfl (fun j hj => Nat.le_of_lt (hc j hj)) (hc _ (hF s))
  · rw [if_neg e]; exact h.melt e
theorem PM.mark {S : jS} {s v : Nat} (h : PM S) (hv : ¬ v = 3) : PM (sw S 27 s v) := by
  refine ⟨h.1, fun t ht h3 => ?_⟩
  have e27 : sw S 27 s v 27 t = if t = s then v else S 27 t := by simp [sw_at]
  rw [e27] at h3
  by_cases e : t = s
  · rw [if_pos e] at h3; exact absurd h3 hv
  · rw [if_neg e] at h3; exact h.2 t ht h3
theorem PM.toHeap {S : jS} {s : Nat} (h : PM S) : PM (spToHeap S s) := by
  refine ⟨fun k i hk hi => ?_, fun t ht h3 => ?_⟩
  · rw [spToHeap_row S s (a := 30) (by omega)] at hi
    rw [spToHeap_row S s (a := 29) (by omega), spToHeap_row S s (a := 25) (by omega)]
    exact h.1 k i hk hi
  · rw [spToHeap_row S s (a := 10) (by omega)] at ht
    rw [spToHeap_27] at h3
    rw [spToHeap_28, spToHeap_row S s (a := 26) (by omega)]
    by_cases e : t = s
    · rw [if_pos e] at h3; omega
    · rw [if_neg e] at h3 ⊢
      exact h.2 t ht h3
theorem PM.offHeap {S : jS} {p : Nat} (h : PM S) : PM (spOffHeap S p) := h.same (fun a b hab => spOffHeap_row S p (by omega))
theorem WC.lt {S : jS} {R : (Nat → Nat) → Nat} (h : WC S R) (h1 : 1 ≤ R (fun _ => 1) ∨ 1 ≤ S 10 9) : ∀ j, j < 58 → S 30 j < 300 := fun j hj => by
  have q1 := h.2.2.cnt hj
  have q2 := h.1.1.1
  omega
theorem spHomes_PM {l : Nat} {X : (Nat → Nat) → Nat} : ∀ (n : Nat) (S : jS), WC S (fun w => X w + lw S w l n) → PM S → PM (spHomes l n S)
  | 0, S, _, hp => hp
  | n + 1, S, h, hp => by
    unfold spHomes
    refine spHomes_PM (X := X) n _ ?_ ?_
    · refine (h.home (s := S 36 (64 * l + n)) (R' := fun w => X w + lw S w l n) (fun w => ?_)).toR (fun w => ?_)
      · show X w + sumr (fun k => w (S 36 (64 * l + k))) 0 (n + 1) = _
        rw [sumr_s]
        exact (Nat.add_assoc _ _ _).symm
      · unfold lw
        simp only [spHome_row (S := S) (s := S 36 (64 * l + n)) (a := 36) (by omega)]
    · refine hp.home h.1.2.2.1 (h.lt (Or.inl ?_))
      show 1 ≤ X (fun _ => 1) + sumr (fun k => (fun _ => 1) (S 36 (64 * l + k))) 0 (n + 1)
      rw [sumr_s]
      exact Nat.le_trans (Nat.le_add_left 1 _) (Nat.le_add_left _ _)
theorem spHeaps_PM {l : Nat} {S : jS} (h : PM S) : ∀ n, PM (spHeaps l n S)
  | 0 => h
  | n + 1 => (spHeaps_PM h n).toHeap
theorem PM.empty {S : jS} {l : Nat} (h : PM S) : PM (spEmpty S l) := h.same (fun a b hab => spEmpty_row S l (by omega))
theorem PM.drop {S : jS} {l : Nat} (h : PM S) : PM (spDrop S l) := h.same (fun a b hab => spDrop_row S l (by omega))
theorem PM.fill {S : jS} {l : Nat} (h : PM S) : PM (spFill S l) := h.same (fun a b hab => spFill_row S l (by omega) (by omega))
theorem PM_back {S : jS} (hW : Wf S) (h : PM S) {l : Nat} (hl : l < S 10 14) : PM (spBack S l) := (spHomes_PM _ _ (hW.split hl) h).empty.drop
theorem PM_fall {S : jS} (h : PM S) {l : Nat} : PM (spFall S l) := (spHeaps_PM h _).empty.drop
theorem PM_sp1 {S : jS} (hW : Wf S) (h : PM S) (h0 : 0 < S 10 9) : PM (spHome (spOffHeap S 0) (S 31 0)) := by
  have q := hW.1.lt (Or.inr h0)
  exact h.offHeap.home (fun s => by rw [spOffHeap_row S 0 (by omega)]; exact hW.1.1.2.2.1 s) (fun j hj => by rw [spOffHeap_row S 0 (by omega)]; exact q j hj)
theorem PM_foul {S : jS} (hW : Wf S) (h : PM S) {k j : Nat} (hk : k < 58) (hj : j < 58) (h0 : 0 < S 30 k) (hf : k / 29 = j / 29) : PM (spPut (spTake S k) j (spTop S k)) := by
  have q := (hW.1.take hk h0).lt (Or.inl (by show 1 ≤ _ + 1; omega))
  refine h.take.put ?_ (fun i hi => Nat.le_of_lt (q i hi)) (q j hj)
  show S 25 (spTop S k) / 29 = j / 29
  rw [← hf]
  exact h.1 k (S 30 k - 1) hk (by omega)
theorem PM_got {S : jS} (h : PM S) {w : Nat} : PM (spGot S w) := by
  unfold spGot
  split
  · exact h.take
  · exact h.offHeap
theorem spGot_30 {S : jS} {w j : Nat} : spGot S w 30 j ≤ S 30 j := by
  unfold spGot
  split
  · unfold spTake
    rw [sw_at]
    split
    · rename_i c; rw [c.2]; omega
    · exact Nat.le_refl _
  · rw [spOffHeap_row S _ (by omega)]
    exact Nat.le_refl _
theorem spGot_25 {S : jS} {w s : Nat} : spGot S w 25 s = S 25 s := by
  unfold spGot
  split
  · rfl
  · rw [spOffHeap_row S _ (by omega)]
theorem PM_mid {S : jS} (hW : Wf S) (h : PM S) {l k : Nat} (hl : l < S 10 14) (hk : k < S 35 l) : PM (spMid S l k) := by
  unfold spMid
  have h1 : PM (sw (spGot S (S 37 (64 * l + k))) 36 (64 * l + k) (spNext S (S 37 (64 * l + k)))) := (PM_got h).same (fun a b hab => by rw [sw_at, if_neg (by omega)])
  refine (h1.mark (by omega)).home (fun s => ?_) (fun j hj => ?_)
  · rw [sw_at, if_neg (by omega), sw_at, if_neg (by omega), spGot_25]
    exact hW.1.1.2.2.1 s
  · rw [sw_at, if_neg (by omega), sw_at, if_neg (by omega)]
    have q1 := hW.cnt hl hj
    have q2 := hW.1.1.1.1
    have q3 := spGot_30 (S := S) (w := S 37 (64 * l + k)) (j := j)
    omega
theorem PM_mendF {S : jS} (hW : Wf S) (h : PM S) {l k : Nat} (hl : l < S 10 14) (hk : k < S 35 l) : PM (spMendF S l k) := by
  have h1 : PM (spMend S l k) := by
    rw [spMend_eq]
    exact (PM_mid hW h hl hk).empty.fill
  unfold spMendF
  split
  · exact h1
  · exact h1.same (fun a b hab => by rw [sw_at, if_neg (by omega)])
theorem PM_SP : ∀ (d h : Nat) {S : jS}, Wf S → PM S → PM (spSP d h S).2
  | 0, _, _, _, hp => hp
  | d + 1, h, S, hW, hp => by
    unfold spSP
    split
    · rename_i h0
      exact PM_SP d _ (Wf_sp1 hW h0) (PM_sp1 hW hp h0)
    · exact hp
theorem PM_UL {f : Nat} : ∀ (d l h : Nat) {S : jS}, Wf S → PM S → PM (spUL f d l h S).2
  | 0, _, _, _, _, hp => hp
  | d + 1, l, h, S, hW, hp => by
    unfold spUL
    split
    · rename_i h0
      split
      · exact PM_UL d l _ (Wf_back hW h0) (PM_back hW hp h0)
      · exact PM_UL d (l + 1) h hW hp
    · exact hp
theorem PM_LF {f : Nat} : ∀ (d l h : Nat) {S : jS}, PM S → PM (spLF f d l h S).2
  | 0, _, _, _, hp => hp
  | d + 1, l, h, S, hp => by
    have hp2 : PM (sw S 42 l jNo) := hp.same (fun a b hab => by rw [sw_at, if_neg (by omega)])
    unfold spLF
    split
    · split
      · split
        · exact PM_LF d (l + 1) h hp2
        · exact PM_LF d l _ (PM_fall hp2)
      · exact PM_LF d (l + 1) h hp
    · exact hp
theorem PM_castOne {S : jS} (hW : Wf S) (h : PM S) {k : Nat} (hk : k < 58) (hn : S 10 1 < 300) : PM (spCastOne S k) := by
  have hc : ∀ j, j < 58 → S 30 j ≤ S 10 1 := fun j hj => by have := hW.1.2.2.cnt hj; omega
  rw [spCastOne_new]
  have e25 : ∀ s, spNew S k 25 s = if s = S 10 1 then k else S 25 s := fun s => by unfold spNew; simp [sw_at]
  have e30 : ∀ j, spNew S k 30 j = S 30 j := fun j => by unfold spNew; simp [sw_at]
  have e29 : ∀ j, spNew S k 29 j = S 29 j := fun j => by unfold spNew; simp [sw_at]
  have e27 : ∀ s, spNew S k 27 s = if s = S 10 1 then 0 else S 27 s := fun s => by unfold spNew; simp [sw_at]
  have e28 : ∀ s, spNew S k 28 s = if s = S 10 1 then 0 else S 28 s := fun s => by unfold spNew; simp [sw_at]
  have e26 : ∀ s, spNew S k 26 s = S 26 s := fun s => by unfold spNew; simp [sw_at]
  have e1 : spNew S k 10 1 = S 10 1 + 1 := by unfold spNew; simp [sw_at]
  have h1 : PM (spNew S k) := by
    refine ⟨fun j i hj hi => ?_, fun s hs h3 => ?_⟩
    · rw [e30] at hi
      rw [e29, e25, if_neg (by have := hW.1.pileLt hj hi; omega)]
      exact h.1 j i hj hi
    · rw [e1] at hs
      rw [e27] at h3
      rw [e28, e26]
      by_cases e : s = S 10 1
      · rw [if_pos e] at h3; omega
      · rw [if_neg e] at h3 ⊢
        exact h.2 s (by omega) h3
  refine h1.put (by rw [e25, if_pos rfl]) (fun j hj => by rw [e30]; have := hc j hj; omega) (by rw [e30]; have := hc k hk; omega)
theorem spCastOne_1 (S : jS) (k : Nat) : spCastOne S k 10 1 = S 10 1 + 1 := by unfold spCastOne; rw [sw_at, if_pos ⟨rfl, rfl⟩]
theorem PM_cast {k : Nat} (hk : k < 58) : ∀ (n : Nat) {S : jS}, Wf S → PM S → S 10 1 + n ≤ 300 → PM (spCast k n S)
  | 0, _, _, hp, _ => hp
  | n + 1, S, hW, hp, hn => by
    unfold spCast
    exact PM_cast hk n (hW.castOne hk (by omega)) (PM_castOne hW hp hk (by omega)) (by rw [spCastOne_1]; omega)
theorem spCast_1 {k : Nat} : ∀ (n : Nat) (S : jS), spCast k n S 10 1 = S 10 1 + n
  | 0, _ => rfl
  | n + 1, S => by
    unfold spCast
    rw [spCast_1 n, spCastOne_1]
    omega
theorem spCast_row {k a b : Nat} (h : ¬ (a = 25 ∨ a = 27 ∨ a = 28 ∨ a = 29 ∨ a = 30 ∨ (a = 10 ∧ b = 1))) : ∀ (n : Nat) (S : jS), spCast k n S a b = S a b
  | 0, _ => rfl
  | n + 1, S => by
    unfold spCast
    rw [spCast_row h n]
    unfold spCastOne
    rw [sw_at, if_neg (by omega), spPut_row _ _ _ (by omega), sw_at, if_neg (by omega)]
/-! proofs: what is melted isn't printed -/
theorem spInk_26 (S : jS) (s t : Nat) : spInk S s 26 t = if t = s then S 26 s + 1 else S 26 t := by
  unfold spInk
  rw [sw_at]
  by_cases e : t = s
  · rw [if_pos ⟨rfl, e⟩, if_pos e]
  · rw [if_neg (fun q => e q.2), if_neg e, spShow_row _ _ (by omega)]
theorem spPrL_26n {l : Nat} (S : jS) {s : Nat} : ∀ k, (∀ i, i < k → ¬ S 36 (64 * l + i) = s) → (spPrL l k S).2 26 s = S 26 s
  | 0, _ => rfl
  | k + 1, h => by
    have ih := spPrL_26n S k (fun i hi => h i (by omega))
    have hs : ¬ s = S 36 (64 * l + k) := fun q => h k (by omega) q.symm
    unfold spPrL
    split
    · show spInk _ _ 26 s = _
      rw [spInk_26, if_neg hs]
      split
      · rw [spShow_row _ _ (by omega)]; exact ih
      · exact ih
    · show spInk _ _ 26 s = _
      rw [spInk_26, if_neg hs]; exact ih
theorem spPrA_26n {f : Nat} (S : jS) {s : Nat} : ∀ l, (∀ j i, j < l → i < S 35 j → ¬ S 36 (64 * j + i) = s) → spPrA f l S 26 s = S 26 s
  | 0, _ => rfl
  | l + 1, h => by
    have ih := spPrA_26n (f := f) S l (fun j i hj hi => h j i (by omega) hi)
    unfold spPrA
    split
    · rw [spPrL_26n _ _ (fun i hi => by rw [spPrA_row S (by omega)]; exact h l i (by omega) hi)]
      exact ih
    · exact ih
theorem PM_proof {S : jS} (hW : Wf S) (h : PM S) {f x v : Nat} : PM (sw (spPrA f (S 10 14) (sw (sw S 10 0 0) 10 28 0)) 44 x v) := by
  have er : ∀ a b, ¬ (a = 44 ∨ a = 45 ∨ a = 26 ∨ (a = 10 ∧ (b = 28 ∨ b = 0))) → sw (spPrA f (S 10 14) (sw (sw S 10 0 0) 10 28 0)) 44 x v a b = S a b := fun a b hab => by
    rw [sw_at, if_neg (by omega), spPrA_row _ (by omega), sw_at, if_neg (by omega), sw_at, if_neg (by omega)]
  refine ⟨fun k i hk hi => ?_, fun s hs h3 => ?_⟩
  · rw [er 30 _ (by omega)] at hi
    rw [er 29 _ (by omega), er 25 _ (by omega)]
    exact h.1 k i hk hi
  · rw [er 10 1 (by omega)] at hs
    rw [er 27 s (by omega)] at h3
    rw [er 28 s (by omega)]
    have e26 : sw (spPrA f (S 10 14) (sw (sw S 10 0 0) 10 28 0)) 44 x v 26 s = S 26 s := by
      rw [sw_at, if_neg (by omega), spPrA_26n _ _ (fun j i hj hi => ?_)]
      · rfl
      · intro e
        have e2 : S 27 (S 36 (64 * j + i)) = 1 := hW.2.1 j i hj hi
        have e3 : S 36 (64 * j + i) = s := e
        rw [e3] at e2
        omega
    rw [e26]
    exact h.2 s hs h3
/-- a line that is set -/
theorem PM_set {S T : jS} {f fr k t : Nat} (hW : Wf S) (h : PM S) (hS : WS S T (S 10 14) f fr k) : PM (spSetEnd T (S 10 14) f t) := by
  have er : ∀ a b, ¬ (a = 32 ∨ a = 40 ∨ a = 27 ∨ a = 33 ∨ (a = 10 ∧ (b = 12 ∨ b = 14)) ∨ a = 34 ∨ a = 42 ∨ a = 41) → spSetEnd T (S 10 14) f t a b = T a b := fun a b hab => by
    unfold spSetEnd
    rw [spFill_row _ _ (by omega) (by omega), spEndC_row (by omega)]
  have e27 : ∀ s, spSetEnd T (S 10 14) f t 27 s = spMarks (S 10 14) (T 35 (S 10 14)) T 27 s := fun s => by
    unfold spSetEnd
    rw [spFill_row _ _ (by omega) (by omega)]
    unfold spEndC spEndB spEndA spCutT spCutK
    simp [sw_at]
  obtain ⟨h1, h2, h3, h4, h5, h5b, h6⟩ := hS
  refine ⟨fun j i hj hi => ?_, fun s hs hs3 => ?_⟩
  · rw [er 30 _ (by omega)] at hi
    rw [er 29 _ (by omega), er 25 _ (by omega), h3 29 _ (by omega), h3 25 _ (by omega)]
    exact h.1 j i hj (Nat.lt_of_lt_of_le hi (h5 j hj).2)
  · rw [er 10 1 (by omega), h3 10 1 (by omega)] at hs
    rw [e27] at hs3
    rw [er 28 _ (by omega), er 26 _ (by omega), h3 26 _ (by omega)]
    rcases spMarks_27 (l := S 10 14) (S := T) (s := s) (T 35 (S 10 14)) with ⟨q, -⟩ | ⟨q, -⟩
    · omega
    · rw [q, h3 27 _ (by omega)] at hs3
      have hm := h.2 s hs hs3
      rcases h6 s with q | ⟨k1, i1, q1, -, q3, q4⟩
      · rw [q]; exact hm
      · have := (hW.1.2.1.1 k1 i1 q1 q3).1
        rw [q4] at this
        omega
