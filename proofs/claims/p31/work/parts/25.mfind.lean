/-! THE REFERENCE: findLine -/
theorem scan_ge {p : Nat → Bool} : ∀ (d k : Nat), k ≤ scan p d k
  | 0, _ => Nat.le_refl _
  | d + 1, k => by
    unfold scan
    split
    · exact Nat.le_trans (Nat.le_succ k) (scan_ge d (k + 1))
    · exact Nat.le_refl _
theorem scan_le {p : Nat → Bool} : ∀ (d k : Nat), scan p d k ≤ k + d
  | 0, _ => Nat.le_refl _
  | d + 1, k => by
    unfold scan
    split
    · have := scan_le (p := p) d (k + 1)
      omega
    · omega
theorem scan_all {p : Nat → Bool} : ∀ (d k j : Nat), k ≤ j → j < scan p d k → p j = true
  | 0, k, j, h1, h2 => by unfold scan at h2; omega
  | d + 1, k, j, h1, h2 => by
    unfold scan at h2
    by_cases h : p k = true
    · rw [if_pos h] at h2
      by_cases e : j = k
      · rw [e]; exact h
      · exact scan_all d (k + 1) j (by omega) h2
    · rw [if_neg h] at h2
      omega
theorem scan_end {p : Nat → Bool} : ∀ (d k : Nat), scan p d k < k + d → p (scan p d k) = false
  | 0, k, h => by unfold scan at h; omega
  | d + 1, k, h => by
    unfold scan at h ⊢
    by_cases h1 : p k = true
    · rw [if_pos h1] at h ⊢
      exact scan_end d (k + 1) (by omega)
    · rw [if_neg h1] at h ⊢
      exact Bool.eq_false_iff.mpr h1
theorem spBlanks_ge (S : jS) (k : Nat) : k ≤ spBlanks S k := scan_ge _ _
theorem spWord_ge (S : jS) (k : Nat) : k ≤ spWord S k := scan_ge _ _
theorem spBlanks_le (S : jS) {k : Nat} (h : k ≤ S 10 12) : spBlanks S k ≤ S 10 12 := by
  have : spBlanks S k ≤ k + (S 10 12 - k) := scan_le _ _
  omega
theorem spWord_le (S : jS) {k : Nat} (h : k ≤ S 10 12) : spWord S k ≤ S 10 12 := by
  have : spWord S k ≤ k + (S 10 12 - k) := scan_le _ _
  omega
theorem spWord_all (S : jS) {k j : Nat} (h1 : k ≤ j) (h2 : j < spWord S k) : ¬ S 33 j = 32 := by
  have h3 := scan_all _ _ _ h1 h2
  simp only [decide_eq_true_eq] at h3
  exact h3.2
theorem spBlanks_end (S : jS) {k : Nat} (h0 : k ≤ S 10 12) (h : spBlanks S k < S 10 12) : ¬ S 33 (spBlanks S k) = 32 := by
  have h3 := scan_end (p := fun k => decide (k < S 10 12 ∧ S 33 k = 32)) (S 10 12 - k) k (show spBlanks S k < _ by omega)
  intro h4
  have h5 : decide (spBlanks S k < S 10 12 ∧ S 33 (spBlanks S k) = 32) = false := h3
  simp only [decide_eq_false_iff_not] at h5
  exact h5 ⟨h, h4⟩
theorem spWord_end (S : jS) {k : Nat} (h0 : k ≤ S 10 12) (h : spWord S k < S 10 12) : S 33 (spWord S k) = 32 := by
  have h3 := scan_end (p := fun k => decide (k < S 10 12 ∧ ¬ S 33 k = 32)) (S 10 12 - k) k (show spWord S k < _ by omega)
  have h5 : decide (spWord S k < S 10 12 ∧ ¬ S 33 (spWord S k) = 32) = false := h3
  simp only [decide_eq_false_iff_not] at h5
  exact Classical.not_not.mp (fun h4 => h5 ⟨h, h4⟩)
def spPart (S : jS) (fr tw font : Nat) : Nat := scan (fun b => decide (b + 1 < tw ∧ spSigns S fr (b + 1) font + spFw (29 * font + 28) ≤ S 10 13)) (tw - fr) (fr + 1)
def spMore (S : jS) (font : Nat) : Nat → Nat → Nat → Nat
  | 0, _, t => t
  | d + 1, w, t => if spBlanks S t < spWord S (spBlanks S t) ∧ w + 3 + spSigns S (spBlanks S t) (spWord S (spBlanks S t)) font ≤ S 10 13 then spMore S font d (w + 3 + spSigns S (spBlanks S t) (spWord S (spBlanks S t)) font) (spWord S (spBlanks S t)) else t
def spTo (S : jS) (p font : Nat) : Nat := if spBlanks S p = spWord S (spBlanks S p) then spWord S (spBlanks S p) else if S 10 13 < spSigns S (spBlanks S p) (spWord S (spBlanks S p)) font then spPart S (spBlanks S p) (spWord S (spBlanks S p)) font else spMore S font 61 (spSigns S (spBlanks S p) (spWord S (spBlanks S p)) font) (spWord S (spBlanks S p))
def spSplit (S : jS) (p font : Nat) : Nat := if spBlanks S p = spWord S (spBlanks S p) then 0 else if S 10 13 < spSigns S (spBlanks S p) (spWord S (spBlanks S p)) font then 1 else 0
def spFT (S : jS) (f t s : Nat) : jS := sw (sw (sw S 10 29 f) 10 30 t) 10 31 s
