section
variable {S T : jS}
end
def dec1 (c : Nat → Nat) (k : Nat) : Nat → Nat := fun j => if j = k then c j - 1 else c j
/-- d signs from k on spent of the numbers c: whether they go so far, what is left -/
def ahS (S : jS) (f t : Nat) : Nat → Nat → (Nat → Nat) → Nat × (Nat → Nat)
  | 0, _, c => (1, c)
  | d + 1, k, c => if spSgn S t k = 32 then ahS S f t d (k + 1) c else if c (29 * f + spBox (spSgn S t k)) = 0 then (0, c) else ahS S f t d (k + 1) (dec1 c (29 * f + spBox (spSgn S t k)))
def ahL (S : jS) (f : Nat) : Nat → Nat → Nat → (Nat → Nat) → Nat
  | 0, _, n, _ => n
  | d + 1, p, n, c => if spBlanks S p = spWord S (spBlanks S p) then n else if (ahS S f (spTo S p f) (spTo S p f + spSplit S p f - spBlanks S p) (spBlanks S p) c).1 = 0 then n else ahL S f d (spTo S p f) (n + 1) (ahS S f (spTo S p f) (spTo S p f + spSplit S p f - spBlanks S p) (spBlanks S p) c).2
def sf_aheadR (S : jS) (x : Int32) : Nat × Int32 := if inR x 0 1 then (0, nI (ahL S (jn x) 61 0 0 (S 30))) else (1, 0)
/-- the state while numbers are spent -/
def AH (S T : jS) (c : Nat → Nat) : Prop := (∀ a b, ¬ (a = 46 ∨ a = 30 ∨ (a = 10 ∧ (b = 0 ∨ 29 ≤ b))) → T a b = S a b) ∧ (∀ k, T 30 k = c k) ∧ (∀ k, c k ≤ S 30 k) ∧ (∀ k, k < 58 → T 46 k = S 30 k) ∧ (∀ k, 58 ≤ k → c k = S 30 k)
theorem AH.facts {S T : jS} {c : Nat → Nat} (hW : Wf S) (h : AH S T c) : (∀ k, T 33 k = S 33 k) ∧ T 10 12 = S 10 12 ∧ T 10 13 = S 10 13 ∧ FOK T ∧ POK T ∧ TXT T ∧ (∀ k, k < 58 → T 30 k ≤ T 46 k ∧ T 46 k ≤ 300) ∧ ∀ k i, k < 58 → i < T 46 k → T 29 (300 * k + i) < 300 := by
  obtain ⟨h1, h2, h3, h4, h5⟩ := h
  have hn := hW.1.1.1
  have e33 : ∀ k, T 33 k = S 33 k := fun k => h1 33 k (by omega)
  have e12 := h1 10 12 (by omega)
  have hc : ∀ k, k < 58 → S 30 k ≤ 300 := fun k hk => by have := hW.1.2.2.cnt hk; omega
  have hp : ∀ k i, k < 58 → i < S 30 k → T 29 (300 * k + i) < 300 := fun k i hk hi => by
    have := (hW.1.2.2.pile hk hi).1
    rw [h1 29 _ (by omega)]
    omega
  refine ⟨e33, e12, h1 10 13 (by omega), fun s => by rw [h1 25 s (by omega)]; exact hW.1.1.2.2.1 s, ⟨fun k hk => ?_, fun k i hk hi => ?_⟩, hW.1.1.2.1.eq e12 e33, fun k hk => ?_, fun k i hk hi => ?_⟩
  · have := h3 k; have := hc k hk; rw [h2]; omega
  · rw [h2] at hi
    have := h3 k
    exact hp k i hk (by omega)
  · have := h3 k; have := hc k hk; rw [h2, h4 k hk]; omega
  · rw [h4 k hk] at hi
    exact hp k i hk hi
theorem AH.take {S T : jS} {c : Nat → Nat} {k : Nat} (h : AH S T c) (hk : k < 58) : AH S (spTake T k) (dec1 c k) := by
  obtain ⟨h1, h2, h3, h4, h5⟩ := h
  have er : ∀ a b, ¬ (a = 30 ∧ b = k) → spTake T k a b = T a b := fun a b hab => by
    show sw T 30 k (T 30 k - 1) a b = _
    rw [sw_at, if_neg hab]
  refine ⟨fun a b hab => by rw [er a b (by omega)]; exact h1 a b hab, fun j => ?_, fun j => ?_, fun j hj => by rw [er 46 j (by omega)]; exact h4 j hj, fun j hj => ?_⟩
  · unfold dec1
    by_cases e : j = k
    · rw [if_pos e, e]
      show sw T 30 k (T 30 k - 1) 30 k = _
      rw [sw_at, if_pos ⟨rfl, rfl⟩, h2]
    · rw [if_neg e, er 30 j (by omega)]
      exact h2 j
  · have := h3 j
    unfold dec1
    split <;> omega
  · unfold dec1
    rw [if_neg (by omega)]
    exact h5 j hj
/-- what the place where a line ends is, from any place on -/
theorem spTo_at {S : jS} {f p : Nat} (hT : TXT S) (hm : 20 ≤ S 10 13) (hf : f < 2) (hp : p ≤ S 10 12) (hne : ¬ spBlanks S p = spWord S (spBlanks S p)) : p ≤ spBlanks S p ∧ spBlanks S p < spTo S p f ∧ spTo S p f ≤ S 10 12 ∧ (spSplit S p f = 0 ∨ (spSplit S p f = 1 ∧ spTo S p f < S 10 12)) := by
  have h0 := spBlanks_ge S p
  have h1 := spBlanks_le S hp
  have h2 := spWord_ge S (spBlanks S p)
  have h3 := spWord_le S h1
  have hall : ∀ k, spBlanks S p ≤ k → k < spWord S (spBlanks S p) → ¬ S 33 k = 32 := fun k q1 q2 => spWord_all S q1 q2
  unfold spTo spSplit
  rw [if_neg hne, if_neg hne]
  by_cases hw : S 10 13 < spSigns S (spBlanks S p) (spWord S (spBlanks S p)) f
  · rw [if_pos hw, if_pos hw]
    generalize hfr : spBlanks S p = fr at *
    generalize htw : spWord S fr = tw at *
    have e6 : spSigns S fr tw f ≤ 7 * (tw - fr) := sumr_le _ (fun k q1 q2 => spFw_le (by have := (hT.2.2 k (by omega)).box (hall k q1 (by omega)); omega))
    have p1 : fr + 1 ≤ spPart S fr tw f := scan_ge _ _
    have p2 : ∀ d b, b + 1 ≤ tw → scan (fun b => decide (b + 1 < tw ∧ spSigns S fr (b + 1) f + spFw (29 * f + 28) ≤ S 10 13)) d b + 1 ≤ tw := by
      intro d
      induction d with
      | zero => intro b hb; exact hb
      | succ d ih =>
        intro b hb
        unfold scan
        split
        · rename_i q
          simp only [decide_eq_true_eq] at q
          exact ih (b + 1) (by omega)
        · exact hb
    have p3 : spPart S fr tw f + 1 ≤ tw := p2 (tw - fr) (fr + 1) (by omega)
    exact ⟨h0, by omega, by omega, Or.inr ⟨rfl, by omega⟩⟩
  · rw [if_neg hw, if_neg hw]
    have q : ∀ d w t, spBlanks S p < t → t ≤ S 10 12 → spBlanks S p < spMore S f d w t ∧ spMore S f d w t ≤ S 10 12 := by
      intro d
      induction d with
      | zero => intro w t q1 q2; exact ⟨q1, q2⟩
      | succ d ih =>
        intro w t q1 q2
        unfold spMore
        have r1 := spBlanks_ge S t
        have r2 := spBlanks_le S q2
        have r3 := spWord_ge S (spBlanks S t)
        have r4 := spWord_le S r2
        split
        · exact ih _ _ (by omega) r4
        · exact ⟨q1, q2⟩
    have p1 := q 61 (spSigns S (spBlanks S p) (spWord S (spBlanks S p)) f) (spWord S (spBlanks S p)) (by omega) h3
    exact ⟨h0, p1.1, p1.2, Or.inl rfl⟩
