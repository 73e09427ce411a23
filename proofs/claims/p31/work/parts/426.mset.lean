/-! THE REFERENCE: set -/
def spMarks (l : Nat) : Nat → jS → jS
  | 0, S => S
  | n + 1, S => sw (spMarks l n S) 27 (S 36 (64 * l + n)) 1
theorem spMarks_row {l : Nat} {S : jS} {a b : Nat} (h : ¬ a = 27) : ∀ n, spMarks l n S a b = S a b
  | 0 => rfl
  | n + 1 => by
    unfold spMarks
    rw [sw_at, if_neg (fun q => h q.1)]
    exact spMarks_row h n
theorem spMarks_27 {l : Nat} {S : jS} {s : Nat} : ∀ n, (spMarks l n S 27 s = 1 ∧ ∃ k, k < n ∧ S 36 (64 * l + k) = s) ∨ (spMarks l n S 27 s = S 27 s ∧ ∀ k, k < n → ¬ S 36 (64 * l + k) = s)
  | 0 => Or.inr ⟨rfl, fun k hk => by omega⟩
  | n + 1 => by
    unfold spMarks
    rw [sw_at]
    by_cases e : s = S 36 (64 * l + n)
    · rw [if_pos ⟨rfl, e⟩]
      exact Or.inl ⟨rfl, n, by omega, e.symm⟩
    · rw [if_neg (fun q => e q.2)]
      rcases spMarks_27 (l := l) (S := S) (s := s) n with ⟨h, k, hk, h2⟩ | ⟨h, h2⟩
      · exact Or.inl ⟨h, k, by omega, h2⟩
      · refine Or.inr ⟨h, fun k hk => ?_⟩
        by_cases e2 : k = n
        · rw [e2]; exact fun q => e q.symm
        · exact h2 k (by omega)
/-- the text less its first t signs, t ≤ k ≤ n moved -/
def spCutK (S : jS) (t k : Nat) : jS := fun a b => if a = 33 ∧ b + t < k then S 33 (b + t) else S a b
def spCutT (S : jS) (t : Nat) : jS := sw (spCutK S t (S 10 12)) 10 12 (S 10 12 - t)
def spEndA (T : jS) (l f : Nat) : jS := sw (sw (spMarks l (T 35 l) T) 34 l f) 42 l jNo
def spEndB (T : jS) (l f t : Nat) : jS := spCutT (spEndA T l f) t
def spEndC (T : jS) (l f t : Nat) : jS := sw (sw (spEndB T l f t) 41 l (jb (spBlanks (spEndB T l f t) 0 = spEndB T l f t 10 12))) 10 14 (l + 1)
def spSetEnd (T : jS) (l f t : Nat) : jS := spFill (spEndC T l f t) l
def spEndN (S : jS) (f : Nat) : Nat := spTo S 0 f + spSplit S 0 f
abbrev spNoSet (S : jS) : Prop := spBlanks S 0 = spWord S (spBlanks S 0) ∨ S 10 14 = 12
def spSetR (S : jS) (f b : Nat) : Nat × jS := spSet (S 10 14) f b (spTo S 0 f) (spEndN S f - spBlanks S 0) (spBlanks S 0) (spBeg S f)
/-- code and answer -/
def sf_setR (S : jS) (x : Int32) (b : Nat) : Nat × Int32 := if inR x 0 1 then if spNoSet S then (2, 0) else if (spSetR S (jn x) b).1 = 0 then (0, nI (S 10 14)) else (0, nI 4294967286 - nI ((spSetR S (jn x) b).1 - 1)) else (1, 0)
abbrev sf_setOk (S : jS) (x : Int32) (b : Nat) : Prop := inR x 0 1 ∧ ¬ spNoSet S ∧ (spSetR S (jn x) b).1 = 0
theorem TXT.eq {S S' : jS} (h : TXT S) (h12 : S' 10 12 = S 10 12) (h33 : ∀ k, S' 33 k = S 33 k) : TXT S' := ⟨by rw [h12]; exact h.1, fun k => by rw [h33]; exact h.2.1 k, fun k hk => by rw [h12] at hk; rw [h33]; exact h.2.2 k hk⟩
theorem spTo_facts {S : jS} {f : Nat} (hW : Wf S) (hf : f < 2) (hne : ¬ spBlanks S 0 = spWord S (spBlanks S 0)) : spBlanks S 0 < spTo S 0 f ∧ spTo S 0 f ≤ S 10 12 ∧ (spSplit S 0 f = 0 ∨ (spSplit S 0 f = 1 ∧ spTo S 0 f < S 10 12 ∧ ¬ S 33 (spTo S 0 f) = 32 ∧ ∀ k, spBlanks S 0 ≤ k → k < spTo S 0 f → ¬ S 33 k = 32)) := by
  have hT := hW.1.1.2.1
  have hm := hW.1.1.1.2.2.2.2.2.1
  have h1 := spBlanks_le S (k := 0) (Nat.zero_le _)
  have h2 := spWord_ge S (spBlanks S 0)
  have h3 := spWord_le S h1
  have hall : ∀ k, spBlanks S 0 ≤ k → k < spWord S (spBlanks S 0) → ¬ S 33 k = 32 := fun k q1 q2 => spWord_all S q1 q2
  unfold spTo spSplit
  rw [if_neg hne, if_neg hne]
  by_cases hw : S 10 13 < spSigns S (spBlanks S 0) (spWord S (spBlanks S 0)) f
  · rw [if_pos hw, if_pos hw]
    generalize hfr : spBlanks S 0 = fr at *
    generalize htw : spWord S fr = tw at *
    have e6 : spSigns S fr tw f ≤ 7 * (tw - fr) := sumr_le _ (fun k q1 q2 => spFw_le (by have := (hT.2.2 k (by omega)).box (hall k q1 (by omega)); omega))
    have p1 : fr + 1 ≤ spPart S fr tw f := scan_ge _ _
    have p2 : ∀ d b, b + 1 ≤ tw → scan (fun b => decide (b + 1 < tw ∧ spSigns S fr (b + 1) f + spFw (29 * f + 28) ≤ S 10 13)) d b + 1 ≤ tw := by
      intro d
      induction d with
      | zero => intro b hb; exact hb
      | succ d ih =>
        intro b hb
        unfold scan
        split
        · rename_i q
          simp only [decide_eq_true_eq] at q
          exact ih (b + 1) (by omega)
        · exact hb
    have p3 : spPart S fr tw f + 1 ≤ tw := p2 (tw - fr) (fr + 1) (by omega)
    refine ⟨by omega, by omega, Or.inr ⟨rfl, by omega, hall _ (by omega) (by omega), fun k q1 q2 => hall k q1 (by omega)⟩⟩
  · rw [if_neg hw, if_neg hw]
    have p : ∀ d w t, spBlanks S 0 < t → t ≤ S 10 12 → spBlanks S 0 < spMore S f d w t ∧ spMore S f d w t ≤ S 10 12 := by
      intro d
      induction d with
      | zero => intro w t q1 q2; exact ⟨q1, q2⟩
      | succ d ih =>
        intro w t q1 q2
        unfold spMore
        have r1 := spBlanks_ge S t
        have r2 := spBlanks_le S q2
        have r3 := spWord_ge S (spBlanks S t)
        have r4 := spWord_le S r2
        split
        · exact ih _ _ (by omega) r4
        · exact ⟨q1, q2⟩
    have p1 := p 61 (spSigns S (spBlanks S 0) (spWord S (spBlanks S 0)) f) (spWord S (spBlanks S 0)) (by omega) h3
    exact ⟨p1.1, p1.2, Or.inl rfl⟩
theorem WS.facts {S T : jS} {l f fr k : Nat} (hW : Wf S) (h : WS S T l f fr k) (hk : k ≤ fr + 60) : (∀ k, T 33 k = S 33 k) ∧ T 10 12 = S 10 12 ∧ FOK T ∧ POK T ∧ TXT T ∧ T 35 l ≤ 60 ∧ T 38 l ≤ 60 ∧ (∀ k, k < 58 → T 30 k ≤ T 46 k ∧ T 46 k ≤ 300) ∧ (∀ k i, k < 58 → i < T 46 k → T 29 (300 * k + i) < 300) ∧ T 35 l + T 38 l ≤ 60 := by
  obtain ⟨h1, h2, h3, h4, h5, h5b, h6⟩ := h
  have hn := hW.1.1.1
  have hn1 := h1.1.1
  refine ⟨fun k => h3 33 k (by omega), h3 10 12 (by omega), h1.1.2.2.1, ⟨fun k hk => ?_, fun k i hk hi => ?_⟩, h1.1.2.1, by omega, by omega, fun k hk => ?_, fun k i hk hi => ?_, by omega⟩
  · have := h1.2.2.cnt hk
    omega
  · have := (h1.2.2.pile hk hi).1
    omega
  · have := h5 k hk
    have := hW.1.2.2.cnt hk
    omega
  · rw [(h5 k hk).1] at hi
    have := (hW.1.2.2.pile hk hi).1
    rw [h3 29 _ (by omega)]
    omega
theorem spEndA_row {T : jS} {l f a b : Nat} (h : ¬ (a = 27 ∨ (a = 34 ∧ b = l) ∨ (a = 42 ∧ b = l))) : spEndA T l f a b = T a b := by
  unfold spEndA
  rw [sw_at, if_neg (by omega), sw_at, if_neg (by omega), spMarks_row (by omega)]
theorem spEndB_row {T : jS} {l f t a b : Nat} (h : ¬ (a = 27 ∨ a = 33 ∨ (a = 10 ∧ b = 12) ∨ (a = 34 ∧ b = l) ∨ (a = 42 ∧ b = l))) : spEndB T l f t a b = T a b := by
  unfold spEndB spCutT spCutK
  rw [sw_at, if_neg (by omega), if_neg (by omega), spEndA_row (by omega)]
theorem spEndB_12 {T : jS} {l f t : Nat} : spEndB T l f t 10 12 = T 10 12 - t := by
  unfold spEndB spCutT
  rw [sw_at, if_pos ⟨rfl, rfl⟩, spEndA_row (by omega)]
theorem spEndB_33 {T : jS} {l f t k : Nat} : spEndB T l f t 33 k = if k + t < T 10 12 then T 33 (k + t) else T 33 k := by
  unfold spEndB spCutT spCutK
  rw [sw_at, if_neg (by omega), spEndA_row (a := 10) (b := 12) (by omega), spEndA_row (a := 33) (by omega), spEndA_row (a := 33) (by omega)]
  by_cases e : k + t < T 10 12
  · rw [if_pos ⟨rfl, e⟩, if_pos e]
  · rw [if_neg (fun q => e q.2), if_neg e]
theorem spEndC_row {T : jS} {l f t a b : Nat} (h : ¬ (a = 27 ∨ a = 33 ∨ (a = 10 ∧ (b = 12 ∨ b = 14)) ∨ (a = 34 ∧ b = l) ∨ (a = 42 ∧ b = l) ∨ (a = 41 ∧ b = l))) : spEndC T l f t a b = T a b := by
  unfold spEndC
  rw [sw_at, if_neg (by omega), sw_at, if_neg (by omega), spEndB_row (by omega)]
theorem TXT_end {T : jS} {l f t : Nat} (hT : TXT T) : TXT (spEndB T l f t) := by
  obtain ⟨h1, h2, h3⟩ := hT
  refine ⟨by rw [spEndB_12]; omega, fun k => ?_, fun k hk => ?_⟩
  · rw [spEndB_33]
    split
    · exact h2 _
    · exact h2 _
  · rw [spEndB_12] at hk
    rw [spEndB_33, if_pos (by omega)]
    exact h3 _ (by omega)
/-- a line set: all is as it must be -/
theorem Wf_endC {S T : jS} {l f fr k t : Nat} (hW : Wf S) (h : WS S T l f fr k) (hk : k ≤ fr + 60) (hl : S 10 14 = l) (hl2 : l < 12) (hf : f < 2) : Wf (spZero (spEndC T l f t) l (448 * l + 7 * T 38 l + 7)) := by
  obtain ⟨t33, t12, tF, tP, tT, t35, t38, t46, t29, t98⟩ := h.facts hW hk
  obtain ⟨h1, h2, h3, h4, h5, h5b, h6⟩ := h
  have er : ∀ a b, ¬ (a = 27 ∨ a = 33 ∨ (a = 10 ∧ (b = 12 ∨ b = 14)) ∨ (a = 34 ∧ b = l) ∨ (a = 42 ∧ b = l) ∨ (a = 41 ∧ b = l)) → spEndC T l f t a b = T a b := fun a b hab => spEndC_row hab
  have e14 : spEndC T l f t 10 14 = l + 1 := by unfold spEndC; rw [sw_at, if_pos ⟨rfl, rfl⟩]
  have e27 : ∀ s, spEndC T l f t 27 s = spMarks l (T 35 l) T 27 s := fun s => by
    unfold spEndC spEndB spCutT spCutK spEndA
    rw [sw_at, if_neg (by omega), sw_at, if_neg (by omega), sw_at, if_neg (by omega), if_neg (by omega), sw_at, if_neg (by omega), sw_at, if_neg (by omega)]
  have e42 : ∀ j, spEndC T l f t 42 j = if j = l then jNo else S 42 j := fun j => by
    by_cases e : j = l
    · rw [if_pos e, e]
      unfold spEndC spEndB spCutT spCutK spEndA
      rw [sw_at, if_neg (by omega), sw_at, if_neg (by omega), sw_at, if_neg (by omega), if_neg (by omega), sw_at, if_pos ⟨rfl, rfl⟩]
    · rw [if_neg e, er 42 j (by omega), h3 42 j (by omega)]
  have e34 : spEndC T l f t 34 l = f := by
    unfold spEndC spEndB spCutT spCutK spEndA
    rw [sw_at, if_neg (by omega), sw_at, if_neg (by omega), sw_at, if_neg (by omega), if_neg (by omega), sw_at, if_neg (by omega), sw_at, if_pos ⟨rfl, rfl⟩]
  have hfl : ∀ j, j < T 35 l → 0 < lws S (ind (T 36 (64 * l + j))) l + lw T (ind (T 36 (64 * l + j))) l (T 35 l) := fun j hj => by
    have q := sumr_ge (f := fun k => ind (T 36 (64 * l + j)) (T 36 (64 * l + k))) hj
    simp only [ind_self] at q
    have q2 : lw T (ind (T 36 (64 * l + j))) l (T 35 l) = sumr (fun k => ind (T 36 (64 * l + j)) (T 36 (64 * l + k))) 0 (T 35 l) := rfl
    omega
  have hm : ∀ n, n ≤ T 35 l → WC (spMarks l n T) (fun w => lws S w l + lw T w l (T 35 l)) := by
    intro n
    induction n with
    | zero => intro _; exact h1
    | succ n ih =>
      intro hn
      unfold spMarks
      exact (ih (by omega)).mark (hfl n (by omega)) (by omega)
  have hA := hm (T 35 l) (Nat.le_refl _)
  have hB := TXT_end (l := l) (f := f) (t := t) tT
  have hl3 : ∀ j, j < l → S 35 j + S 38 j ≤ 60 := fun j hj => (hW.2.2.1 j (by omega)).1
  have hg : Rg (spEndC T l f t) := by
    obtain ⟨⟨a1, a2, a3, a4, a5, a6, a7⟩, b1, c, d, e, g, i, j, m⟩ := h1.1
    refine ⟨⟨by rw [er 10 1 (by omega)]; exact a1, by rw [e14]; omega, by rw [er 10 24 (by omega)]; exact a3, by rw [er 10 28 (by omega)]; exact a4, by rw [er 10 13 (by omega)]; exact a5, by rw [er 10 13 (by omega)]; exact a6, by rw [er 32 5 (by omega)]; exact a7⟩, hB.eq ?_ (fun k => ?_), fun s => by rw [er 25 s (by omega)]; exact c s, fun s => by rw [e27]; exact hA.1.2.2.2.1 s, fun s => by rw [er 28 s (by omega)]; exact e s, fun s => ?_, fun s => by rw [er 45 s (by omega)]; exact i s, fun s => by rw [er 43 s (by omega)]; exact j s, fun s hs => ?_⟩
    · unfold spEndC
      rw [sw_at, if_neg (by omega), sw_at, if_neg (by omega)]
    · unfold spEndC
      rw [sw_at, if_neg (by omega), sw_at, if_neg (by omega)]
    · by_cases q : s = l
      · unfold spEndC
        rw [sw_at, if_neg (by omega), q, sw_at, if_pos ⟨rfl, rfl⟩]
        unfold jb
        split <;> omega
      · rw [er 41 s (by omega)]; exact g s
    · rw [er 10 24 (by omega)] at hs
      rw [er 43 s (by omega)]
      exact m s hs
  have ez : ∀ a b, ¬ a = 40 → spZero (spEndC T l f t) l (448 * l + 7 * T 38 l + 7) a b = spEndC T l f t a b := fun a b hab => by unfold spZero; rw [if_neg (by omega)]
  have ez40 : ∀ b, spZero (spEndC T l f t) l (448 * l + 7 * T 38 l + 7) 40 b = if 448 * l ≤ b ∧ b < 448 * l + 7 * T 38 l + 7 then 0 else T 40 b := fun b => by
    unfold spZero
    by_cases e : 448 * l ≤ b ∧ b < 448 * l + 7 * T 38 l + 7
    · rw [if_pos ⟨rfl, e⟩, if_pos e]
    · rw [if_neg (fun q => e q.2), if_neg e, er 40 b (by omega)]
  have hgE := hg.rows (S' := spZero (spEndC T l f t) l (448 * l + 7 * T 38 l + 7)) (fun b _ => ez 10 b (by omega)) (ez 32 5 (by omega)) (fun a b hab => ez a b (by omega)) (fun s => by rw [ez 27 s (by omega)]; exact hg.2.2.2.1 s) (fun s => by rw [ez 28 s (by omega)]; exact hg.2.2.2.2.1 s)
  have er := fun a b (hab : ¬ (a = 27 ∨ a = 33 ∨ (a = 10 ∧ (b = 12 ∨ b = 14)) ∨ (a = 34 ∧ b = l) ∨ (a = 42 ∧ b = l) ∨ (a = 41 ∧ b = l) ∨ a = 40)) => (ez a b (by omega)).trans (er a b (by omega))
  have e14 := (ez 10 14 (by omega)).trans e14
  have e27 := fun s => (ez 27 s (by omega)).trans (e27 s)
  have e42 := fun s => (ez 42 s (by omega)).trans (e42 s)
  have e34 := (ez 34 l (by omega)).trans e34
  generalize hE : spZero (spEndC T l f t) l (448 * l + 7 * T 38 l + 7) = E at *
  refine ⟨?_, fun j i hj hi => ?_, fun j hj => ?_, fun a b c q1 q2 q3 q4 q5 => ?_⟩
  · refine (hA.same hgE (fun a b hab => ?_)).toR (fun w => ?_)
    · by_cases q : a = 27
      · rw [q]; exact e27 b
      · rw [er a b (by omega), spMarks_row q]
    · rw [e14]
      unfold lws
      rw [sumr_s, er 35 l (by omega)]
      have z1 : sumr (fun j => lw (E) w j (E 35 j)) 0 l = sumr (fun j => lw S w j (S 35 j)) 0 l := sumr_eq _ (fun j hj => by
        rw [er 35 j (by omega), h3 35 j (by omega)]
        have := hl3 j hj
        exact sumr_eq _ (fun i hi => by rw [er 36 _ (by omega), h3 36 _ (by omega)]))
      have z2 : lw (E) w l (T 35 l) = lw T w l (T 35 l) := sumr_eq _ (fun i hi => by rw [er 36 _ (by omega)])
      rw [z1, z2]
  · rw [e14] at hj
    rw [er 35 j (by omega)] at hi
    rw [e27]
    by_cases e : j = l
    · subst e
      rw [er 36 _ (by omega)]
      rcases spMarks_27 (l := j) (S := T) (s := T 36 (64 * j + i)) (T 35 j) with q | q
      · exact q.1
      · exact absurd rfl (q.2 i hi)
    · have hj2 : j < l := by omega
      rw [h3 35 j (by omega)] at hi
      have := hl3 j hj2
      rw [er 36 _ (by omega), h3 36 _ (by omega)]
      rcases spMarks_27 (l := l) (S := T) (s := S 36 (64 * j + i)) (T 35 l) with q | q
      · exact q.1
      · rw [q.1, h3 27 _ (by omega)]
        exact hW.2.1 j i (by omega) hi
  · rw [e14] at hj
    by_cases e : j = l
    · subst e
      unfold LRg
      rw [er 35 j (by omega), er 38 j (by omega), e34, e42, if_pos rfl]
      refine ⟨t98, hf, Or.inl rfl, fun i hi => ?_, fun g hg => ?_⟩
      · rw [er 37 _ (by omega)]
        exact h4 i hi
      · rw [ez40, if_pos (by omega)]
    · have hj2 : j < l := by omega
      have hjr := hW.2.2.1 j (by omega)
      have := hjr.1
      obtain ⟨r1, r2, r3, r4, r5⟩ := hjr
      unfold LRg
      rw [er 35 j (by omega), er 38 j (by omega), er 34 j (by omega), e42, if_neg e, er 10 24 (by omega), h3 35 j (by omega), h3 38 j (by omega), h3 34 j (by omega), h3 10 24 (by omega)]
      refine ⟨r1, r2, r3, fun i hi => ?_, fun g hg => ?_⟩
      · rw [er 37 _ (by omega), h3 37 _ (by omega)]
        exact r4 i hi
      · rw [ez40, if_neg (by omega), h3 40 _ (by omega)]
        exact r5 g hg
  · rw [e14] at q3
    rw [e42, e42] at q4
    rw [e42] at q5
    rw [e42, e42]
    by_cases ea : a = l
    · rw [if_pos ea] at q5; exact absurd rfl q5
    · rw [if_neg ea] at q4 q5 ⊢
      by_cases ec : c = l
      · rw [if_pos ec] at q4; exact absurd q4 q5
      · rw [if_neg ec] at q4
        rw [if_neg (by omega)]
        exact hW.2.2.2 a b c q1 q2 (by omega) q4 q5
theorem Wf_fill0 {S : jS} {l : Nat} (h0 : Wf (spZero S l (448 * l + 7 * S 38 l + 7))) (hl : l < S 10 14) : Wf (spFill S l) := by
  unfold spFill
  split
  · exact h0
  · refine Wf_fillGap (Wf_fills h0 (show l < S 10 14 from hl) _ (show S 38 l ≤ S 38 l from Nat.le_refl _)) ?_ ?_
    · rw [spFills_row (by omega) (by omega)]; exact hl
    · rw [spFills_row (by omega) (by omega)]; exact Nat.le_refl _
theorem Wf_setEnd {S T : jS} {l f fr k t : Nat} (hW : Wf S) (h : WS S T l f fr k) (hk : k ≤ fr + 60) (hl : S 10 14 = l) (hl2 : l < 12) (hf : f < 2) : Wf (spSetEnd T l f t) := by
  unfold spSetEnd
  refine Wf_fill0 ?_ ?_
  · rw [spEndC_row (a := 38) (by omega)]
    exact Wf_endC hW h hk hl hl2 hf
  · unfold spEndC
    rw [sw_at, if_pos ⟨rfl, rfl⟩]
    omega
