/-! THE CLASS: what a step of its memory does -/
def mPut (M : jx_M) (k s : Nat) : jx_M := wI (wP (wP (wP (wI M 6 s 5 (nI 0)) 6 s 6 (some k)) 6 s 8 (qP M 4 k 1)) 4 k 1 (some s)) 4 k 2 (qI M 4 k 2 + nI 1)
theorem mPut_I (M : jx_M) (k s r i c : Nat) : qI (mPut M k s) r i c = if r = 4 ∧ i = k ∧ c = 2 then qI M 4 k 2 + nI 1 else if r = 6 ∧ i = s ∧ c = 5 then nI 0 else qI M r i c := by
  simp only [mPut, qI_wI, qI_wP]
theorem mPut_P (M : jx_M) (k s r i c : Nat) : qP (mPut M k s) r i c = if r = 4 ∧ i = k ∧ c = 1 then some s else if r = 6 ∧ i = s ∧ c = 8 then qP M 4 k 1 else if r = 6 ∧ i = s ∧ c = 6 then some k else qP M r i c := by
  simp only [mPut, qP_wI, qP_wP]
theorem mPut_KP {M0 M : jx_M} {k s : Nat} (h : KP M0 M) : KP M0 (mPut M k s) := (((((h.wI (by omega)).wP (by omega)).wP (by omega)).wP (by omega)).wI (by omega))
def mTake (M : jx_M) (k s : Nat) : jx_M := wI (wP (wP M 4 k 1 (qP M 6 s 8)) 6 s 8 none) 4 k 2 (qI M 4 k 2 - nI 1)
theorem mTake_I (M : jx_M) (k s r i c : Nat) : qI (mTake M k s) r i c = if r = 4 ∧ i = k ∧ c = 2 then qI M 4 k 2 - nI 1 else qI M r i c := by
  simp only [mTake, qI_wI, qI_wP]
theorem mTake_P (M : jx_M) (k s r i c : Nat) : qP (mTake M k s) r i c = if r = 6 ∧ i = s ∧ c = 8 then none else if r = 4 ∧ i = k ∧ c = 1 then qP M 6 s 8 else qP M r i c := by
  simp only [mTake, qP_wI, qP_wP]
theorem mTake_KP {M0 M : jx_M} {k s : Nat} (h : KP M0 M) : KP M0 (mTake M k s) := (((h.wP (by omega)).wP (by omega)).wI (by omega))
section
variable {M : jx_M} {S : jS} {p : Nat → Nat}
theorem CM_put {k s : Nat} (h : CM M S p) (hk : k < 58) (hs : s < S 10 1) (hck : S 30 k < 300) (hc : ∀ j, j < 58 → S 30 j ≤ 300) (hno : ∀ j i, j < 58 → i < S 30 j → ¬ S 29 (300 * j + i) = s) (h27 : ¬ S 27 s = 3) (h28 : S 28 s = 0) : CM (mPut M k s) (spPut S k s) p := by
  obtain ⟨hB, hT, hS, hF, hH, hP, hO, hK, hL⟩ := h
  have iI : ∀ r, ¬ r = 4 → ¬ r = 6 → sI M (mPut M k s) r := fun r h4 h6 i c => by rw [mPut_I, if_neg (fun q => h4 q.1), if_neg (fun q => h6 q.1)]
  have iP : ∀ r, ¬ r = 4 → ¬ r = 6 → sP M (mPut M k s) r := fun r h4 h6 i c => by rw [mPut_P, if_neg (fun q => h4 q.1), if_neg (fun q => h6 q.1), if_neg (fun q => h6 q.1)]
  have er : ∀ a b, ¬ (a = 27 ∨ a = 28 ∨ a = 29 ∨ a = 30) → spPut S k s a b = S a b := fun a b hab => spPut_row S k s hab
  refine ⟨hB.fr (fun c => iP 9 (by omega) (by omega) 0 c) (fun c _ => iI 9 (by omega) (by omega) 0 c) (iP 7 (by omega) (by omega)) (iP 8 (by omega) (by omega)) (iP 2 (by omega) (by omega)) (iP 5 (by omega) (by omega)) rfl (er 10 1 (by omega)) (er 10 13 (by omega)) (er 10 14 (by omega)) (er 10 24 (by omega)), hT.fr (iI 8 (by omega) (by omega)) (iI 21 (by omega) (by omega)) (er 10 12 (by omega)) (fun c _ => er 33 c (by omega)), hS.fr (iI 24 (by omega) (by omega)) (fun c => er 32 c (by omega)), hF.fr (iP 14 (by omega) (by omega)) (iI 1 (by omega) (by omega)) (fun c _ => er 43 c (by omega)) (fun c _ => er 44 c (by omega)), hH.fr (iI 2 (by omega) (by omega)) (iP 22 (by omega) (by omega)) (er 10 9 (by omega)) (fun c _ => er 31 c (by omega)), hP.fr (iI 5 (by omega) (by omega)) (iI 23 (by omega) (by omega)) (er 10 28 (by omega)) (fun c _ => er 45 c (by omega)), fun t ht => ?_, fun j hj => ?_, hL.fr (iI 3 (by omega) (by omega)) (iP 3 (by omega) (by omega)) (iP 13 (by omega) (by omega)) (iP 16 (by omega) (by omega)) (iI 17 (by omega) (by omega)) (iI 18 (by omega) (by omega)) (iI 19 (by omega) (by omega)) (iI 20 (by omega) (by omega)) (fun t => by rw [mPut_P, if_neg (by omega), if_neg (by omega), if_neg (by omega)]) (er 10 14 (by omega)) (fun a b hab => er a b (by omega))⟩
  · rw [er 10 1 (by omega)] at ht
    obtain ⟨o1, o2, o3, o4, o5, o6, o7⟩ := hO t ht
    rw [iP 12 (by omega) (by omega), er 25 t (by omega), er 26 t (by omega), spPut_27, spPut_28]
    refine ⟨o1, ?_, ?_, ?_, ?_, ?_, ?_⟩
    · rw [mPut_I, if_neg (by omega), if_neg (by omega)]; exact o2
    · rw [mPut_I, if_neg (by omega), if_neg (by omega)]; exact o3
    · rw [mPut_I, if_neg (by omega), if_neg (by omega)]; exact o4
    · rw [mPut_I, if_neg (by omega), if_neg (by omega)]; exact o5
    · rw [mPut_I, if_neg (by omega), if_neg (by omega), o6]
      by_cases e : t = s
      · rw [if_pos e, e, h28]
      · rw [if_neg e]
    · rw [mPut_I, if_neg (by omega)]
      by_cases e : t = s
      · rw [if_pos ⟨rfl, e, rfl⟩, if_pos e]
      · rw [if_neg (fun q => e q.2.1), if_neg e]
        exact o7
  · obtain ⟨⟨a1, a2, a3, a4, a5⟩, b⟩ := hK j hj
    have hcj := hc j hj
    have el : spLead (spPut S k s) j (S 10 1) = spLead S j (S 10 1) := spLead_fr (fun t _ => er 25 t (by omega)) (fun t _ => by
      rw [spPut_27]
      by_cases e : t = s
      · rw [if_pos e, e]
        exact ⟨fun q => by omega, fun q => absurd q h27⟩
      · rw [if_neg e])
    have et : ∀ i, i ≤ S 30 j → topP (spPut S k s) j i = topP S j i := fun i hi => topP_fr (fun i2 hi2 => by
      rw [spPut_29, if_neg]
      by_cases e : j = k
      · subst e; omega
      · omega)
    rw [iP 11 (by omega) (by omega), er 10 1 (by omega), el, spPut_30]
    by_cases e : j = k
    · subst e
      rw [if_pos rfl]
      refine ⟨⟨a1, ?_, ?_, ?_, ?_⟩, fun i hi => ?_⟩
      · rw [mPut_I, if_neg (by omega), if_neg (by omega)]; exact a2
      · rw [mPut_P, if_pos ⟨rfl, rfl, rfl⟩]
        unfold topP
        rw [if_neg (by omega), Nat.add_sub_cancel, spPut_29, if_pos rfl]
      · rw [mPut_I, if_pos ⟨rfl, rfl, rfl⟩, a4, nI_add]
      · rw [mPut_I, if_neg (by omega), if_neg (by omega)]; exact a5
      · rw [spPut_29]
        by_cases e2 : i = S 30 j
        · subst e2
          rw [if_pos rfl, mPut_P, if_neg (by omega), if_pos ⟨rfl, rfl, rfl⟩, mPut_P, if_neg (by omega), if_neg (by omega), if_pos ⟨rfl, rfl, rfl⟩, et _ (Nat.le_refl _)]
          exact ⟨a3, rfl⟩
        · have hn := hno j i hj (by omega)
          rw [if_neg (by omega), mPut_P, if_neg (by omega), if_neg (fun q => hn q.2.1), if_neg (by omega), mPut_P, if_neg (by omega), if_neg (by omega), if_neg (fun q => hn q.2.1), et i (by omega)]
          exact b i (by omega)
    · rw [if_neg e]
      refine ⟨⟨a1, ?_, ?_, ?_, ?_⟩, fun i hi => ?_⟩
      · rw [mPut_I, if_neg (by omega), if_neg (by omega)]; exact a2
      · rw [mPut_P, if_neg (by omega), if_neg (by omega), if_neg (by omega), et _ (Nat.le_refl _)]; exact a3
      · rw [mPut_I, if_neg (by omega), if_neg (by omega)]; exact a4
      · rw [mPut_I, if_neg (by omega), if_neg (by omega)]; exact a5
      · have hn := hno j i hj hi
        rw [spPut_29, if_neg (by omega), mPut_P, if_neg (by omega), if_neg (fun q => hn q.2.1), if_neg (by omega), mPut_P, if_neg (by omega), if_neg (by omega), if_neg (fun q => hn q.2.1), et i (by omega)]
        exact b i hi
theorem CM_take {k : Nat} (h : CM M S p) (hk : k < 58) (h0 : 0 < S 30 k) (hc : ∀ j, j < 58 → S 30 j ≤ 300) (hno : ∀ j i, j < 58 → i < S 30 j → S 29 (300 * j + i) = spTop S k → j = k ∧ i = S 30 k - 1) : CM (mTake M k (spTop S k)) (spTake S k) p := by
  obtain ⟨hB, hT, hS, hF, hH, hP, hO, hK, hL⟩ := h
  have iI : ∀ r, ¬ r = 4 → sI M (mTake M k (spTop S k)) r := fun r h4 i c => by rw [mTake_I, if_neg (fun q => h4 q.1)]
  have iP : ∀ r, ¬ r = 4 → ¬ r = 6 → sP M (mTake M k (spTop S k)) r := fun r h4 h6 i c => by rw [mTake_P, if_neg (fun q => h6 q.1), if_neg (fun q => h4 q.1)]
  have er : ∀ a b, ¬ a = 30 → spTake S k a b = S a b := fun a b hab => by
    show sw S 30 k (S 30 k - 1) a b = _
    rw [sw_at, if_neg (fun q => hab q.1)]
  have e30 : ∀ j, spTake S k 30 j = if j = k then S 30 k - 1 else S 30 j := fun j => by
    show sw S 30 k (S 30 k - 1) 30 j = _
    simp [sw_at]
  refine ⟨hB.fr (fun c => iP 9 (by omega) (by omega) 0 c) (fun c _ => iI 9 (by omega) 0 c) (iP 7 (by omega) (by omega)) (iP 8 (by omega) (by omega)) (iP 2 (by omega) (by omega)) (iP 5 (by omega) (by omega)) rfl (er 10 1 (by omega)) (er 10 13 (by omega)) (er 10 14 (by omega)) (er 10 24 (by omega)), hT.fr (iI 8 (by omega)) (iI 21 (by omega)) (er 10 12 (by omega)) (fun c _ => er 33 c (by omega)), hS.fr (iI 24 (by omega)) (fun c => er 32 c (by omega)), hF.fr (iP 14 (by omega) (by omega)) (iI 1 (by omega)) (fun c _ => er 43 c (by omega)) (fun c _ => er 44 c (by omega)), hH.fr (iI 2 (by omega)) (iP 22 (by omega) (by omega)) (er 10 9 (by omega)) (fun c _ => er 31 c (by omega)), hP.fr (iI 5 (by omega)) (iI 23 (by omega)) (er 10 28 (by omega)) (fun c _ => er 45 c (by omega)), hO.fr (iP 12 (by omega) (by omega)) (iI 6 (by omega)) (er 10 1 (by omega)) (fun a t ha _ => er a t (by omega)), fun j hj => ?_, hL.fr (iI 3 (by omega)) (iP 3 (by omega) (by omega)) (iP 13 (by omega) (by omega)) (iP 16 (by omega) (by omega)) (iI 17 (by omega)) (iI 18 (by omega)) (iI 19 (by omega)) (iI 20 (by omega)) (fun t => by rw [mTake_P, if_neg (by omega), if_neg (by omega)]) (er 10 14 (by omega)) (fun a b hab => er a b (by omega))⟩
  obtain ⟨⟨a1, a2, a3, a4, a5⟩, b⟩ := hK j hj
  have el : spLead (spTake S k) j (S 10 1) = spLead S j (S 10 1) := rfl
  have et : ∀ i, topP (spTake S k) j i = topP S j i := fun i => rfl
  rw [iP 11 (by omega) (by omega), er 10 1 (by omega), el, e30, et]
  by_cases e : j = k
  · subst e
    rw [if_pos rfl]
    have b1 := b (S 30 j - 1) (by omega)
    refine ⟨⟨a1, ?_, ?_, ?_, ?_⟩, fun i hi => ?_⟩
    · rw [mTake_I, if_neg (by omega)]; exact a2
    · rw [mTake_P, if_neg (by omega), if_pos ⟨rfl, rfl, rfl⟩]
      exact b1.1
    · rw [mTake_I, if_pos ⟨rfl, rfl, rfl⟩, a4, pk_sub (by omega)]
    · rw [mTake_I, if_neg (by omega)]; exact a5
    · rw [er 29 _ (by omega), et, mTake_P, if_neg (fun q => by have := (hno j i hj (by omega) q.2.1).2; omega), if_neg (by omega), mTake_P, if_neg (by omega), if_neg (by omega)]
      exact b i (by omega)
  · rw [if_neg e]
    refine ⟨⟨a1, ?_, ?_, ?_, ?_⟩, fun i hi => ?_⟩
    · rw [mTake_I, if_neg (by omega)]; exact a2
    · rw [mTake_P, if_neg (by omega), if_neg (by omega)]; exact a3
    · rw [mTake_I, if_neg (by omega)]; exact a4
    · rw [mTake_I, if_neg (by omega)]; exact a5
    · rw [er 29 _ (by omega), et, mTake_P, if_neg (fun q => e (hno j i hj hi q.2.1).1), if_neg (by omega), mTake_P, if_neg (by omega), if_neg (by omega)]
      exact b i hi
/-- a number of a sort: its wear, whether it is turned, where it is -/
theorem CM_sort {s c a v : Nat} (h : CM M S p) (hca : (c = 3 ∧ a = 26) ∨ (c = 4 ∧ a = 28) ∨ (c = 5 ∧ a = 27 ∧ (v = 3 ↔ S 27 s = 3))) : CM (wI M 6 s c (nI v)) (sw S a s v) p := by
  obtain ⟨hB, hT, hS, hF, hH, hP, hO, hK, hL⟩ := h
  have iI : ∀ r, ¬ r = 6 → sI M (wI M 6 s c (nI v)) r := fun r h6 i c => by rw [qI_wI, if_neg (fun q => h6 q.1)]
  have iP : ∀ r, sP M (wI M 6 s c (nI v)) r := fun r i c => rfl
  have er : ∀ x b, ¬ (x = 26 ∨ x = 27 ∨ x = 28) → sw S a s v x b = S x b := fun x b hab => by rw [sw_at, if_neg (by omega)]
  refine ⟨hB.fr (fun c => rfl) (fun c _ => iI 9 (by omega) 0 c) (iP 7) (iP 8) (iP 2) (iP 5) rfl (er 10 1 (by omega)) (er 10 13 (by omega)) (er 10 14 (by omega)) (er 10 24 (by omega)), hT.fr (iI 8 (by omega)) (iI 21 (by omega)) (er 10 12 (by omega)) (fun c _ => er 33 c (by omega)), hS.fr (iI 24 (by omega)) (fun c => er 32 c (by omega)), hF.fr (iP 14) (iI 1 (by omega)) (fun c _ => er 43 c (by omega)) (fun c _ => er 44 c (by omega)), hH.fr (iI 2 (by omega)) (iP 22) (er 10 9 (by omega)) (fun c _ => er 31 c (by omega)), hP.fr (iI 5 (by omega)) (iI 23 (by omega)) (er 10 28 (by omega)) (fun c _ => er 45 c (by omega)), fun t ht => ?_, hK.fr (iP 11) (iI 4 (by omega)) (iP 4) (fun k i _ _ => ⟨rfl, rfl⟩) (er 10 1 (by omega)) (fun c _ => er 30 c (by omega)) (fun k i _ _ => er 29 _ (by omega)) (fun t _ => er 25 t (by omega)) (fun t _ => ?_), hL.fr (iI 3 (by omega)) (iP 3) (iP 13) (iP 16) (iI 17 (by omega)) (iI 18 (by omega)) (iI 19 (by omega)) (iI 20 (by omega)) (fun t => rfl) (er 10 14 (by omega)) (fun a b hab => er a b (by omega))⟩
  · rw [er 10 1 (by omega)] at ht
    obtain ⟨o1, o2, o3, o4, o5, o6, o7⟩ := hO t ht
    rw [er 25 t (by omega)]
    simp only [qI_wI, qP_wI, sw_at, true_and]
    refine ⟨o1, ?_, ?_, ?_, ?_, ?_, ?_⟩
    · rw [if_neg (by omega)]; exact o2
    · rw [if_neg (by omega)]; exact o3
    · rw [if_neg (by omega)]; exact o4
    · by_cases e : t = s ∧ c = 3
      · rw [if_pos (by omega), if_pos (by omega)]
      · rw [if_neg (by omega), if_neg (by omega)]; exact o5
    · by_cases e : t = s ∧ c = 4
      · rw [if_pos (by omega), if_pos (by omega)]
      · rw [if_neg (by omega), if_neg (by omega)]; exact o6
    · by_cases e : t = s ∧ c = 5
      · rw [if_pos (by omega), if_pos (by omega)]
      · rw [if_neg (by omega), if_neg (by omega)]; exact o7
  · rw [sw_at]
    by_cases e : 27 = a ∧ t = s
    · rw [if_pos e]
      rcases hca with q | q | q
      · omega
      · omega
      · rw [e.2]; exact q.2.2
    · rw [if_neg e]
/-- a link of a sort that is in no pile, to its box; a link to its line, of one that is in no line -/
theorem CM_lnk {s c : Nat} {v : Option Nat} (h : CM M S p) (hc : (c = 7 ∧ ∀ l k, l < S 10 14 → k < S 35 l → ¬ S 36 (64 * l + k) = s) ∨ (c = 6 ∧ ∀ j i, j < 58 → i < S 30 j → ¬ S 29 (300 * j + i) = s)) : CM (wP M 6 s c v) S p := by
  obtain ⟨hB, hT, hS, hF, hH, hP, hO, hK, hL⟩ := h
  have iI : ∀ r, sI M (wP M 6 s c v) r := fun r i c => rfl
  have iP : ∀ r, ¬ r = 6 → sP M (wP M 6 s c v) r := fun r h6 i c => by rw [qP_wP, if_neg (fun q => h6 q.1)]
  refine ⟨hB.fr (fun c => iP 9 (by omega) 0 c) (fun c _ => rfl) (iP 7 (by omega)) (iP 8 (by omega)) (iP 2 (by omega)) (iP 5 (by omega)) rfl rfl rfl rfl rfl, hT.fr (iI 8) (iI 21) rfl (fun _ _ => rfl), hS.fr (iI 24) (fun _ => rfl), hF.fr (iP 14 (by omega)) (iI 1) (fun _ _ => rfl) (fun _ _ => rfl), hH.fr (iI 2) (iP 22 (by omega)) rfl (fun _ _ => rfl), hP.fr (iI 5) (iI 23) rfl (fun _ _ => rfl), hO.fr (iP 12 (by omega)) (iI 6) rfl (fun _ _ _ _ => rfl), hK.fr (iP 11 (by omega)) (iI 4) (iP 4 (by omega)) (fun k i hk hi => ?_) rfl (fun _ _ => rfl) (fun _ _ _ _ => rfl) (fun _ _ => rfl) (fun _ _ => Iff.rfl), ?_⟩
  · rw [qP_wP, qP_wP]
    rcases hc with q | q
    · rw [if_neg (by omega), if_neg (by omega)]; exact ⟨rfl, rfl⟩
    · have := q.2 k i hk hi
      rw [if_neg (by omega), if_neg (fun z => this z.2.1)]; exact ⟨rfl, rfl⟩
  · obtain ⟨l1, l2, l3, l4⟩ := hL
    refine ⟨l1.fr (fun o k hk => iP 3 (by omega) o k), l2.fr (iP 13 (by omega)), fun l hl => ⟨(l3 l hl).1.fr (fun _ => rfl) (iP 3 (by omega) _ _) (fun k => iP 16 (by omega) _ k) (fun _ => rfl) (fun _ => rfl) (fun k hk => ?_) (fun _ _ => rfl) (fun _ _ => ⟨rfl, rfl⟩) (fun _ _ => rfl), (l3 l hl).2.fr (fun _ => rfl) (fun _ => rfl) rfl (fun _ _ _ _ => rfl)⟩, fun l hl hl2 => (l4 l hl hl2).fr (fun _ => rfl) (fun _ => rfl)⟩
    rw [qP_wP]
    rcases hc with q | q
    · have := q.2 l k hl hk
      rw [if_neg (fun z => this z.2.1)]
    · rw [if_neg (by omega)]
end
