/-! PURE: set and ahead go together; what lift, sortPie, proof and mend do to what the law asks -/
theorem sgn_eq {S T : jS} {t k : Nat} (h : ∀ k, T 33 k = S 33 k) : spSgn T t k = spSgn S t k := by unfold spSgn; rw [h]
theorem sgn_lt {S : jS} {t k : Nat} (h : ∀ k, S 33 k < 65536) : spBox (spSgn S t k) < 65536 := by
  have h1 : spSgn S t k < 65536 := by
    unfold spSgn
    split
    · omega
    · exact h k
  unfold spBox
  split
  · omega
  · split
    · omega
    · split <;> omega
theorem ah_lock {S : jS} {l f b t : Nat} (hf : f < 2) (h33 : ∀ k, S 33 k < 65536) : ∀ (d k : Nat) (T : jS) (c : Nat → Nat), (∀ k, T 33 k = S 33 k) → (∀ j, T 30 j = c j) → (¬ (spSet l f b t d k T).1 = 0 → (ahS S f t d k c).1 = 0) ∧ (b = 0 → (spSet l f b t d k T).1 = 0 → (ahS S f t d k c).1 = 1)
  | 0, k, T, c, _, _ => ⟨fun q => absurd rfl q, fun _ _ => rfl⟩
  | d + 1, k, T, c, e33, e30 => by
    have es : spSgn T t k = spSgn S t k := sgn_eq e33
    have hj := jNo_v
    have hb := sgn_lt (S := S) (t := t) (k := k) h33
    unfold spSet ahS
    rw [es]
    by_cases h32 : spSgn S t k = 32
    · rw [if_neg (fun q => q.1 h32), if_pos h32]
      have hT : spSt l f b t k T = spStG l k T := by unfold spSt; rw [es, if_pos h32]
      rw [hT]
      refine ah_lock hf h33 d (k + 1) _ c (fun j => ?_) (fun j => ?_)
      · rw [← e33]; unfold spStG; split <;> simp [sw_at]
      · rw [← e30]; unfold spStG; split <;> simp [sw_at]
    · rw [if_neg h32]
      have haf : 29 * f + spBox (spSgn S t k) < jNo := by omega
      by_cases hc : c (29 * f + spBox (spSgn S t k)) = 0
      · rw [if_pos hc]
        refine ⟨fun _ => rfl, fun hb h0 => ?_⟩
        subst hb
        have hp : spPickAt T (29 * f + spBox (spSgn S t k)) f 0 = jNo := by unfold spPickAt; rw [if_neg (by rw [e30, hc]; omega), if_pos rfl]
        rw [if_pos ⟨h32, hp⟩] at h0
        exact absurd h0 (Nat.succ_ne_zero _)
      · rw [if_neg hc]
        have h30 : 0 < T 30 (29 * f + spBox (spSgn S t k)) := by rw [e30]; omega
        have hp : spPickAt T (29 * f + spBox (spSgn S t k)) f b = 29 * f + spBox (spSgn S t k) := by unfold spPickAt; rw [if_pos h30]
        rw [if_neg (fun q => by have := q.2; rw [hp] at this; omega)]
        have hT : spSt l f b t k T = spStN l f b (spSgn S t k) T := by unfold spSt; rw [es, if_neg h32]
        have hn : ¬ spPickAt T (29 * f + spBox (spSgn S t k)) f b = jNo := by rw [hp]; omega
        rw [hT]
        refine ah_lock hf h33 d (k + 1) _ _ (fun j => ?_) (fun j => ?_)
        · rw [← e33]
          unfold spStN
          rw [sw_at, if_neg (by omega), sw_at, if_neg (by omega), sw_at, if_neg (by omega), spPick_row (by omega)]
        · unfold spStN dec1
          rw [sw_at, if_neg (by omega), sw_at, if_neg (by omega), sw_at, if_neg (by omega), spPick_30 hn, hp, e30]
theorem ahL_le {S : jS} {f : Nat} : ∀ (d p n : Nat) (c : Nat → Nat), ahL S f d p n c ≤ n + d ∧ n ≤ ahL S f d p n c
  | 0, _, n, _ => ⟨Nat.le_refl _, Nat.le_refl _⟩
  | d + 1, p, n, c => by
    unfold ahL
    split
    · exact ⟨by omega, Nat.le_refl _⟩
    · split
      · exact ⟨by omega, Nat.le_refl _⟩
      · obtain ⟨h1, h2⟩ := ahL_le (S := S) (f := f) d (spTo S p f) (n + 1) (ahS S f (spTo S p f) (spTo S p f + spSplit S p f - spBlanks S p) (spBlanks S p) c).2
        exact ⟨by omega, by omega⟩
theorem ahead_no {S : jS} {f : Nat} (h : (ahS S f (spTo S 0 f) (spTo S 0 f + spSplit S 0 f - spBlanks S 0) (spBlanks S 0) (S 30)).1 = 0) : ahL S f 61 0 0 (S 30) = 0 := by
  show ahL S f (60 + 1) 0 0 (S 30) = 0
  unfold ahL
  split
  · rfl
  · first
      | rfl
      | rw [if_pos h]
theorem ahead_yes {S : jS} {f : Nat} (h0 : ¬ spBlanks S 0 = spWord S (spBlanks S 0)) (h : (ahS S f (spTo S 0 f) (spTo S 0 f + spSplit S 0 f - spBlanks S 0) (spBlanks S 0) (S 30)).1 = 1) : 0 < ahL S f 61 0 0 (S 30) := by
  show 0 < ahL S f (60 + 1) 0 0 (S 30)
  unfold ahL
  rw [if_neg h0, if_neg (by omega)]
  exact (ahL_le (S := S) (f := f) 60 (spTo S 0 f) (0 + 1) (ahS S f (spTo S 0 f) (spTo S 0 f + spSplit S 0 f - spBlanks S 0) (spBlanks S 0) (S 30)).2).2
theorem setR_lock {S : jS} {f b : Nat} (hW : Wf S) (hf : f < 2) (hno : ¬ spNoSet S) : (¬ (spSetR S f b).1 = 0 → ahL S f 61 0 0 (S 30) = 0) ∧ (b = 0 → (spSetR S f b).1 = 0 → 0 < ahL S f 61 0 0 (S 30)) := by
  have h := ah_lock (S := S) (l := S 10 14) (f := f) (b := b) (t := spTo S 0 f) hf hW.1.1.2.1.2.1 (spEndN S f - spBlanks S 0) (spBlanks S 0) (spBeg S f) (S 30) (fun k => spBeg_row (by omega)) (fun k => spBeg_row (by omega))
  exact ⟨fun q => ahead_no (h.1 q), fun hb q => ahead_yes (fun z => hno (Or.inl z)) (h.2 hb q)⟩
theorem WS_run {S : jS} {l f b t fr en : Nat} (hW : Wf S) (hf : f < 2) (hl : l < 12) (hen : en ≤ fr + 60) (hk : ∀ k, fr ≤ k → k < en → k = t ∨ k < S 10 12) : ∀ (d k : Nat) (T : jS), WS S T l f fr k → fr ≤ k → k + d = en → (spSet l f b t d k T).1 = 0 → WS S (spSet l f b t d k T).2 l f fr en
  | 0, k, T, h, _, e, _ => by
    have e2 : k = en := by omega
    subst e2
    exact h
  | d + 1, k, T, h, hfk, e, h0 => by
    have e33 := (h.facts hW (by omega)).1
    unfold spSet at h0 ⊢
    by_cases c : ¬ spSgn T t k = 32 ∧ spPickAt T (29 * f + spBox (spSgn T t k)) f b = jNo
    · rw [if_pos c] at h0
      exact absurd h0 (Nat.succ_ne_zero _)
    · rw [if_neg c] at h0 ⊢
      refine WS_run hW hf hl hen hk d (k + 1) _ ?_ (by omega) (by omega) h0
      by_cases h32 : spSgn T t k = 32
      · have hT : spSt l f b t k T = spStG l k T := by unfold spSt; rw [if_pos h32]
        rw [hT]
        exact WS_G h hl (by omega)
      · have hT : spSt l f b t k T = spStN l f b (spSgn T t k) T := by unfold spSt; rw [if_neg h32]
        rw [hT]
        refine WS_N h hf ?_ (fun q => c ⟨h32, q⟩) hl (by omega)
        by_cases e1 : k = t
        · have : spSgn T t k = 45 := by unfold spSgn; rw [if_pos e1]
          rw [this]
          decide
        · have e2 : spSgn T t k = S 33 k := by unfold spSgn; rw [if_neg e1, e33]
          have h3 := hW.1.1.2.1.2.2 k ((hk k hfk (by omega)).resolve_left e1)
          rw [e2] at h32 ⊢
          unfold spBox
          rcases h3 with q | q | q | q | q
          · exact absurd q h32
          · rw [q]; decide
          · rw [q]; decide
          · rw [q]; decide
          · rw [if_neg (by omega), if_neg (by omega), if_neg (by omega)]; omega
theorem WS_end {S : jS} {f b : Nat} (hW : Wf S) (hf : f < 2) (hno : ¬ spNoSet S) (h0 : (spSetR S f b).1 = 0) : WS S (spSetR S f b).2 (S 10 14) f (spBlanks S 0) (spEndN S f) ∧ spEndN S f ≤ spBlanks S 0 + 60 ∧ S 10 14 < 12 := by
  have hn := hW.1.1.1
  have h12 := hW.1.1.2.1.1
  obtain ⟨f1, f2, f3⟩ := spTo_facts (f := f) hW hf (fun z => hno (Or.inl z))
  have hl : S 10 14 < 12 := by
    have : ¬ S 10 14 = 12 := fun z => hno (Or.inr z)
    omega
  have hE : spEndN S f = spTo S 0 f + spSplit S 0 f := rfl
  refine ⟨WS_run hW hf hl (by omega) (fun k h1 h2 => ?_) (spEndN S f - spBlanks S 0) (spBlanks S 0) (spBeg S f) (WS_beg hW) (Nat.le_refl _) (by omega) h0, by omega, hl⟩
  rcases f3 with q | ⟨q, q2, -⟩ <;> omega
/-! lift -/
theorem spHeaps_9 {l : Nat} (S : jS) : ∀ n, spHeaps l n S 10 9 = S 10 9 + n
  | 0 => rfl
  | n + 1 => by
    show spToHeap (spHeaps l n S) _ 10 9 = _
    rw [spToHeap_9, spHeaps_9 S n]
    omega
theorem spFall_9 (S : jS) (l : Nat) : spFall S l 10 9 = S 10 9 + S 35 l := by
  unfold spFall
  rw [spDrop_row _ _ (by omega), spEmpty_row _ _ (by omega), spHeaps_9]
theorem LF_cnt {f : Nat} : ∀ (d l h : Nat) (S : jS), h ≤ (spLF f d l h S).1 ∧ (spLF f d l h S).2 10 9 + h = S 10 9 + (spLF f d l h S).1 ∧ (spLF f d l h S).2 10 14 ≤ S 10 14 ∧ ∀ a b, ¬ ((27 ≤ a ∧ a ≤ 42) ∨ (a = 10 ∧ (b = 14 ∨ b = 9))) → (spLF f d l h S).2 a b = S a b
  | 0, _, _, _ => ⟨Nat.le_refl _, rfl, Nat.le_refl _, fun _ _ _ => rfl⟩
  | d + 1, l, h, S => by
    unfold spLF
    split
    · split
      · split
        · obtain ⟨a1, a2, a3, a4⟩ := LF_cnt (f := f) d (l + 1) h (sw S 42 l jNo)
          rw [show sw S 42 l jNo 10 9 = S 10 9 by rw [sw_at, if_neg (by omega)]] at a2
          rw [show sw S 42 l jNo 10 14 = S 10 14 by rw [sw_at, if_neg (by omega)]] at a3
          exact ⟨a1, a2, a3, fun a b hab => by rw [a4 a b hab, sw_at, if_neg (by omega)]⟩
        · obtain ⟨a1, a2, a3, a4⟩ := LF_cnt (f := f) d l (h + S 35 l) (spFall (sw S 42 l jNo) l)
          rw [spFall_9, show sw S 42 l jNo 10 9 = S 10 9 by rw [sw_at, if_neg (by omega)], show sw S 42 l jNo 35 l = S 35 l by rw [sw_at, if_neg (by omega)]] at a2
          rw [spFall_14, show sw S 42 l jNo 10 14 = S 10 14 by rw [sw_at, if_neg (by omega)]] at a3
          exact ⟨by omega, by omega, by omega, fun a b hab => by rw [a4 a b hab, spFall_row hab, sw_at, if_neg (by omega)]⟩
      · exact LF_cnt d (l + 1) h S
    · exact ⟨Nat.le_refl _, rfl, Nat.le_refl _, fun _ _ _ => rfl⟩
theorem tight_eq {S S' : jS} {l : Nat} (h : LQ S S' l l) (h13 : S' 10 13 = S 10 13) : spTight S' l ↔ spTight S l := by
  unfold spTight
  rw [h.1, h.2, h13]
theorem LF_fall {f : Nat} : ∀ (d l h : Nat) (S : jS) (m : Nat), l ≤ m → m < S 10 14 → m < l + d → S 42 m = f → ¬ spTight S m → (spLF f d l h S).2 10 14 < S 10 14
  | 0, l, h, S, m, h1, h2, h3, h4, h5 => by omega
  | d + 1, l, h, S, m, h1, h2, h3, h4, h5 => by
    have hq : LQ S (sw S 42 l jNo) m m := LQ.rows (fun a b hab => by rw [sw_at, if_neg (by omega)])
    have e14 : sw S 42 l jNo 10 14 = S 10 14 := by rw [sw_at, if_neg (by omega)]
    unfold spLF
    rw [if_pos (by omega)]
    by_cases c : S 42 l = f
    · rw [if_pos c]
      by_cases ct : spTight S l
      · rw [if_pos ct]
        have hne : ¬ l = m := fun z => h5 (z ▸ ct)
        have := LF_fall (f := f) d (l + 1) h (sw S 42 l jNo) m (by omega) (by rw [e14]; exact h2) (by omega) (by rw [sw_at, if_neg (by omega)]; exact h4) (fun z => h5 ((tight_eq hq (by rw [sw_at, if_neg (by omega)])).mp z))
        rw [e14] at this
        exact this
      · rw [if_neg ct]
        have := (LF_cnt (f := f) d l (h + S 35 l) (spFall (sw S 42 l jNo) l)).2.2.1
        rw [spFall_14, e14] at this
        omega
    · rw [if_neg c]
      exact LF_fall d (l + 1) h S m (by have : ¬ l = m := fun z => c (z ▸ h4); omega) h2 (by omega) h4 h5
theorem Snd_ex {S : jS} {f n : Nat} (h : ¬ spSnd S f n = 0) : ∃ m, m < n ∧ S 42 m = f ∧ ¬ spTight S m := by
  obtain ⟨m, h1, h2⟩ := sumr_pos (f := fun l => jb (S 42 l = f ∧ ¬ spTight S l)) (n := n) (Nat.pos_of_ne_zero h)
  refine ⟨m, h1, ?_⟩
  by_cases c : S 42 m = f ∧ ¬ spTight S m
  · exact c
  · have e : jb (S 42 m = f ∧ ¬ spTight S m) = 0 := jb_f c
    have h3 : 0 < jb (S 42 m = f ∧ ¬ spTight S m) := h2
    omega
/-! unlock, sortPie -/
theorem UL_row {f : Nat} {a b : Nat} (hab : ¬ ((27 ≤ a ∧ a ≤ 42) ∨ (a = 10 ∧ b = 14))) : ∀ (d l h : Nat) (S : jS), (spUL f d l h S).2 a b = S a b
  | 0, _, _, _ => rfl
  | d + 1, l, h, S => by
    unfold spUL
    split
    · split
      · rw [UL_row hab d, spBack_row hab]
      · exact UL_row hab d _ _ _
    · rfl
theorem SP_cnt : ∀ (d h : Nat) (S : jS), (spSP d h S).2 10 9 = S 10 9 - d ∧ (spSP d h S).1 ≤ h + min d (S 10 9) ∧ ∀ a b, ¬ (a = 27 ∨ a = 28 ∨ a = 29 ∨ a = 30 ∨ a = 31 ∨ (a = 10 ∧ b = 9)) → (spSP d h S).2 a b = S a b
  | 0, h, S => ⟨rfl, Nat.le_add_right _ _, fun _ _ _ => rfl⟩
  | d + 1, h, S => by
    unfold spSP
    split
    · obtain ⟨a1, a2, a3⟩ := SP_cnt d (h + jb (nI (S 26 (S 31 0)) < nI 12)) (spHome (spOffHeap S 0) (S 31 0))
      have e9 : spHome (spOffHeap S 0) (S 31 0) 10 9 = S 10 9 - 1 := by rw [spHome_row (by omega), spOffHeap_9]
      have hj : jb (nI (S 26 (S 31 0)) < nI 12) ≤ 1 := by unfold jb; split <;> omega
      rw [e9] at a1 a2
      exact ⟨by omega, by omega, fun a b hab => by rw [a3 a b hab, spHome_row (by omega), spOffHeap_row S 0 (by omega)]⟩
    · refine ⟨?_, Nat.le_add_right _ _, fun _ _ _ => rfl⟩
      show S 10 9 = S 10 9 - (d + 1)
      omega
/-! proof -/
def okg (c : Nat) : Prop := (97 ≤ c ∧ c ≤ 122) ∨ c = 32 ∨ (44 ≤ c ∧ c ≤ 46) ∨ c = 61 ∨ c = 63
def PG (S : jS) : Prop := ∀ k, k < S 10 28 → okg (S 45 k)
theorem PG.of {S S' : jS} (h : PG S) (h45 : ∀ k, S' 45 k = S 45 k) (h28 : S' 10 28 = S 10 28) : PG S' := fun k hk => by
  rw [h28] at hk
  rw [h45]
  exact h k hk
theorem okg_sign (f : Nat) : okg (spSign f) := by
  have h := Nat.mod_lt f (show 29 > 0 by decide)
  unfold spSign
  split
  · exact Or.inr (Or.inr (Or.inl ⟨by omega, by omega⟩))
  · split
    · exact Or.inr (Or.inr (Or.inl ⟨by omega, by omega⟩))
    · split
      · exact Or.inr (Or.inr (Or.inl ⟨by omega, by omega⟩))
      · exact Or.inl ⟨by omega, by omega⟩
theorem okg_glyph (S : jS) (s : Nat) : okg (spGlyph S s) := by
  unfold spGlyph
  split
  · split
    · exact okg_sign _
    · exact Or.inr (Or.inr (Or.inr (Or.inl rfl)))
  · exact Or.inr (Or.inr (Or.inr (Or.inr rfl)))
theorem PG.show {S : jS} (h : PG S) {c : Nat} (hc : okg c) : PG (spShow S c) := by
  intro k hk
  rw [spShow_28] at hk
  have e : spShow S c 45 k = if k = S 10 28 then c else S 45 k := by
    unfold spShow
    rw [sw_at, if_neg (by omega), sw_at]
    by_cases e : k = S 10 28
    · rw [if_pos ⟨rfl, e⟩, if_pos e]
    · rw [if_neg (fun q => e q.2), if_neg e]
  rw [e]
  split
  · exact hc
  · exact h k (by omega)
theorem PG.ink {S : jS} (h : PG S) {s : Nat} : PG (spInk S s) := (h.show (okg_glyph S s)).of (fun k => by unfold spInk; rw [sw_at, if_neg (by omega)]) (by unfold spInk; rw [sw_at, if_neg (by omega)])
theorem PG.prL {l : Nat} {S : jS} (h : PG S) : ∀ k, PG (spPrL l k S).2
  | 0 => h
  | k + 1 => by
    have ih := PG.prL (l := l) h k
    unfold spPrL
    split
    · refine PG.ink ?_
      split
      · exact ih.show (Or.inr (Or.inl rfl))
      · exact ih
    · exact ih.ink
theorem PG.prA {f : Nat} {S : jS} (h : PG S) : ∀ l, PG (spPrA f l S)
  | 0 => h
  | l + 1 => by
    unfold spPrA
    split
    · exact (PG.prA h l).prL _
    · exact PG.prA h l
theorem PG_proof {S : jS} {f x v : Nat} : PG (sw (spPrA f (S 10 14) (sw (sw S 10 0 0) 10 28 0)) 44 x v) := by
  have h : PG (sw (sw S 10 0 0) 10 28 0) := fun k hk => by
    have e : sw (sw S 10 0 0) 10 28 0 10 28 = 0 := by rw [sw_at, if_pos ⟨rfl, rfl⟩]
    rw [e] at hk
    omega
  exact (h.prA (f := f) (S 10 14)).of (fun k => by rw [sw_at, if_neg (by omega)]) (by rw [sw_at, if_neg (by omega)])
/-! a line's wrong places -/
theorem CW_sum {S : jS} {l m : Nat} : ∀ d, d ≤ m → spCW S l m d + sumr (fun k => jb (spWrong S l k)) 0 (m - d) = sumr (fun k => jb (spWrong S l k)) 0 m
  | 0, _ => by show 0 + _ = _; rw [Nat.sub_zero]; omega
  | d + 1, h => by
    have ih := CW_sum (S := S) (l := l) (m := m) d (by omega)
    rw [show m - d = (m - (d + 1)) + 1 by omega, sumr_s] at ih
    unfold spCW
    omega
theorem CW_all {S : jS} {l m : Nat} : spCW S l m m = sumr (fun k => jb (spWrong S l k)) 0 m := by
  have h := CW_sum (S := S) (l := l) (m := m) m (Nat.le_refl _)
  rw [Nat.sub_self] at h
  exact h
theorem FW_spec {S : jS} {l m : Nat} : ∀ d, d ≤ m → (spFW S l m d = jNo ∧ spCW S l m d = 0) ∨ (spFW S l m d < m ∧ spWrong S l (spFW S l m d) ∧ 0 < spCW S l m d)
  | 0, _ => Or.inl ⟨rfl, rfl⟩
  | d + 1, h => by
    unfold spFW spCW
    by_cases c : spWrong S l (m - (d + 1))
    · rw [if_pos c, jb_t c]
      exact Or.inr ⟨by omega, c, by omega⟩
    · rw [if_neg c, jb_f c]
      rcases FW_spec (S := S) (l := l) (m := m) d (by omega) with ⟨a, b⟩ | ⟨a, b, e⟩
      · exact Or.inl ⟨a, by omega⟩
      · exact Or.inr ⟨a, b, by omega⟩
theorem sumr_leq {f g : Nat → Nat} : ∀ n, (∀ k, k < n → f k ≤ g k) → sumr f 0 n ≤ sumr g 0 n
  | 0, _ => Nat.le_refl _
  | n + 1, h => by
    rw [sumr_s, sumr_s]
    have := sumr_leq n (fun k hk => h k (by omega))
    have := h n (by omega)
    omega
/-! mend -/
theorem next_ok {S : jS} (hW : Wf S) {w : Nat} (ha : spOn S w ∨ ¬ spHp S w = jNo) : S 28 (spNext S w) = 0 ∧ S 25 (spNext S w) = w := by
  unfold spNext
  by_cases c : spOn S w
  · rw [if_pos c]
    have hw : w < 58 := by rw [← c.2]; exact hW.1.1.2.2.1 _
    exact ⟨(hW.1.2.1.1 w (S 30 w - 1) hw (by have := c.1; omega)).2, c.2⟩
  · rw [if_neg c]
    have hh := ha.resolve_left c
    have hx : ∀ n, ¬ spInHeap S w n = jNo → spInHeap S w n < n ∧ S 25 (S 31 (spInHeap S w n)) = w := by
      intro n
      induction n with
      | zero => intro q; exact absurd rfl q
      | succ n ih =>
        intro q
        unfold spInHeap at q ⊢
        split at q
        · rename_i c2
          rw [if_pos c2]
          exact ⟨by omega, c2.1⟩
        · rename_i c2
          rw [if_neg c2]
          obtain ⟨q1, q2⟩ := ih q
          exact ⟨by omega, q2⟩
    obtain ⟨h1, h2⟩ := hx (S 10 9) hh
    exact ⟨(hW.1.2.1.2 _ h1).2, h2⟩
theorem mend_ok {S : jS} (hW : Wf S) {l k : Nat} (ha : spOn S (S 37 (64 * l + k)) ∨ ¬ spHp S (S 37 (64 * l + k)) = jNo) : spMendF S l k 36 (64 * l + k) = spNext S (S 37 (64 * l + k)) ∧ ¬ spWrong (spMendF S l k) l k := by
  obtain ⟨n1, n2⟩ := next_ok hW ha
  have hm : ∀ a b, ¬ (a = 43 ∨ a = 32 ∨ a = 40) → spMendF S l k a b = spMid S l k a b := fun a b hab => by
    unfold spMendF
    split
    · rw [spMend_eq, spFill_row _ _ (by omega) (by omega), spEmpty_row _ _ (by omega)]
    · rw [sw_at, if_neg (by omega), spMend_eq, spFill_row _ _ (by omega) (by omega), spEmpty_row _ _ (by omega)]
  have e36 : spMendF S l k 36 (64 * l + k) = spNext S (S 37 (64 * l + k)) := by
    rw [hm 36 _ (by omega)]
    unfold spMid
    rw [spHome_row (by omega), sw_at, if_neg (by omega), sw_at, if_pos ⟨rfl, rfl⟩]
  refine ⟨e36, ?_⟩
  have e37 : spMendF S l k 37 (64 * l + k) = S 37 (64 * l + k) := by rw [hm 37 _ (by omega), spMid_row _ _ _ (by omega)]
  have e25 : ∀ s, spMendF S l k 25 s = S 25 s := fun s => by rw [hm 25 _ (by omega), spMid_row _ _ _ (by omega)]
  have e28 : spMendF S l k 28 (spNext S (S 37 (64 * l + k))) = 0 := by
    rw [hm 28 _ (by omega)]
    unfold spMid
    by_cases c : spNext S (S 37 (64 * l + k)) = S 36 (64 * l + k)
    · rw [c, spHome_eq]
      split
      · rw [spPut_28, if_pos rfl]
      · rw [sw_at, if_neg (by omega), sw_at, if_pos ⟨rfl, rfl⟩]
    · rw [spHome_28 _ _ _ c, sw_at, if_neg (by omega), sw_at, if_neg (by omega)]
      unfold spGot
      split
      · exact n1
      · rw [spOffHeap_row _ _ (by omega)]; exact n1
  unfold spWrong
  rw [e36, e37, e25, e28, n2]
  omega
