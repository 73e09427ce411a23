/-! STEPS: lines that go (no machine) -/
theorem spHomes_WC {l : Nat} {X : (Nat → Nat) → Nat} : ∀ (n : Nat) (S : jS), WC S (fun w => X w + lw S w l n) → WC (spHomes l n S) X
  | 0, S, h => h.toR (fun w => by show X w + 0 = _; omega)
  | n + 1, S, h => by
    unfold spHomes
    refine spHomes_WC n _ ?_
    refine (h.home (s := S 36 (64 * l + n)) (R' := fun w => X w + lw S w l n) (fun w => ?_)).toR (fun w => ?_)
    · show X w + sumr (fun k => w (S 36 (64 * l + k))) 0 (n + 1) = _
      rw [sumr_s]
      exact (Nat.add_assoc _ _ _).symm
    · unfold lw
      simp only [spHome_row (S := S) (s := S 36 (64 * l + n)) (a := 36) (by omega)]
theorem spHome_27 (S : jS) (s t : Nat) (h : ¬ t = s) : spHome S s 27 t = S 27 t := by
  rw [spHome_eq]
  split
  · rw [spPut_27, if_neg h]
  · simp [sw_at, h]
theorem spHome_28 (S : jS) (s t : Nat) (h : ¬ t = s) : spHome S s 28 t = S 28 t := by
  rw [spHome_eq]
  split
  · rw [spPut_28, if_neg h]
  · simp [sw_at, h]
theorem spHomes_27 {l t : Nat} : ∀ (n : Nat) (S : jS), (∀ k, k < n → ¬ S 36 (64 * l + k) = t) → spHomes l n S 27 t = S 27 t ∧ spHomes l n S 28 t = S 28 t
  | 0, _, _ => ⟨rfl, rfl⟩
  | n + 1, S, h => by
    unfold spHomes
    have h1 := spHomes_27 (l := l) (t := t) n (spHome S (S 36 (64 * l + n))) (fun k hk => by
      rw [spHome_row (by omega)]
      exact h k (by omega))
    have h2 : ¬ t = S 36 (64 * l + n) := fun e => h n (by omega) e.symm
    exact ⟨h1.1.trans (spHome_27 S _ t h2), h1.2.trans (spHome_28 S _ t h2)⟩
/-- the first n of line l to the heap -/
def spHeaps (l : Nat) : Nat → jS → jS
  | 0, S => S
  | n + 1, S => spToHeap (spHeaps l n S) (S 36 (64 * l + n))
theorem spHeaps_row {l : Nat} (S : jS) {a b : Nat} (h : ¬ (a = 27 ∨ a = 28 ∨ a = 31 ∨ (a = 10 ∧ b = 9))) : ∀ n, spHeaps l n S a b = S a b
  | 0 => rfl
  | n + 1 => by
    unfold spHeaps
    rw [spToHeap_row _ _ h]
    exact spHeaps_row S h n
theorem spHeaps_WC {l m : Nat} {X : (Nat → Nat) → Nat} {S : jS} (h : WC S (fun w => X w + lw S w l m)) : ∀ n, n ≤ m → WC (spHeaps l n S) (fun w => X w + lw S w l m - lw S w l n)
  | 0, _ => h.toR (fun w => by show _ = X w + lw S w l m - 0; omega)
  | n + 1, hn => by
    have h1 := spHeaps_WC h n (by omega)
    unfold spHeaps
    refine h1.toHeap (fun w => ?_)
    have h2 : lw S w l (n + 1) = lw S w l n + w (S 36 (64 * l + n)) := sumr_s n
    have h3 : ∀ d, lw S w l (n + 1) ≤ lw S w l (n + 1 + d) := fun d => by
      induction d with
      | zero => exact Nat.le_refl _
      | succ d ih => exact Nat.le_trans ih (by rw [show n + 1 + (d + 1) = (n + 1 + d) + 1 by omega]; unfold lw; rw [sumr_s (n + 1 + d)]; omega)
    have h4 := h3 (m - (n + 1))
    rw [show n + 1 + (m - (n + 1)) = m by omega] at h4
    omega
theorem spHeaps_27 {l t : Nat} (S : jS) : ∀ n, (∀ k, k < n → ¬ S 36 (64 * l + k) = t) → spHeaps l n S 27 t = S 27 t ∧ spHeaps l n S 28 t = S 28 t
  | 0, _ => ⟨rfl, rfl⟩
  | n + 1, h => by
    unfold spHeaps
    have h2 : ¬ t = S 36 (64 * l + n) := fun e => h n (by omega) e.symm
    have h1 := spHeaps_27 (l := l) (t := t) S n (fun k hk => h k (by omega))
    exact ⟨by rw [spToHeap_27, if_neg h2]; exact h1.1, by rw [spToHeap_28, if_neg h2]; exact h1.2⟩
theorem spEmpty_row (S : jS) (l : Nat) {a b : Nat} (h : ¬ (a = 32 ∨ a = 40)) : spEmpty S l a b = S a b := by
  unfold spEmpty spEmptyK
  rw [if_neg (by omega), if_neg (by omega)]
theorem spEmpty_32 (S : jS) (l u : Nat) (h1 : 1 ≤ u) (h2 : u ≤ 6) : spEmpty S l 32 u = S 32 u + sumr (fun g => S 40 (448 * l + 7 * g + u)) 0 (S 38 l + 1) := by
  unfold spEmpty spEmptyK
  rw [if_pos (by omega), if_neg (show ¬ u < 1 by omega)]
theorem spEmpty_40 (S : jS) (l b : Nat) : spEmpty S l 40 b = 0 ∨ spEmpty S l 40 b = S 40 b := by
  unfold spEmpty spEmptyK
  rw [if_neg (by omega)]
  split
  · exact Or.inl rfl
  · exact Or.inr rfl
theorem spEmpty_40n (S : jS) (l b : Nat) (h : ¬ (448 * l ≤ b ∧ b < 448 * l + 7 * (S 38 l + 1) + 1)) : spEmpty S l 40 b = S 40 b := by
  unfold spEmpty spEmptyK
  rw [if_neg (by omega), if_neg (by omega)]
theorem spEmpty_40z (S : jS) (l g u : Nat) (hg : g ≤ S 38 l) (h1 : 1 ≤ u) (h2 : u ≤ 6) : spEmpty S l 40 (448 * l + 7 * g + u) = 0 := by
  unfold spEmpty spEmptyK
  rw [if_neg (by omega), if_pos (by omega)]
theorem spEmpty_WC {S : jS} {l : Nat} {R : (Nat → Nat) → Nat} (h : WC S R) (h5 : ∀ g, g ≤ S 38 l → S 40 (448 * l + 7 * g + 5) = 0) : WC (spEmpty S l) R := by
  refine h.same (h.1.rows (fun b _ => spEmpty_row S l (by omega)) ?_ (fun a b ha => spEmpty_row S l (by omega)) (fun s => by rw [spEmpty_row S l (by omega)]; exact h.1.2.2.2.1 s) (fun s => by rw [spEmpty_row S l (by omega)]; exact h.1.2.2.2.2.1 s)) (fun a b ha => spEmpty_row S l (by omega))
  rw [spEmpty_32 S l 5 (by omega) (by omega), sumr_0 _ (fun g hg => h5 g (by omega))]
  rfl
def up (l j : Nat) : Nat := if j < l then j else j + 1
theorem up_lt {l j n : Nat} (h : j < n - 1) : up l j < n := by unfold up; split <;> omega
theorem up_ne {l j : Nat} : ¬ up l j = l := by unfold up; split <;> omega
theorem spDrop_14 (S : jS) (l : Nat) : spDrop S l 10 14 = S 10 14 - 1 := by simp [spDrop, sw_at]
theorem spDrop_row (S : jS) (l : Nat) {a b : Nat} (h : ¬ ((a = 10 ∧ b = 14) ∨ 34 ≤ a ∧ a ≤ 42)) : spDrop S l a b = S a b := by
  unfold spDrop spDropK
  rw [sw_at, if_neg (by omega), if_neg (by omega), if_neg (by omega), if_neg (by omega)]
theorem spDrop_l (S : jS) (l : Nat) {a j : Nat} (ha : a = 34 ∨ a = 35 ∨ a = 38 ∨ a = 41 ∨ a = 42) (hj : j < S 10 14 - 1) : spDrop S l a j = S a (up l j) := by
  unfold spDrop spDropK up
  rw [sw_at, if_neg (by omega)]
  by_cases e : j < l
  · rw [if_neg (by omega), if_neg (by omega), if_neg (by omega), if_pos e]
  · rw [if_pos (by omega), if_neg e]
theorem spDrop_c (S : jS) (l : Nat) {a j k : Nat} (ha : a = 36 ∨ a = 37 ∨ a = 39) (hj : j < S 10 14 - 1) (hk : k < 64) : spDrop S l a (64 * j + k) = S a (64 * up l j + k) := by
  unfold spDrop spDropK up
  rw [sw_at, if_neg (by omega), if_neg (by omega)]
  by_cases e : j < l
  · rw [if_neg (by omega), if_neg (by omega), if_pos e]
  · rw [if_pos (by omega), if_neg e]
    congr 1
    omega
theorem spDrop_u (S : jS) (l : Nat) {j k : Nat} (hj : j < S 10 14 - 1) (hk : k < 448) : spDrop S l 40 (448 * j + k) = S 40 (448 * up l j + k) := by
  unfold spDrop spDropK up
  rw [sw_at, if_neg (by omega), if_neg (by omega), if_neg (by omega)]
  by_cases e : j < l
  · rw [if_neg (by omega), if_pos e]
  · rw [if_pos (by omega), if_neg e]
    congr 1
    omega
theorem spDrop_41 (S : jS) (l : Nat) (h : ∀ k, S 41 k < 2) (k : Nat) : spDrop S l 41 k < 2 := by
  unfold spDrop spDropK
  rw [sw_at, if_neg (by omega)]
  by_cases e : l ≤ k ∧ k < S 10 14 - 1
  · rw [if_pos (by omega)]; exact h _
  · rw [if_neg (by omega), if_neg (by omega), if_neg (by omega)]; exact h _
/-- the lines but l -/
def lxs (S : jS) (l n : Nat) (w : Nat → Nat) : Nat := sumr (fun j => lw S w (up l j) (S 35 (up l j))) 0 (n - 1)
theorem lxs_add {S : jS} {l n : Nat} (h : l < n) (w : Nat → Nat) : lxs S l n w + lw S w l (S 35 l) = lws S w n := by
  have h1 := sumr_del (f := fun j => lw S w j (S 35 j)) (l := l) (n := n - 1) (by omega)
  rw [Nat.sub_add_cancel (by omega)] at h1
  unfold lws
  rw [← h1]
  congr 1
  refine sumr_eq _ (fun j _ => ?_)
  unfold up
  split <;> rfl
theorem lxs_congr {S S' : jS} {l n : Nat} (h35 : ∀ b, S' 35 b = S 35 b) (h36 : ∀ b, S' 36 b = S 36 b) (w : Nat → Nat) : lxs S' l n w = lxs S l n w := by
  unfold lxs lw
  simp only [h35, h36]
theorem lws_congr {S S' : jS} {n : Nat} (h35 : ∀ b, S' 35 b = S 35 b) (h36 : ∀ b, S' 36 b = S 36 b) (w : Nat → Nat) : lws S' w n = lws S w n := by
  unfold lws lw
  simp only [h35, h36]
theorem LRg.congr {S S' : jS} {l : Nat} (h : LRg S l) (hr : ∀ a b, a = 34 ∨ a = 35 ∨ a = 37 ∨ a = 38 ∨ a = 42 → S' a b = S a b) (h24 : S' 10 24 = S 10 24) (h40 : ∀ b, S' 40 b = 0 ∨ S' 40 b = S 40 b) : LRg S' l := by
  obtain ⟨h1, h2, h3, h4, h5⟩ := h
  unfold LRg
  rw [hr 35 l (by omega), hr 38 l (by omega), hr 34 l (by omega), hr 42 l (by omega), h24]
  refine ⟨h1, h2, h3, fun k hk => ?_, fun g hg => ?_⟩
  · rw [hr 37 _ (by omega)]; exact h4 k hk
  · rcases h40 (448 * l + 7 * g + 5) with e | e
    · exact e
    · rw [e]; exact h5 g hg
/-- the line l taken out, when its sorts are elsewhere -/
theorem Wf_drop {S : jS} {l : Nat} (hl : l < S 10 14) (h : WC S (lxs S l (S 10 14))) (ht : ∀ j k, j < S 10 14 → ¬ j = l → k < S 35 j → S 27 (S 36 (64 * j + k)) = 1) (hL : ∀ j, j < S 10 14 → ¬ j = l → LRg S j) (hC : Cg S) : Wf (spDrop S l) := by
  have hL2 : ∀ j, j < S 10 14 - 1 → LRg S (up l j) := fun j hj => hL _ (up_lt hj) up_ne
  refine ⟨?_, fun j k hj hk => ?_, fun j hj => ?_, fun a b c h1 h2 h3 h4 h5 => ?_⟩
  · have hg : Rg (spDrop S l) := by
      obtain ⟨⟨a1, a2, a3, a4, a5, a6, a7⟩, ⟨b1, b2, b3⟩, c, d, e, f, g, i, j⟩ := h.1
      have e10 : ∀ b, ¬ b = 14 → spDrop S l 10 b = S 10 b := fun b hb => spDrop_row S l (by omega)
      refine ⟨⟨by rw [e10 1 (by omega)]; exact a1, by rw [spDrop_14]; omega, by rw [e10 24 (by omega)]; exact a3, by rw [e10 28 (by omega)]; exact a4, by rw [e10 13 (by omega)]; exact a5, by rw [e10 13 (by omega)]; exact a6, by rw [spDrop_row S l (by omega)]; exact a7⟩, ⟨by rw [e10 12 (by omega)]; exact b1, fun k => by rw [spDrop_row S l (by omega)]; exact b2 k, fun k hk => by rw [spDrop_row S l (by omega)]; rw [e10 12 (by omega)] at hk; exact b3 k hk⟩, fun s => by rw [spDrop_row S l (by omega)]; exact c s, fun s => by rw [spDrop_row S l (by omega)]; exact d s, fun s => by rw [spDrop_row S l (by omega)]; exact e s, spDrop_41 S l f, fun s => by rw [spDrop_row S l (by omega)]; exact g s, fun s => by rw [spDrop_row S l (by omega)]; exact i s, fun s hs => ?_⟩
      rw [e10 24 (by omega)] at hs
      rw [spDrop_row S l (by omega)]
      exact j s hs
    refine (h.same hg (fun a b ha => spDrop_row S l (by omega))).toR (fun w => ?_)
    rw [spDrop_14]
    unfold lxs lws lw
    refine sumr_eq _ (fun j hj => ?_)
    rw [spDrop_l S l (by omega) hj]
    refine sumr_eq _ (fun k hk => ?_)
    have := (hL2 j hj).1
    rw [spDrop_c S l (by omega) hj (by omega)]
  · rw [spDrop_14] at hj
    rw [spDrop_l S l (by omega) hj] at hk
    have := (hL2 j hj).1
    rw [spDrop_c S l (by omega) hj (by omega), spDrop_row S l (by omega)]
    exact ht _ k (up_lt hj) up_ne hk
  · rw [spDrop_14] at hj
    obtain ⟨h1, h2, h3, h4, h5⟩ := hL2 j hj
    unfold LRg
    rw [spDrop_l S l (a := 35) (by omega) hj, spDrop_l S l (a := 38) (by omega) hj, spDrop_l S l (a := 34) (by omega) hj, spDrop_l S l (a := 42) (by omega) hj, spDrop_row S l (a := 10) (b := 24) (by omega)]
    refine ⟨h1, h2, h3, fun k hk => ?_, fun g hg => ?_⟩
    · rw [spDrop_c S l (by omega) hj (by omega)]
      exact h4 k hk
    · rw [show 448 * j + 7 * g + 5 = 448 * j + (7 * g + 5) by omega, spDrop_u S l hj (by omega), show 448 * up l j + (7 * g + 5) = 448 * up l j + 7 * g + 5 by omega]
      exact h5 g hg
  · rw [spDrop_14] at h3
    rw [spDrop_l S l (by omega) (by omega), spDrop_l S l (by omega) (by omega)] at h4
    rw [spDrop_l S l (by omega) (by omega)] at h5
    rw [spDrop_l S l (by omega) (by omega), spDrop_l S l (by omega) (by omega)]
    exact hC (up l a) (up l b) (up l c) (by unfold up; split <;> split <;> omega) (by unfold up; split <;> split <;> omega) (up_lt h3) h4 h5
theorem Wf.other {S : jS} (h : Wf S) {l j i k : Nat} (hl : l < S 10 14) (hj : j < S 10 14) (hne : ¬ j = l) (hi : i < S 35 l) (hk : k < S 35 j) : ¬ S 36 (64 * l + i) = S 36 (64 * j + k) := by
  intro e
  have h1 := h.1.2.2.le1 (S 36 (64 * j + k))
  have h2 := sumr_ge2 (f := fun l => lw S (ind (S 36 (64 * j + k))) l (S 35 l)) hl hj (fun q => hne q.symm)
  have h3 : ind (S 36 (64 * j + k)) (S 36 (64 * l + i)) ≤ lw S (ind (S 36 (64 * j + k))) l (S 35 l) := sumr_ge (f := fun i => ind (S 36 (64 * j + k)) (S 36 (64 * l + i))) hi
  have h4 : ind (S 36 (64 * j + k)) (S 36 (64 * j + k)) ≤ lw S (ind (S 36 (64 * j + k))) j (S 35 j) := sumr_ge (f := fun i => ind (S 36 (64 * j + k)) (S 36 (64 * j + i))) hk
  rw [e, ind_self] at h3
  rw [ind_self] at h4
  have h5 : lws S (ind (S 36 (64 * j + k))) (S 10 14) = sumr (fun l => lw S (ind (S 36 (64 * j + k))) l (S 35 l)) 0 (S 10 14) := rfl
  simp only [h5] at h1
  omega
theorem Wf.split {S : jS} (h : Wf S) {l : Nat} (hl : l < S 10 14) : WC S (fun w => lxs S l (S 10 14) w + lw S w l (S 35 l)) := h.1.toR (fun w => (lxs_add hl w).symm)
theorem Wf_back {S : jS} (h : Wf S) {l : Nat} (hl : l < S 10 14) : Wf (spBack S l) := by
  have hb := spHomes_WC _ _ (h.split hl)
  have er : ∀ a b, ¬ (a = 27 ∨ a = 28 ∨ a = 29 ∨ a = 30) → spHomes l (S 35 l) S a b = S a b := fun a b hab => spHomes_row hab _ _
  have er2 : ∀ a b, ¬ (a = 27 ∨ a = 28 ∨ a = 29 ∨ a = 30 ∨ a = 32 ∨ a = 40) → spEmpty (spHomes l (S 35 l) S) l a b = S a b := fun a b hab => by rw [spEmpty_row _ l (by omega)]; exact er a b (by omega)
  have hc := spEmpty_WC (l := l) hb (fun g hg => by
    rw [er 38 l (by omega)] at hg
    rw [er 40 _ (by omega)]
    exact (h.2.2.1 l hl).2.2.2.2 g hg)
  have e14 : spEmpty (spHomes l (S 35 l) S) l 10 14 = S 10 14 := er2 10 14 (by omega)
  refine Wf_drop (by rw [e14]; exact hl) (hc.toR (fun w => ?_)) (fun j k hj hne hk => ?_) (fun j hj hne => ?_) ?_
  · rw [e14]
    exact (lxs_congr (fun b => er2 35 b (by omega)) (fun b => er2 36 b (by omega)) w).symm
  · rw [e14] at hj
    rw [er2 35 j (by omega)] at hk
    rw [er2 36 _ (by omega), spEmpty_row _ l (by omega)]
    rw [(spHomes_27 _ S (fun i hi => h.other hl hj hne hi hk)).1]
    exact h.2.1 j k hj hk
  · rw [e14] at hj
    refine (h.2.2.1 j hj).congr (fun a b hab => er2 a b (by omega)) (er2 10 24 (by omega)) (fun b => ?_)
    rcases spEmpty_40 (spHomes l (S 35 l) S) l b with e | e
    · exact Or.inl e
    · exact Or.inr (e.trans (er 40 b (by omega)))
  · intro a b c h1 h2 h3 h4 h5
    rw [e14] at h3
    rw [er2 42 a (by omega), er2 42 c (by omega)] at h4
    rw [er2 42 a (by omega)] at h5
    rw [er2 42 a (by omega), er2 42 b (by omega)]
    exact h.2.2.2 a b c h1 h2 h3 h4 h5
/-- a line falls to pie -/
def spFall (S : jS) (l : Nat) : jS := spDrop (spEmpty (spHeaps l (S 35 l) S) l) l
theorem Wf_fall {S : jS} (h : Wf S) {l : Nat} (hl : l < S 10 14) : Wf (spFall S l) := by
  have hb := spHeaps_WC (h.split hl) _ (Nat.le_refl _)
  have er : ∀ a b, ¬ (a = 27 ∨ a = 28 ∨ a = 31 ∨ (a = 10 ∧ b = 9)) → spHeaps l (S 35 l) S a b = S a b := fun a b hab => spHeaps_row S hab _
  have er2 : ∀ a b, ¬ (a = 27 ∨ a = 28 ∨ a = 31 ∨ (a = 10 ∧ b = 9) ∨ a = 32 ∨ a = 40) → spEmpty (spHeaps l (S 35 l) S) l a b = S a b := fun a b hab => by rw [spEmpty_row _ l (by omega)]; exact er a b (by omega)
  have hc := spEmpty_WC (l := l) hb (fun g hg => by
    rw [er 38 l (by omega)] at hg
    rw [er 40 _ (by omega)]
    exact (h.2.2.1 l hl).2.2.2.2 g hg)
  have e14 : spEmpty (spHeaps l (S 35 l) S) l 10 14 = S 10 14 := er2 10 14 (by omega)
  refine Wf_drop (by rw [e14]; exact hl) (hc.toR (fun w => ?_)) (fun j k hj hne hk => ?_) (fun j hj hne => ?_) ?_
  · rw [e14, lxs_congr (fun b => er2 35 b (by omega)) (fun b => er2 36 b (by omega)) w]
    omega
  · rw [e14] at hj
    rw [er2 35 j (by omega)] at hk
    rw [er2 36 _ (by omega), spEmpty_row _ l (by omega)]
    rw [(spHeaps_27 S _ (fun i hi => h.other hl hj hne hi hk)).1]
    exact h.2.1 j k hj hk
  · rw [e14] at hj
    refine (h.2.2.1 j hj).congr (fun a b hab => er2 a b (by omega)) (er2 10 24 (by omega)) (fun b => ?_)
    rcases spEmpty_40 (spHeaps l (S 35 l) S) l b with e | e
    · exact Or.inl e
    · exact Or.inr (e.trans (er 40 b (by omega)))
  · intro a b c h1 h2 h3 h4 h5
    rw [e14] at h3
    rw [er2 42 a (by omega), er2 42 c (by omega)] at h4
    rw [er2 42 a (by omega)] at h5
    rw [er2 42 a (by omega), er2 42 b (by omega)]
    exact h.2.2.2 a b c h1 h2 h3 h4 h5

