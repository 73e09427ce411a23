/-! WHERE THE SORTS ARE: weights, tags, ranges (no machine) -/
theorem sumr_ge {f : Nat → Nat} : ∀ {n k : Nat}, k < n → f k ≤ sumr f 0 n
  | 0, _, h => by omega
  | n + 1, k, h => by
    rw [sumr_s]
    by_cases e : k = n
    · rw [e]; omega
    · have := sumr_ge (f := f) (n := n) (k := k) (by omega)
      omega
theorem sumr_ge2 {f : Nat → Nat} : ∀ {n j k : Nat}, j < n → k < n → ¬ j = k → f j + f k ≤ sumr f 0 n
  | 0, _, _, h, _, _ => by omega
  | n + 1, j, k, h1, h2, h3 => by
    rw [sumr_s]
    by_cases e : k = n
    · have := sumr_ge (f := f) (n := n) (k := j) (by omega)
      rw [e]; omega
    · by_cases e2 : j = n
      · have := sumr_ge (f := f) (n := n) (k := k) (by omega)
        rw [e2]; omega
      · have := sumr_ge2 (f := f) (n := n) (j := j) (k := k) (by omega) (by omega) h3
        omega
theorem sumr_upd {f g : Nat → Nat} : ∀ {n k : Nat}, k < n → (∀ j, j < n → ¬ j = k → g j = f j) → sumr g 0 n + f k = sumr f 0 n + g k
  | 0, _, h, _ => by omega
  | n + 1, k, h, hj => by
    rw [sumr_s, sumr_s]
    by_cases e : k = n
    · subst e
      have h1 : sumr g 0 k = sumr f 0 k := sumr_congr k (fun j _ h2 => hj j (by omega) (by omega))
      omega
    · have h1 := sumr_upd (f := f) (g := g) (n := n) (k := k) (by omega) (fun j h1 h2 => hj j (by omega) h2)
      have h2 := hj n (by omega) (fun q => e q.symm)
      omega
theorem sumr_eq {f g : Nat → Nat} (n : Nat) (h : ∀ j, j < n → f j = g j) : sumr f 0 n = sumr g 0 n := sumr_congr n (fun j _ h2 => h j (by omega))
theorem sumr_del {f : Nat → Nat} {l : Nat} : ∀ {n : Nat}, l < n + 1 → sumr (fun j => if j < l then f j else f (j + 1)) 0 n + f l = sumr f 0 (n + 1)
  | 0, h => by
    have : l = 0 := by omega
    subst this
    rw [sumr_s]
    rfl
  | n + 1, h => by
    by_cases e : l = n + 1
    · subst e
      rw [sumr_s (f := f) (n + 1)]
      rw [sumr_eq (g := f) (n + 1) (fun j hj => if_pos hj)]
    · have h1 := sumr_del (f := f) (l := l) (n := n) (by omega)
      rw [sumr_s, sumr_s (f := f) (n + 1), if_neg (show ¬ n < l by omega)]
      omega
theorem sumr_pos {f : Nat → Nat} : ∀ {n : Nat}, 0 < sumr f 0 n → ∃ k, k < n ∧ 0 < f k
  | 0, h => absurd h (Nat.lt_irrefl 0)
  | n + 1, h => by
    rw [sumr_s] at h
    by_cases e : 0 < f n
    · exact ⟨n, by omega, e⟩
    · obtain ⟨k, h1, h2⟩ := sumr_pos (f := f) (n := n) (by omega)
      exact ⟨k, by omega, h2⟩
theorem sumr_0 {f : Nat → Nat} (n : Nat) (h : ∀ j, j < n → f j = 0) : sumr f 0 n = 0 := by
  induction n with
  | zero => rfl
  | succ n ih =>
    rw [sumr_s, ih (fun j hj => h j (by omega)), h n (by omega)]
theorem sumr_1 (n : Nat) : sumr (fun _ => 1) 0 n = n := by
  induction n with
  | zero => rfl
  | succ n ih => rw [sumr_s, ih]
def ind (s0 : Nat) : Nat → Nat := fun s => if s = s0 then 1 else 0
theorem ind_self (s : Nat) : ind s s = 1 := if_pos rfl
theorem ind_ne {s t : Nat} (h : ¬ t = s) : ind s t = 0 := if_neg h
def pw (S : jS) (w : Nat → Nat) (k : Nat) : Nat := sumr (fun i => w (S 29 (300 * k + i))) 0 (S 30 k)
def pws (S : jS) (w : Nat → Nat) : Nat := sumr (pw S w) 0 58
def lw (S : jS) (w : Nat → Nat) (l m : Nat) : Nat := sumr (fun k => w (S 36 (64 * l + k))) 0 m
def lws (S : jS) (w : Nat → Nat) (n : Nat) : Nat := sumr (fun l => lw S w l (S 35 l)) 0 n
def hws (S : jS) (w : Nat → Nat) : Nat := sumr (fun i => w (S 31 i)) 0 (S 10 9)
def lvs (S : jS) (w : Nat → Nat) : Nat := sumr (fun s => if S 27 s = 3 then 0 else w s) 0 (S 10 1)
/-- every sort that is not melted is in one place: a pile, the heap, or what R counts -/
def Wt (S : jS) (R : (Nat → Nat) → Nat) : Prop := ∀ w, pws S w + hws S w + R w = lvs S w
def Tg (S : jS) : Prop := (∀ k i, k < 58 → i < S 30 k → S 27 (S 29 (300 * k + i)) = 0 ∧ S 28 (S 29 (300 * k + i)) = 0) ∧ ∀ i, i < S 10 9 → S 27 (S 31 i) = 2 ∧ S 28 (S 31 i) = 0
def Rg (S : jS) : Prop := (S 10 1 ≤ 300 ∧ S 10 14 ≤ 12 ∧ S 10 24 ≤ 4 ∧ S 10 28 ≤ 720 ∧ S 10 13 ≤ 200 ∧ 20 ≤ S 10 13 ∧ S 32 5 = 0) ∧ TXT S ∧ FOK S ∧ (∀ s, S 27 s < 4) ∧ (∀ s, S 28 s < 2) ∧ (∀ k, S 41 k < 2) ∧ (∀ k, S 45 k < 65536) ∧ (∀ f, S 43 f < 3) ∧ ∀ f, S 10 24 ≤ f → S 43 f = 0
/-- what holds between two steps, whatever is in flight -/
def WC (S : jS) (R : (Nat → Nat) → Nat) : Prop := Rg S ∧ Tg S ∧ Wt S R
def LRg (S : jS) (l : Nat) : Prop := S 35 l + S 38 l ≤ 60 ∧ S 34 l < 2 ∧ (S 42 l = jNo ∨ S 42 l < S 10 24) ∧ (∀ k, k < S 35 l → 29 * S 34 l ≤ S 37 (64 * l + k) ∧ S 37 (64 * l + k) < 29 * S 34 l + 29) ∧ ∀ g, g ≤ S 38 l → S 40 (448 * l + 7 * g + 5) = 0
def LTg (S : jS) (n : Nat) : Prop := ∀ l k, l < n → k < S 35 l → S 27 (S 36 (64 * l + k)) = 1
def Cg (S : jS) : Prop := ∀ a b c, a ≤ b → b ≤ c → c < S 10 14 → S 42 a = S 42 c → ¬ S 42 a = jNo → S 42 b = S 42 a
def Wf (S : jS) : Prop := WC S (fun w => lws S w (S 10 14)) ∧ LTg S (S 10 14) ∧ (∀ l, l < S 10 14 → LRg S l) ∧ Cg S
theorem lvs_ind {S : jS} {s : Nat} : lvs S (ind s) = if s < S 10 1 ∧ ¬ S 27 s = 3 then 1 else 0 := by
  unfold lvs
  generalize S 10 1 = n
  induction n with
  | zero => rw [if_neg (by omega)]; rfl
  | succ n ih =>
    rw [sumr_s, ih]
    by_cases e : n = s
    · subst e
      rw [if_neg (by omega), ind_self]
      by_cases h : S 27 n = 3
      · rw [if_pos h, if_neg (fun q => q.2 h)]
      · rw [if_neg h, if_pos ⟨by omega, h⟩]
    · rw [ind_ne e]
      have h1 : (if S 27 n = 3 then 0 else 0 : Nat) = 0 := by split <;> rfl
      rw [h1]
      by_cases h : s < n ∧ ¬ S 27 s = 3
      · rw [if_pos h, if_pos ⟨by omega, h.2⟩]
      · rw [if_neg h, if_neg (fun q => h ⟨by omega, q.2⟩)]
theorem lvs_1 {S : jS} : lvs S (fun _ => 1) ≤ S 10 1 := by
  have h1 : lvs S (fun _ => 1) ≤ 1 * S 10 1 := sumr_le _ (fun k _ _ => by show (if S 27 k = 3 then 0 else 1) ≤ 1; split <;> omega)
  omega
theorem pw_1 {S : jS} {k : Nat} : pw S (fun _ => 1) k = S 30 k := sumr_1 _
theorem pws_ge {S : jS} {w : Nat → Nat} {k i : Nat} (hk : k < 58) (hi : i < S 30 k) : w (S 29 (300 * k + i)) ≤ pws S w := Nat.le_trans (sumr_ge (f := fun i => w (S 29 (300 * k + i))) hi) (sumr_ge (f := pw S w) hk)
theorem hws_ge {S : jS} {w : Nat → Nat} {i : Nat} (hi : i < S 10 9) : w (S 31 i) ≤ hws S w := sumr_ge (f := fun i => w (S 31 i)) hi
theorem lws_ge {S : jS} {w : Nat → Nat} {n l k : Nat} (hl : l < n) (hk : k < S 35 l) : w (S 36 (64 * l + k)) ≤ lws S w n := Nat.le_trans (sumr_ge (f := fun k => w (S 36 (64 * l + k))) hk) (sumr_ge (f := fun l => lw S w l (S 35 l)) hl)
section
variable {S : jS} {R : (Nat → Nat) → Nat}
theorem Wt.all1 (h : Wt S R) : pws S (fun _ => 1) + S 10 9 + R (fun _ => 1) ≤ S 10 1 := by
  have h1 := h (fun _ => 1)
  have h2 := lvs_1 (S := S)
  have h3 : hws S (fun _ => 1) = S 10 9 := sumr_1 _
  omega
theorem Wt.cnt (h : Wt S R) {k : Nat} (hk : k < 58) : S 30 k + S 10 9 + R (fun _ => 1) ≤ S 10 1 := by
  have h1 := h.all1
  have h2 := sumr_ge (f := pw S (fun _ => 1)) hk
  rw [pw_1] at h2
  have h3 : sumr (pw S (fun _ => 1)) 0 58 = pws S (fun _ => 1) := rfl
  omega
theorem Wt.one (h : Wt S R) (s : Nat) : pws S (ind s) + hws S (ind s) + R (ind s) = if s < S 10 1 ∧ ¬ S 27 s = 3 then 1 else 0 := by
  rw [h (ind s), lvs_ind]
theorem Wt.le1 (h : Wt S R) (s : Nat) : pws S (ind s) + hws S (ind s) + R (ind s) ≤ 1 := by
  rw [h.one s]
  split <;> omega
theorem Wt.live (h : Wt S R) {s : Nat} (h1 : 0 < pws S (ind s) + hws S (ind s) + R (ind s)) : s < S 10 1 ∧ ¬ S 27 s = 3 := by
  rw [h.one s] at h1
  by_cases h2 : s < S 10 1 ∧ ¬ S 27 s = 3
  · exact h2
  · rw [if_neg h2] at h1
    exact absurd h1 (Nat.lt_irrefl 0)
theorem Wt.pile (h : Wt S R) {k i : Nat} (hk : k < 58) (hi : i < S 30 k) : S 29 (300 * k + i) < S 10 1 ∧ ¬ S 27 (S 29 (300 * k + i)) = 3 := by
  have h1 := pws_ge (w := ind (S 29 (300 * k + i))) hk hi
  rw [ind_self] at h1
  exact h.live (by omega)
theorem Wt.heap (h : Wt S R) {i : Nat} (hi : i < S 10 9) : S 31 i < S 10 1 ∧ ¬ S 27 (S 31 i) = 3 := by
  have h1 := hws_ge (S := S) (w := ind (S 31 i)) hi
  rw [ind_self] at h1
  exact h.live (by omega)
theorem Wt.noPile (h : Wt S R) {s k i : Nat} (hs : 0 < R (ind s)) (hk : k < 58) (hi : i < S 30 k) : ¬ S 29 (300 * k + i) = s := by
  intro e
  have h1 := pws_ge (w := ind s) hk hi
  rw [e, ind_self] at h1
  have h2 := h.le1 s
  omega
theorem Wt.noHeap (h : Wt S R) {s i : Nat} (hs : 0 < R (ind s)) (hi : i < S 10 9) : ¬ S 31 i = s := by
  intro e
  have h1 := hws_ge (S := S) (w := ind s) hi
  rw [e, ind_self] at h1
  have h2 := h.le1 s
  omega
theorem Wt.injP (h : Wt S R) {k i k' i' : Nat} (hk : k < 58) (hi : i < S 30 k) (hk' : k' < 58) (hi' : i' < S 30 k') (e : S 29 (300 * k + i) = S 29 (300 * k' + i')) : k = k' ∧ i = i' := by
  have h2 := h.le1 (S 29 (300 * k + i))
  by_cases e1 : k = k'
  · subst e1
    refine ⟨rfl, ?_⟩
    by_cases e2 : i = i'
    · exact e2
    · exfalso
      have h3 := sumr_ge2 (f := fun i => ind (S 29 (300 * k + i')) (S 29 (300 * k + i))) hi hi' e2
      simp only [e, ind_self] at h3
      have h4 := sumr_ge (f := pw S (ind (S 29 (300 * k + i')))) hk
      rw [e] at h2
      have h5 : pw S (ind (S 29 (300 * k + i'))) k = sumr (fun i => ind (S 29 (300 * k + i')) (S 29 (300 * k + i))) 0 (S 30 k) := rfl
      have h6 : sumr (pw S (ind (S 29 (300 * k + i')))) 0 58 = pws S (ind (S 29 (300 * k + i'))) := rfl
      omega
  · exfalso
    have h3 := sumr_ge2 (f := pw S (ind (S 29 (300 * k + i)))) hk hk' e1
    have h4 : ind (S 29 (300 * k + i)) (S 29 (300 * k + i)) ≤ pw S (ind (S 29 (300 * k + i))) k := sumr_ge (f := fun j => ind (S 29 (300 * k + i)) (S 29 (300 * k + j))) hi
    have h5 : ind (S 29 (300 * k + i)) (S 29 (300 * k' + i')) ≤ pw S (ind (S 29 (300 * k + i))) k' := sumr_ge (f := fun j => ind (S 29 (300 * k + i)) (S 29 (300 * k' + j))) hi'
    rw [← e, ind_self] at h5
    rw [ind_self] at h4
    have h6 : sumr (pw S (ind (S 29 (300 * k + i)))) 0 58 = pws S (ind (S 29 (300 * k + i))) := rfl
    omega
theorem Wt.injH (h : Wt S R) {i j : Nat} (hi : i < S 10 9) (hj : j < S 10 9) (e : S 31 i = S 31 j) : i = j := by
  by_cases e2 : i = j
  · exact e2
  · exfalso
    have h2 := h.le1 (S 31 i)
    have h3 := sumr_ge2 (f := fun j => ind (S 31 i) (S 31 j)) hi hj e2
    simp only [← e, ind_self] at h3
    have h6 : hws S (ind (S 31 i)) = sumr (fun j => ind (S 31 i) (S 31 j)) 0 (S 10 9) := rfl
    omega
theorem Wt.inPile (h : Wt S R) {s : Nat} (h1 : 0 < pws S (ind s)) : ∃ k i, k < 58 ∧ i < S 30 k ∧ S 29 (300 * k + i) = s := by
  obtain ⟨k, hk, h2⟩ := sumr_pos h1
  obtain ⟨i, hi, h3⟩ := sumr_pos h2
  refine ⟨k, i, hk, hi, ?_⟩
  by_cases e : S 29 (300 * k + i) = s
  · exact e
  · rw [ind_ne e] at h3
    exact absurd h3 (Nat.lt_irrefl 0)
theorem Wt.inHeap (h : Wt S R) {s : Nat} (h1 : 0 < hws S (ind s)) : ∃ i, i < S 10 9 ∧ S 31 i = s := by
  obtain ⟨i, hi, h3⟩ := sumr_pos h1
  refine ⟨i, hi, ?_⟩
  by_cases e : S 31 i = s
  · exact e
  · rw [ind_ne e] at h3
    exact absurd h3 (Nat.lt_irrefl 0)
end
theorem lws_in {S : jS} {n s : Nat} (h1 : 0 < lws S (ind s) n) : ∃ l k, l < n ∧ k < S 35 l ∧ S 36 (64 * l + k) = s := by
  obtain ⟨l, hl, h2⟩ := sumr_pos h1
  obtain ⟨k, hk, h3⟩ := sumr_pos h2
  refine ⟨l, k, hl, hk, ?_⟩
  by_cases e : S 36 (64 * l + k) = s
  · exact e
  · rw [ind_ne e] at h3
    exact absurd h3 (Nat.lt_irrefl 0)

