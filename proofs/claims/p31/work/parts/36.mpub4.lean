/-! THE REFERENCE: sortPie, lock, unlock, lift -/
theorem sw_id {T : jS} {a b v : Nat} (h : T a b = v) : sw T a b v = T := by
  refine sw_congr (fun x y => ?_)
  rw [sw_at]
  by_cases e : x = a ∧ y = b
  · rw [if_pos e, e.1, e.2, h]
  · rw [if_neg e]
theorem Wf.ref {S : jS} {v : Nat} (h : Wf S) : Wf (sw S 10 0 v) := h
theorem Wf.lineR {S : jS} {l k : Nat} (hl : l < S 10 14) (hk : k < S 35 l) : 0 < lws S (ind (S 36 (64 * l + k))) (S 10 14) := by
  have := lws_ge (S := S) (w := ind (S 36 (64 * l + k))) hl hk
  rw [ind_self] at this
  omega
theorem Wf.keep {S S' : jS} (h : Wf S) (hc : WC S' (fun w => lws S w (S 10 14))) (hr : ∀ a b, (34 ≤ a ∧ a ≤ 38) ∨ a = 42 ∨ (a = 10 ∧ (b = 14 ∨ b = 24)) → S' a b = S a b) (h40 : ∀ b, S' 40 b = 0 ∨ S' 40 b = S 40 b) (h27 : ∀ l k, l < S 10 14 → k < S 35 l → S' 27 (S 36 (64 * l + k)) = 1) : Wf S' := by
  have e14 := hr 10 14 (by omega)
  refine ⟨hc.toR (fun w => ?_), fun l k hl hk => ?_, fun l hl => ?_, fun a b c h1 h2 h3 h4 h5 => ?_⟩
  · rw [e14]
    exact (lws_congr (fun b => hr 35 b (by omega)) (fun b => hr 36 b (by omega)) w).symm
  · rw [e14] at hl
    rw [hr 35 l (by omega)] at hk
    rw [hr 36 _ (by omega)]
    exact h27 l k hl hk
  · rw [e14] at hl
    exact (h.2.2.1 l hl).congr (fun a b hab => hr a b (by omega)) (hr 10 24 (by omega)) h40
  · rw [e14] at h3
    rw [hr 42 a (by omega), hr 42 c (by omega)] at h4
    rw [hr 42 a (by omega)] at h5
    rw [hr 42 a (by omega), hr 42 b (by omega)]
    exact h.2.2.2 a b c h1 h2 h3 h4 h5
theorem Wf_sp1 {S : jS} (h : Wf S) (h0 : 0 < S 10 9) : Wf (spHome (spOffHeap S 0) (S 31 0)) := by
  have er : ∀ a b, ¬ (a = 27 ∨ a = 28 ∨ a = 29 ∨ a = 30 ∨ a = 31 ∨ (a = 10 ∧ b = 9)) → spHome (spOffHeap S 0) (S 31 0) a b = S a b := fun a b hab => by rw [spHome_row (by omega), spOffHeap_row S 0 (by omega)]
  refine h.keep ((h.1.offHeap h0).home (fun w => rfl)) (fun a b hab => er a b (by omega)) (fun b => Or.inr (er 40 b (by omega))) (fun l k hl hk => ?_)
  have h1 := h.1.2.2.noHeap (s := S 36 (64 * l + k)) (Wf.lineR hl hk) h0
  rw [spHome_27 _ _ _ (fun e => h1 e.symm), spOffHeap_row S 0 (by omega)]
  exact h.2.1 l k hl hk
def spSP : Nat → Nat → jS → Nat × jS
  | 0, h, S => (h, S)
  | d + 1, h, S => if 0 < S 10 9 then spSP d (h + jb (nI (S 26 (S 31 0)) < nI 12)) (spHome (spOffHeap S 0) (S 31 0)) else (h, S)
def sf_sortPie (S : jS) (x : Int32) : Nat × Int32 × jS := if inR x 1 300 then (0, nI (spSP (jn x) 0 (sw S 10 0 0)).1, (spSP (jn x) 0 (sw S 10 0 0)).2) else (1, 0, S)
/-- how many of the lines f to t (of the first n of them) are of a form -/
def spNF (S : jS) (f n : Nat) : Nat := sumr (fun j => jb (¬ S 42 (f + j) = jNo)) 0 n
def spLock (S : jS) (f t : Nat) : jS := fun a b => if a = 42 ∧ f ≤ b ∧ b ≤ t then S 10 24 else if a = 43 ∧ b = S 10 24 then 0 else if a = 10 ∧ b = 24 then S 10 24 + 1 else S a b
def sf_lock (S : jS) (x y : Int32) : Nat × Int32 × jS := if isLn S x ∧ isLn S y then if jn y < jn x then (2, 0, S) else if spNF S (jn x) (jn y + 1 - jn x) = 0 ∧ ¬ S 10 24 = 4 then (0, nI (S 10 24), spLock S (jn x) (jn y)) else (3, 0, S) else (1, 0, S)
