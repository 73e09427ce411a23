/-! THE REFERENCE: mend -/
abbrev spOn (S : jS) (w : Nat) : Prop := 0 < S 30 w ∧ S 25 (spTop S w) = w
abbrev spHp (S : jS) (w : Nat) : Nat := spInHeap S w (S 10 9)
def spNext (S : jS) (w : Nat) : Nat := if spOn S w then spTop S w else S 31 (spHp S w)
def spGot (S : jS) (w : Nat) : jS := if spOn S w then spTake S w else spOffHeap S (spHp S w)
def spMend (S : jS) (l k : Nat) : jS := spFill (spEmpty (spHome (sw (sw (spGot S (S 37 (64 * l + k))) 36 (64 * l + k) (spNext S (S 37 (64 * l + k)))) 27 (spNext S (S 37 (64 * l + k))) 1) (S 36 (64 * l + k))) l) l
def spMendF (S : jS) (l k : Nat) : jS := if S 42 l = jNo then spMend S l k else sw (spMend S l k) 43 (S 42 l) 0
def sf_mend (S : jS) (x y : Int32) : Nat × Int32 × jS := if isLn S x ∧ inR y 0 (nI (S 35 (jn x)) - nI 1) then if ¬ spWrong S (jn x) (jn y) ∨ (¬ spOn S (S 37 (64 * jn x + jn y)) ∧ spHp S (S 37 (64 * jn x + jn y)) = jNo) then (2, 0, S) else (0, nI (spNext S (S 37 (64 * jn x + jn y))), spMendF (sw S 10 0 0) (jn x) (jn y)) else (1, 0, S)
theorem spGot_row (S : jS) (w : Nat) {a b : Nat} (h : ¬ (a = 30 ∨ a = 31 ∨ (a = 10 ∧ b = 9))) : spGot S w a b = S a b := by
  unfold spGot
  split
  · show sw S 30 w _ a b = _
    rw [sw_at, if_neg (by omega)]
  · exact spOffHeap_row S _ (by omega)
theorem spGot_WC {S : jS} {R : (Nat → Nat) → Nat} {w : Nat} (h : WC S R) (hw : w < 58) (ha : spOn S w ∨ ¬ spHp S w = jNo) : WC (spGot S w) (fun x => R x + x (spNext S w)) := by
  unfold spGot spNext
  by_cases e : spOn S w
  · rw [if_pos e, if_pos e]
    exact h.take hw e.1
  · rw [if_neg e, if_neg e]
    have h1 := spInHeap_lt (S := S) (w := w) (S 10 9)
    rcases ha with q | q
    · exact absurd q e
    · exact h.offHeap (by rcases h1 with z | z; exact absurd z q; exact z)
theorem spInHeap_sw {S : jS} {w v : Nat} : ∀ n, spInHeap (sw S 10 0 v) w n = spInHeap S w n
  | 0 => rfl
  | n + 1 => by
    show (if S 25 (S 31 n) = w ∧ (spInHeap (sw S 10 0 v) w n = jNo ∨ S 31 n < S 31 (spInHeap (sw S 10 0 v) w n)) then n else spInHeap (sw S 10 0 v) w n) = if S 25 (S 31 n) = w ∧ (spInHeap S w n = jNo ∨ S 31 n < S 31 (spInHeap S w n)) then n else spInHeap S w n
    rw [spInHeap_sw n]
theorem spHp_sw {S : jS} {w v : Nat} : spHp (sw S 10 0 v) w = spHp S w := spInHeap_sw _
theorem spNext_sw {S : jS} {w v : Nat} : spNext (sw S 10 0 v) w = spNext S w := by
  unfold spNext
  rw [spHp_sw]
  rfl
/-- what mend leaves ahead of the spaces -/
def spMid (S : jS) (l k : Nat) : jS := spHome (sw (sw (spGot S (S 37 (64 * l + k))) 36 (64 * l + k) (spNext S (S 37 (64 * l + k)))) 27 (spNext S (S 37 (64 * l + k))) 1) (S 36 (64 * l + k))
theorem Wf_mid {S : jS} (h : Wf S) {l k : Nat} (hl : l < S 10 14) (hk : k < S 35 l) (ha : spOn S (S 37 (64 * l + k)) ∨ ¬ spHp S (S 37 (64 * l + k)) = jNo) : Wf (spMid S l k) := by
  have h37 := (h.2.2.1 l hl).2.2.2.1 k hk
  have h34 := (h.2.2.1 l hl).2.1
  exact Wf_swap h hl hk (spGot_WC h.1 (by omega) ha) (fun a b hab => spGot_row S _ (by omega)) (fun b hb => spGot_row S _ (by omega)) (fun t => spGot_row S _ (by omega))
theorem spMid_row (S : jS) (l k : Nat) {a b : Nat} (h : ¬ (a = 27 ∨ a = 28 ∨ a = 29 ∨ a = 30 ∨ a = 31 ∨ a = 36 ∨ (a = 10 ∧ b = 9))) : spMid S l k a b = S a b := by
  unfold spMid
  rw [spHome_row (by omega), sw_at, if_neg (by omega), sw_at, if_neg (by omega), spGot_row S _ (by omega)]
theorem spMend_eq (S : jS) (l k : Nat) : spMend S l k = spFill (spEmpty (spMid S l k) l) l := rfl
theorem spMend_row (S : jS) (l k : Nat) {a b : Nat} (h : ¬ (a = 27 ∨ a = 28 ∨ a = 29 ∨ a = 30 ∨ a = 31 ∨ a = 32 ∨ a = 36 ∨ a = 40 ∨ (a = 10 ∧ b = 9))) : spMend S l k a b = S a b := by
  rw [spMend_eq, spFill_row _ _ (by omega) (by omega), spEmpty_row _ _ (by omega), spMid_row S l k (by omega)]
theorem Wf_mend {S : jS} (h : Wf S) {l k : Nat} (hl : l < S 10 14) (hk : k < S 35 l) (ha : spOn S (S 37 (64 * l + k)) ∨ ¬ spHp S (S 37 (64 * l + k)) = jNo) : Wf (spMend S l k) := by
  rw [spMend_eq]
  have e14 : spMid S l k 10 14 = S 10 14 := spMid_row S l k (by omega)
  refine Wf_fill (Wf_empty (Wf_mid h hl hk ha) (by rw [e14]; exact hl)) ?_
  rw [spEmpty_row _ _ (by omega), e14]
  exact hl
theorem Wf_mendF {S : jS} (h : Wf S) {l k : Nat} (hl : l < S 10 14) (hk : k < S 35 l) (ha : spOn S (S 37 (64 * l + k)) ∨ ¬ spHp S (S 37 (64 * l + k)) = jNo) : Wf (spMendF S l k) := by
  unfold spMendF
  have h1 := Wf_mend h hl hk ha
  split
  · exact h1
  · refine h1.st ?_ (by omega)
    rw [spMend_row S l k (by omega)]
    rcases (h.2.2.1 l hl).2.2.1 with q | q
    · rename_i z; exact absurd q z
    · exact q
