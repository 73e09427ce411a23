/-! PURE: how many sorts lie where -/
def cntW (S : jS) (v n : Nat) : Nat := sumr (fun s => jb (S 27 s = v)) 0 n
theorem sumr_add {f g : Nat → Nat} : ∀ n, sumr (fun k => f k + g k) 0 n = sumr f 0 n + sumr g 0 n
  | 0 => rfl
  | n + 1 => by
    rw [sumr_s, sumr_s, sumr_s, sumr_add n]
    omega
theorem lvs_c {S : jS} {v : Nat} (hv : ¬ v = 3) : lvs S (fun s => jb (S 27 s = v)) = cntW S v (S 10 1) := sumr_eq _ (fun s _ => by
  by_cases e : S 27 s = 3
  · rw [if_pos e, jb_f (by omega)]
  · rw [if_neg e])
theorem pws_c {S : jS} (hW : Wf S) {v : Nat} : pws S (fun s => jb (S 27 s = v)) = if v = 0 then sumr (fun k => S 30 k) 0 58 else 0 := by
  by_cases e : v = 0
  · rw [if_pos e, e]
    refine sumr_eq _ (fun k hk => ?_)
    show sumr (fun i => jb (S 27 (S 29 (300 * k + i)) = 0)) 0 (S 30 k) = _
    rw [sumr_eq (g := fun _ => 1) _ (fun i hi => jb_t (hW.1.2.1.1 k i hk hi).1), sumr_1]
  · rw [if_neg e]
    refine sumr_0 _ (fun k hk => ?_)
    exact sumr_0 _ (fun i hi => jb_f (by have := (hW.1.2.1.1 k i hk hi).1; omega))
theorem hws_c {S : jS} (hW : Wf S) {v : Nat} : hws S (fun s => jb (S 27 s = v)) = if v = 2 then S 10 9 else 0 := by
  by_cases e : v = 2
  · rw [if_pos e, e]
    show sumr (fun i => jb (S 27 (S 31 i) = 2)) 0 (S 10 9) = _
    rw [sumr_eq (g := fun _ => 1) _ (fun i hi => jb_t (hW.1.2.1.2 i hi).1), sumr_1]
  · rw [if_neg e]
    exact sumr_0 _ (fun i hi => jb_f (by have := (hW.1.2.1.2 i hi).1; omega))
theorem lws_c {S : jS} (hW : Wf S) {v : Nat} : lws S (fun s => jb (S 27 s = v)) (S 10 14) = if v = 1 then sumr (fun l => S 35 l) 0 (S 10 14) else 0 := by
  by_cases e : v = 1
  · rw [if_pos e, e]
    refine sumr_eq _ (fun l hl => ?_)
    show sumr (fun k => jb (S 27 (S 36 (64 * l + k)) = 1)) 0 (S 35 l) = _
    rw [sumr_eq (g := fun _ => 1) _ (fun k hk => jb_t (hW.2.1 l k hl hk)), sumr_1]
  · rw [if_neg e]
    refine sumr_0 _ (fun l hl => ?_)
    exact sumr_0 _ (fun k hk => jb_f (by have := hW.2.1 l k hl hk; omega))
theorem cnt_all {S : jS} (hW : Wf S) : cntW S 0 (S 10 1) = sumr (fun k => S 30 k) 0 58 ∧ cntW S 1 (S 10 1) = sumr (fun l => S 35 l) 0 (S 10 14) ∧ cntW S 2 (S 10 1) = S 10 9 := by
  have h : ∀ v, ¬ v = 3 → cntW S v (S 10 1) = (if v = 0 then sumr (fun k => S 30 k) 0 58 else 0) + (if v = 2 then S 10 9 else 0) + (if v = 1 then sumr (fun l => S 35 l) 0 (S 10 14) else 0) := fun v hv => by
    rw [← pws_c hW, ← hws_c hW, ← lws_c hW, ← lvs_c hv]
    exact (hW.1.2.2 _).symm
  have h0 := h 0 (by omega)
  have h1 := h 1 (by omega)
  have h2 := h 2 (by omega)
  simp at h0 h1 h2
  exact ⟨h0, h1, h2⟩
theorem leads_sum {S : jS} (hF : FOK S) (h27 : ∀ s, S 27 s < 4) : ∀ n, sumr (fun k => spLead S k n) 0 58 = cntW S 0 n + cntW S 1 n + cntW S 2 n
  | 0 => sumr_0 _ (fun _ _ => rfl)
  | n + 1 => by
    have e : sumr (fun k => spLead S k (n + 1)) 0 58 = sumr (fun k => spLead S k n + jb (S 25 n = k ∧ ¬ S 27 n = 3)) 0 58 := sumr_eq _ (fun k _ => sumr_s n)
    rw [e, sumr_add, leads_sum hF h27 n]
    have e1 : ∀ v, cntW S v (n + 1) = cntW S v n + jb (S 27 n = v) := fun v => sumr_s n
    rw [e1, e1, e1]
    have e2 : sumr (fun k => jb (S 25 n = k ∧ ¬ S 27 n = 3)) 0 58 = jb (¬ S 27 n = 3) := by
      rw [sumr_one (k := S 25 n) (hF n) (fun j _ hne => jb_f (fun q => hne q.1.symm))]
      by_cases c : S 27 n = 3
      · rw [jb_f (fun q => q.2 c), jb_f (fun q => q c)]
      · rw [jb_t ⟨rfl, c⟩, jb_t c]
    rw [e2]
    have := h27 n
    unfold jb
    rcases (show S 27 n = 0 ∨ S 27 n = 1 ∨ S 27 n = 2 ∨ S 27 n = 3 by omega) with q | q | q | q <;> simp [q] <;> omega
theorem place_lt {S : jS} (hW : Wf S) {s : Nat} (hs : s < S 10 1) (h3 : ¬ S 27 s = 3) : spPlace S s < 300 := by
  have hn := hW.1.1.1
  rcases hW.at hs with ⟨h, k, i, hk, hi, e⟩ | ⟨h, l, i, hl, hi, e⟩ | ⟨h, i, hi, e⟩ | h
  · rw [spPlace_P hW h hk hi e]; omega
  · rw [spPlace_L hW h hl hi e]; omega
  · rw [spPlace_H hW h hi e]
    have := hW.1.2.2.all1
    omega
  · exact absurd h h3
theorem turned_line {S : jS} (hW : Wf S) (hP : PM S) {s : Nat} (hs : s < S 10 1) (h : ¬ S 28 s = 0) : S 27 s = 1 := by
  rcases hW.at hs with ⟨-, k, i, hk, hi, e⟩ | ⟨h1, -⟩ | ⟨-, i, hi, e⟩ | h3
  · have := (hW.1.2.1.1 k i hk hi).2
    rw [e] at this
    exact absurd this h
  · exact h1
  · have := (hW.1.2.1.2 i hi).2
    rw [e] at this
    exact absurd this h
  · exact absurd (hP.2 s hs h3).1 h
theorem top_facts {S : jS} (hW : Wf S) (hP : PM S) {k : Nat} (hk : k < 58) (h0 : ¬ S 30 k = 0) : S 29 (300 * k + S 30 k - 1) < S 10 1 ∧ spPlace S (S 29 (300 * k + S 30 k - 1)) = k % 29 ∧ S 25 (S 29 (300 * k + S 30 k - 1)) / 29 = k / 29 := by
  have e : 300 * k + S 30 k - 1 = 300 * k + (S 30 k - 1) := by omega
  rw [e]
  have hi : S 30 k - 1 < S 30 k := by omega
  exact ⟨hW.1.pileLt hk hi, spPlace_P hW (hW.1.2.1.1 k _ hk hi).1 hk hi rfl, hP.1 k _ hk hi⟩
theorem line_facts {S : jS} (hW : Wf S) {l k : Nat} (hl : l < S 10 14) (hk : k < S 35 l) : S 36 (64 * l + k) < S 10 1 ∧ spPlace S (S 36 (64 * l + k)) = l := by
  have h1 := hW.2.1 l k hl hk
  refine ⟨?_, spPlace_L hW h1 hl hk rfl⟩
  have h2 := hW.1.2.2.live (s := S 36 (64 * l + k)) (by have := Wf.lineR hl hk; show 0 < _ + _ + lws S (ind (S 36 (64 * l + k))) (S 10 14); omega)
  exact h2.1
