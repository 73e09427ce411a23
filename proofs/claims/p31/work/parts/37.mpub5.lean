theorem spBack_14 (S : jS) (l : Nat) : spBack S l 10 14 = S 10 14 - 1 := by
  unfold spBack
  rw [spDrop_14, spEmpty_row _ l (by omega), spHomes_row (by omega)]
def spUL (f : Nat) : Nat → Nat → Nat → jS → Nat × jS
  | 0, _, h, S => (h, S)
  | d + 1, l, h, S => if l < S 10 14 then if S 42 l = f then spUL f d l (h + spKept S l (S 35 l)) (spBack S l) else spUL f d (l + 1) h S else (h, S)
def sf_unlock (S : jS) (x : Int32) : Nat × Int32 × jS := if isFm S x then if S 43 (jn x) = 2 then (2, 0, S) else (0, nI (spUL (jn x) 13 0 0 (sw S 10 0 0)).1, sw (spUL (jn x) 13 0 0 (sw S 10 0 0)).2 43 (jn x) 2) else (1, 0, S)
theorem Wf.cnt {S : jS} (h : Wf S) {l k : Nat} (hl : l < S 10 14) (hk : k < 58) : S 30 k + S 10 9 + S 35 l ≤ S 10 1 := by
  have h1 := h.1.2.2.cnt hk
  have h2 := sumr_ge (f := fun l => lw S (fun _ => 1) l (S 35 l)) hl
  have h3 : lw S (fun _ => 1) l (S 35 l) = S 35 l := sumr_1 _
  have h4 : lws S (fun _ => 1) (S 10 14) = sumr (fun l => lw S (fun _ => 1) l (S 35 l)) 0 (S 10 14) := rfl
  simp only [h4] at h1
  simp only [h3] at h2
  omega
abbrev spTight (S : jS) (l : Nat) : Prop := nI (S 10 13) - nI (spSorts S l + spSpaces S l) = 0
def spSnd (S : jS) (f n : Nat) : Nat := sumr (fun l => jb (S 42 l = f ∧ ¬ spTight S l)) 0 n
def spLF (f : Nat) : Nat → Nat → Nat → jS → Nat × jS
  | 0, _, h, S => (h, S)
  | d + 1, l, h, S => if l < S 10 14 then if S 42 l = f then if spTight S l then spLF f d (l + 1) h (sw S 42 l jNo) else spLF f d l (h + S 35 l) (spFall (sw S 42 l jNo) l) else spLF f d (l + 1) h S else (h, S)
theorem spFall_14 (S : jS) (l : Nat) : spFall S l 10 14 = S 10 14 - 1 := by
  unfold spFall
  rw [spDrop_14, spEmpty_row _ l (by omega), spHeaps_row _ (by omega)]
def sf_lift (S : jS) (x : Int32) : Nat × Int32 × jS := if isFm S x then if S 43 (jn x) = 2 then (2, 0, S) else if spSnd S (jn x) (S 10 14) = 0 then (0, 0, sw S 43 (jn x) 1) else (0, nI (spLF (jn x) 13 0 0 (sw (sw S 10 0 0) 43 (jn x) 2)).1, (spLF (jn x) 13 0 0 (sw (sw S 10 0 0) 43 (jn x) 2)).2) else (1, 0, S)
theorem Rg.st {S : jS} (h : Rg S) {f v : Nat} (hf : f < S 10 24) (hv : v < 3) : Rg (sw S 43 f v) := by
  obtain ⟨a, b, c, d, e, g, i, j, k⟩ := h
  have e43 : ∀ t, sw S 43 f v 43 t = if t = f then v else S 43 t := fun t => by simp [sw_at]
  refine ⟨a, b, c, d, e, g, i, fun t => ?_, fun t ht => ?_⟩
  · rw [e43]
    have := j t
    split <;> omega
  · change S 10 24 ≤ t at ht
    rw [e43, if_neg (by omega)]
    exact k t ht
theorem Wf.st {S : jS} (h : Wf S) {f v : Nat} (hf : f < S 10 24) (hv : v < 3) : Wf (sw S 43 f v) :=
  h.keep (h.1.same (h.1.1.st hf hv) (fun a b hab => by rw [sw_at, if_neg (by omega)])) (fun a b hab => by rw [sw_at, if_neg (by omega)]) (fun b => Or.inr rfl) (fun l k hl hk => h.2.1 l k hl hk)
theorem Wf.free {S : jS} (h : Wf S) {l f : Nat} (hl : l < S 10 14) (hf : S 42 l = f) (hlow : ∀ j, j < l → ¬ S 42 j = f) : Wf (sw S 42 l jNo) := by
  have e42 : ∀ t, sw S 42 l jNo 42 t = if t = l then jNo else S 42 t := fun t => by simp [sw_at]
  have er : ∀ a b, ¬ a = 42 → sw S 42 l jNo a b = S a b := fun a b hab => by rw [sw_at, if_neg (fun q => hab q.1)]
  refine ⟨(h.1.same (S' := sw S 42 l jNo) h.1.1 (fun a b hab => er a b (by omega))), h.2.1, fun j hj => ?_, fun a b c h1 h2 h3 h4 h5 => ?_⟩
  · obtain ⟨h1, h2, h3, h4, h5⟩ := h.2.2.1 j hj
    refine ⟨h1, h2, ?_, h4, h5⟩
    show sw S 42 l jNo 42 j = jNo ∨ sw S 42 l jNo 42 j < S 10 24
    rw [e42]
    by_cases e : j = l
    · rw [if_pos e]; exact Or.inl rfl
    · rw [if_neg e]; exact h3
  · change c < S 10 14 at h3
    rw [e42, e42] at h4
    rw [e42] at h5
    rw [e42, e42]
    by_cases ea : a = l
    · rw [if_pos ea] at h5; exact absurd rfl h5
    · rw [if_neg ea] at h4 h5 ⊢
      by_cases ec : c = l
      · rw [if_pos ec] at h4; exact absurd h4 h5
      · rw [if_neg ec] at h4
        have h6 := h.2.2.2 a b c h1 h2 h3 h4 h5
        by_cases eb : b = l
        · exfalso
          rw [eb, hf] at h6
          exact hlow a (by omega) h6.symm
        · rw [if_neg eb]; exact h6
