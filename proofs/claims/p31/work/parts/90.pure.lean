/-! WHAT EVERY CALL KEEPS (no machine) -/
theorem Wf.sl {S S' : jS} (h : Wf S) (hs : SL S S' (S 10 14)) : Wf S' := by
  have e14 := hs 10 14 (by omega)
  have hx : ∀ l, l < S 10 14 → S 35 l + S 38 l ≤ 60 := fun l hl => (h.2.2.1 l hl).1
  have hg : Rg S' := h.1.1.rows (fun b hb => hs 10 b (by omega)) (hs 32 5 (by omega)) (fun a b hab => hs a b (by omega)) (fun s => by rw [hs 27 s (by omega)]; exact h.1.1.2.2.2.1 s) (fun s => by rw [hs 28 s (by omega)]; exact h.1.1.2.2.2.2.1 s)
  refine ⟨(h.1.same hg (fun a b hab => hs a b (by omega))).toR (fun w => ?_), fun l k hl hk => ?_, fun l hl => ?_, fun a b c g1 g2 g3 g4 g5 => ?_⟩
  · rw [e14]
    unfold lws lw
    refine sumr_eq _ (fun l hl => ?_)
    have := hx l hl
    rw [hs 35 l (by omega)]
    exact sumr_eq _ (fun k hk => by rw [hs 36 _ (by omega)])
  · rw [e14] at hl
    have := hx l hl
    rw [hs 35 l (by omega)] at hk
    rw [hs 36 _ (by omega), hs 27 _ (by omega)]
    exact h.2.1 l k hl hk
  · rw [e14] at hl
    have := hx l hl
    obtain ⟨d1, d2, d3, d4, d5⟩ := h.2.2.1 l hl
    unfold LRg
    rw [hs 35 l (by omega), hs 38 l (by omega), hs 34 l (by omega), hs 42 l (by omega), hs 10 24 (by omega)]
    exact ⟨d1, d2, d3, fun k hk => by rw [hs 37 _ (by omega)]; exact d4 k hk, fun g hg => by rw [hs 40 _ (by omega)]; exact d5 g hg⟩
  · rw [e14] at g3
    rw [hs 42 a (by omega), hs 42 c (by omega)] at g4
    rw [hs 42 a (by omega)] at g5
    rw [hs 42 a (by omega), hs 42 b (by omega)]
    exact h.2.2.2 a b c g1 g2 g3 g4 g5
theorem W0.row {S S' : jS} (h : W0 S) (h1 : S 10 1 ≤ S' 10 1) (h26 : ∀ s, S 10 1 ≤ s → S' 26 s = S 26 s) : W0 S' := fun s hs => by
  rw [h26 s (by omega)]
  exact h s (by omega)
theorem spSP_row {a b : Nat} (h : ¬ (a = 27 ∨ a = 28 ∨ a = 29 ∨ a = 30 ∨ a = 31 ∨ (a = 10 ∧ b = 9))) : ∀ (d k : Nat) (S : jS), (spSP d k S).2 a b = S a b
  | 0, _, _ => rfl
  | d + 1, k, S => by
    unfold spSP
    split
    · rw [spSP_row h d, spHome_row (by omega), spOffHeap_row S 0 (by omega)]
    · rfl
theorem spBack_row {S : jS} {l a b : Nat} (h : ¬ ((27 ≤ a ∧ a ≤ 42) ∨ (a = 10 ∧ b = 14))) : spBack S l a b = S a b := by
  unfold spBack
  rw [spDrop_row _ l (by omega), spEmpty_row _ l (by omega), spHomes_row (by omega)]
theorem spUL_row {f a b : Nat} (h : ¬ ((27 ≤ a ∧ a ≤ 42) ∨ (a = 10 ∧ b = 14))) : ∀ (d l k : Nat) (S : jS), (spUL f d l k S).2 a b = S a b
  | 0, _, _, _ => rfl
  | d + 1, l, k, S => by
    unfold spUL
    split
    · split
      · rw [spUL_row h d, spBack_row h]
      · exact spUL_row h d _ _ _
    · rfl
theorem spFall_row {S : jS} {l a b : Nat} (h : ¬ ((27 ≤ a ∧ a ≤ 42) ∨ (a = 10 ∧ (b = 14 ∨ b = 9)))) : spFall S l a b = S a b := by
  unfold spFall
  rw [spDrop_row _ l (by omega), spEmpty_row _ l (by omega), spHeaps_row _ (by omega)]
theorem spLF_row {f a b : Nat} (h : ¬ ((27 ≤ a ∧ a ≤ 42) ∨ (a = 10 ∧ (b = 14 ∨ b = 9)))) : ∀ (d l k : Nat) (S : jS), (spLF f d l k S).2 a b = S a b
  | 0, _, _, _ => rfl
  | d + 1, l, k, S => by
    unfold spLF
    split
    · split
      · split
        · rw [spLF_row h d, sw_at, if_neg (by omega)]
        · rw [spLF_row h d, spFall_row h, sw_at, if_neg (by omega)]
      · exact spLF_row h d _ _ _
    · rfl
theorem spPrL_26 {l t : Nat} {S : jS} : ∀ k, (∀ j, j < k → ¬ S 36 (64 * l + j) = t) → (spPrL l k S).2 26 t = S 26 t
  | 0, _ => rfl
  | k + 1, h => by
    have ih := spPrL_26 (l := l) (S := S) k (fun j hj => h j (by omega))
    have hk : ¬ t = S 36 (64 * l + k) := fun e => h k (by omega) e.symm
    unfold spPrL
    split
    · simp only
      unfold spInk
      rw [sw_at, if_neg (fun q => hk q.2), spShow_row _ _ (by omega)]
      split
      · rw [spShow_row _ _ (by omega)]; exact ih
      · exact ih
    · simp only
      unfold spInk
      rw [sw_at, if_neg (fun q => hk q.2), spShow_row _ _ (by omega)]
      exact ih
theorem spPrA_26 {f t : Nat} {S : jS} : ∀ l, (∀ j k, j < l → k < S 35 j → ¬ S 36 (64 * j + k) = t) → spPrA f l S 26 t = S 26 t
  | 0, _ => rfl
  | l + 1, h => by
    have ih := spPrA_26 (f := f) (S := S) l (fun j k hj hk => h j k (by omega) hk)
    unfold spPrA
    split
    · rw [spPrL_26 _ (fun j hj => by rw [spPrA_row S (by omega)]; exact h l j (by omega) hj)]
      exact ih
    · exact ih
/-- the state S' comes of the call on S: refused, it is S; it keeps what must hold -/
def KS (S : jS) (r : Nat × Int32 × jS) : Prop := (¬ r.1 = 0 → r.2.2 = S) ∧ Wf r.2.2 ∧ W0 r.2.2
theorem KS.id {S : jS} {k : Nat} {x : Int32} (hW : Wf S) (h0 : W0 S) : KS S (k, x, S) := ⟨fun _ => rfl, hW, h0⟩
theorem KS.ok {S T : jS} {x : Int32} (hW : Wf T) (h0 : W0 T) : KS S (0, x, T) := ⟨fun h => absurd rfl h, hW, h0⟩
theorem st_cast {S : jS} (hW : Wf S) (h0 : W0 S) (x y z : Int32) : KS S (sf_cast S x y z) := by
  unfold sf_cast
  by_cases h1 : isBx x y
  · rw [if_pos h1]
    obtain ⟨⟨h5, hx⟩, h6, hy⟩ := h1.at
    by_cases h2 : inR z 1 40
    · rw [if_pos h2]
      by_cases h3 : 300 < S 10 1 + jn z
      · rw [if_pos h3]; exact KS.id hW h0
      · rw [if_neg h3]; exact KS.ok (Wf.cast (by omega) _ hW (by omega)) (h0.cast _)
    · rw [if_neg h2]; exact KS.id hW h0
  · rw [if_neg h1]; exact KS.id hW h0
theorem st_spaces {S : jS} (hW : Wf S) (h0 : W0 S) (x y : Int32) : KS S (sf_spaces S x y) := by
  unfold sf_spaces
  by_cases h1 : isUn x ∧ inR y 1 100
  · rw [if_pos h1]
    obtain ⟨⟨h3, h4, h5⟩, hx⟩ := h1.1.at
    split
    · exact KS.id hW h0
    · exact KS.ok (hW.spaces h5) (h0.row (Nat.le_refl _) (fun s _ => by rw [sw_at, if_neg (by omega)]))
  · rw [if_neg h1]; exact KS.id hW h0
theorem st_type {S : jS} (hW : Wf S) (h0 : W0 S) {c : Nat} (hc : c < 65536) : KS S (sf_type S c) := by
  unfold sf_type
  by_cases h1 : okc c
  · rw [if_pos h1]
    by_cases h2 : S 10 12 = 60
    · rw [if_pos h2]; exact KS.id hW h0
    · rw [if_neg h2]
      exact KS.ok (hW.type h1 hc h2) (h0.row (by rw [sw_at, if_neg (by omega), sw_at, if_neg (by omega)]; exact Nat.le_refl _) (fun s _ => by rw [sw_at, if_neg (by omega), sw_at, if_neg (by omega)]))
  · rw [if_neg h1]; exact KS.id hW h0
theorem st_clear {S : jS} (hW : Wf S) (h0 : W0 S) : KS S (sf_clear S) := KS.ok hW.clear (h0.row (by rw [sw_at, if_neg (by omega)]; exact Nat.le_refl _) (fun s _ => by rw [sw_at, if_neg (by omega)]))
theorem st_measure {S : jS} (hW : Wf S) (h0 : W0 S) (x : Int32) : KS S (sf_measure S x) := by
  unfold sf_measure
  by_cases h1 : inR x 20 200
  · rw [if_pos h1]
    obtain ⟨h2, hx⟩ := in_of (n := 200) (by omega) ⟨Int32.le_trans (show (0 : Int32) ≤ 20 by decide) h1.1, h1.2⟩
    have h3 : 20 ≤ jn x := by
      have q := h1.1
      rw [hx, show (20 : Int32) = nI 20 from rfl, nI_leI (by omega) (by omega)] at q
      exact q
    split
    · exact KS.id hW h0
    · exact KS.ok (hW.measure h3 h2) (h0.row (by rw [sw_at, if_neg (by omega)]; exact Nat.le_refl _) (fun s _ => by rw [sw_at, if_neg (by omega)]))
  · rw [if_neg h1]; exact KS.id hW h0
theorem st_inBox {S : jS} (hW : Wf S) (h0 : W0 S) (x y : Int32) : KS S (sf_inBox S x y) := by unfold sf_inBox; split <;> exact KS.id hW h0
theorem st_top {S : jS} (hW : Wf S) (h0 : W0 S) (x y : Int32) : KS S (sf_top S x y) := by unfold sf_top; split <;> exact KS.id hW h0
theorem st_inSpaces {S : jS} (hW : Wf S) (h0 : W0 S) (x : Int32) : KS S (sf_inSpaces S x) := by unfold sf_inSpaces; split <;> exact KS.id hW h0
theorem st_lines {S : jS} (hW : Wf S) (h0 : W0 S) : KS S (sf_lines S) := KS.id hW h0
theorem st_pie {S : jS} (hW : Wf S) (h0 : W0 S) : KS S (sf_pie S) := KS.id hW h0
theorem st_sortAt {S : jS} (hW : Wf S) (h0 : W0 S) (x y : Int32) : KS S (sf_sortAt S x y) := by unfold sf_sortAt; split <;> exact KS.id hW h0
theorem st_gap {S : jS} (hW : Wf S) (h0 : W0 S) (x y : Int32) : KS S (sf_gap S x y) := by unfold sf_gap; split <;> exact KS.id hW h0
theorem st_printed {S : jS} (hW : Wf S) (h0 : W0 S) (x : Int32) : KS S (sf_printed S x) := by unfold sf_printed; split <;> exact KS.id hW h0
theorem st_lead {S : jS} (hW : Wf S) (h0 : W0 S) (x y : Int32) : KS S (sf_lead S x y) := by unfold sf_lead; split <;> exact KS.id hW h0
theorem st_form {S : jS} (hW : Wf S) (h0 : W0 S) (x y : Int32) : KS S (sf_form S x y) := by
  unfold sf_form
  split
  · split <;> exact KS.id hW h0
  · exact KS.id hW h0
theorem st_line {S : jS} (hW : Wf S) (h0 : W0 S) (x y : Int32) : KS S (sf_line S x y) := by
  unfold sf_line
  split
  · split <;> exact KS.id hW h0
  · exact KS.id hW h0
theorem st_sort {S : jS} (hW : Wf S) (h0 : W0 S) (x y : Int32) : KS S (sf_sort S x y) := by
  unfold sf_sort
  split
  · split <;> exact KS.id hW h0
  · exact KS.id hW h0
theorem st_foul {S : jS} (hW : Wf S) (h0 : W0 S) (x y z : Int32) : KS S (sf_foul S x y z) := by
  unfold sf_foul
  by_cases h1 : isBx x y ∧ isBx x z
  · rw [if_pos h1]
    obtain ⟨⟨h5, -⟩, h6, -⟩ := h1.1.at
    obtain ⟨-, h7, -⟩ := h1.2.at
    split
    · exact KS.id hW h0
    · by_cases h2 : S 30 (29 * jn x + jn y) = 0
      · rw [if_pos h2]; exact KS.id hW h0
      · rw [if_neg h2]
        have er : ∀ a b, ¬ (a = 27 ∨ a = 28 ∨ a = 29 ∨ a = 30) → spPut (spTake S (29 * jn x + jn y)) (29 * jn x + jn z) (spTop S (29 * jn x + jn y)) a b = S a b := fun a b hab => by
          rw [spPut_row _ _ _ hab]
          show sw S 30 _ _ a b = S a b
          rw [sw_at, if_neg (by omega)]
        exact KS.ok (hW.foul (by omega) (by omega) (by omega)) (h0.row (by rw [er 10 1 (by omega)]; exact Nat.le_refl _) (fun s _ => er 26 s (by omega)))
  · rw [if_neg h1]; exact KS.id hW h0
theorem st_putBack {S : jS} (hW : Wf S) (h0 : W0 S) (x : Int32) : KS S (sf_putBack S x) := by
  unfold sf_putBack
  have hn := hW.1.1.1
  by_cases h1 : isLn S x
  · rw [if_pos h1]
    obtain ⟨h3, hx⟩ := in_lt (by omega) h1
    split
    · exact KS.ok (Wf_back hW h3) (h0.row (by rw [spBack_row (by omega)]; exact Nat.le_refl _) (fun s _ => spBack_row (by omega)))
    · exact KS.id hW h0
  · rw [if_neg h1]; exact KS.id hW h0
theorem st_sortPie {S : jS} (hW : Wf S) (h0 : W0 S) (x : Int32) : KS S (sf_sortPie S x) := by
  unfold sf_sortPie
  split
  · exact KS.ok (Wf.SP _ _ hW.ref) (h0.row (by rw [spSP_row (by omega)]; exact Nat.le_refl _) (fun s _ => spSP_row (by omega) _ _ _))
  · exact KS.id hW h0
theorem st_lock {S : jS} (hW : Wf S) (h0 : W0 S) (x y : Int32) : KS S (sf_lock S x y) := by
  unfold sf_lock
  have hn := hW.1.1.1
  by_cases h1 : isLn S x ∧ isLn S y
  · rw [if_pos h1]
    obtain ⟨h3, -⟩ := in_lt (by omega) h1.2
    split
    · exact KS.id hW h0
    · by_cases h2 : spNF S (jn x) (jn y + 1 - jn x) = 0 ∧ ¬ S 10 24 = 4
      · rw [if_pos h2]
        have er : ∀ a b, ¬ (a = 42 ∨ a = 43 ∨ (a = 10 ∧ b = 24)) → spLock S (jn x) (jn y) a b = S a b := fun a b hab => by
          unfold spLock
          rw [if_neg (by omega), if_neg (by omega), if_neg (by omega)]
        exact KS.ok (hW.lock h3 h2.1 h2.2) (h0.row (by rw [er 10 1 (by omega)]; exact Nat.le_refl _) (fun s _ => er 26 s (by omega)))
      · rw [if_neg h2]; exact KS.id hW h0
  · rw [if_neg h1]; exact KS.id hW h0
theorem st_unlock {S : jS} (hW : Wf S) (h0 : W0 S) (x : Int32) : KS S (sf_unlock S x) := by
  unfold sf_unlock
  have hn := hW.1.1.1
  by_cases h1 : isFm S x
  · rw [if_pos h1]
    obtain ⟨h3, -⟩ := in_lt (by omega) h1
    split
    · exact KS.id hW h0
    · exact KS.ok (hW.unlock h3) (h0.row (by rw [sw_at, if_neg (by omega), spUL_row (by omega)]; exact Nat.le_refl _) (fun s _ => by rw [sw_at, if_neg (by omega), spUL_row (by omega), sw_at, if_neg (by omega)]))
  · rw [if_neg h1]; exact KS.id hW h0
theorem st_lift {S : jS} (hW : Wf S) (h0 : W0 S) (x : Int32) : KS S (sf_lift S x) := by
  unfold sf_lift
  have hn := hW.1.1.1
  by_cases h1 : isFm S x
  · rw [if_pos h1]
    obtain ⟨h3, -⟩ := in_lt (by omega) h1
    split
    · exact KS.id hW h0
    · split
      · exact KS.ok (hW.st h3 (by omega)) (h0.row (by rw [sw_at, if_neg (by omega)]; exact Nat.le_refl _) (fun s _ => by rw [sw_at, if_neg (by omega)]))
      · exact KS.ok (hW.lift2 h3) (h0.row (by rw [spLF_row (by omega), sw_at, if_neg (by omega), sw_at, if_neg (by omega)]; exact Nat.le_refl _) (fun s _ => by rw [spLF_row (by omega), sw_at, if_neg (by omega), sw_at, if_neg (by omega)]))
  · rw [if_neg h1]; exact KS.id hW h0
theorem st_proof {S : jS} (hW : Wf S) (h0 : W0 S) (x : Int32) : KS S (sf_proof S x) := by
  unfold sf_proof
  by_cases h1 : isFm S x
  · rw [if_pos h1]
    split
    · refine KS.ok hW.proof (h0.row ?_ (fun s hs => ?_))
      · rw [sw_at, if_neg (by omega), spPrA_row _ (by omega), sw_at, if_neg (by omega), sw_at, if_neg (by omega)]; exact Nat.le_refl _
      · rw [sw_at, if_neg (by omega), spPrA_26 (S := sw (sw S 10 0 0) 10 28 0) (S 10 14) (fun j k hj hk => ?_), sw_at, if_neg (by omega), sw_at, if_neg (by omega)]
        have q := hW.inLine hj (show k < S 35 j from hk)
        show ¬ S 36 (64 * j + k) = s
        omega
    · exact KS.id hW h0
  · rw [if_neg h1]; exact KS.id hW h0
theorem st_mend {S : jS} (hW : Wf S) (h0 : W0 S) (x y : Int32) : KS S (sf_mend S x y) := by
  unfold sf_mend
  have hn := hW.1.1.1
  by_cases h1 : isLn S x ∧ inR y 0 (nI (S 35 (jn x)) - nI 1)
  · rw [if_pos h1]
    obtain ⟨h3, -⟩ := in_lt (by omega) h1.1
    have hL := (hW.2.2.1 _ h3).1
    obtain ⟨h4, -⟩ := in_lt (by omega) h1.2
    by_cases h2 : ¬ spWrong S (jn x) (jn y) ∨ (¬ spOn S (S 37 (64 * jn x + jn y)) ∧ spHp S (S 37 (64 * jn x + jn y)) = jNo)
    · rw [if_pos h2]; exact KS.id hW h0
    · rw [if_neg h2]
      have h5 : spOn (sw S 10 0 0) (S 37 (64 * jn x + jn y)) ∨ ¬ spHp (sw S 10 0 0) (S 37 (64 * jn x + jn y)) = jNo := by
        rw [spHp_sw]
        by_cases c : spOn S (S 37 (64 * jn x + jn y))
        · exact Or.inl c
        · exact Or.inr (fun q => h2 (Or.inr ⟨c, q⟩))
      have er : ∀ a b, ¬ (a = 43 ∨ a = 27 ∨ a = 28 ∨ a = 29 ∨ a = 30 ∨ a = 31 ∨ a = 32 ∨ a = 36 ∨ a = 40 ∨ (a = 10 ∧ (b = 9 ∨ b = 0))) → spMendF (sw S 10 0 0) (jn x) (jn y) a b = S a b := fun a b hab => by
        unfold spMendF
        split
        · rw [spMend_row _ _ _ (by omega), sw_at, if_neg (by omega)]
        · rw [sw_at, if_neg (by omega), spMend_row _ _ _ (by omega), sw_at, if_neg (by omega)]
      exact KS.ok (Wf_mendF hW.ref h3 h4 h5) (h0.row (by rw [er 10 1 (by omega)]; exact Nat.le_refl _) (fun s _ => er 26 s (by omega)))
  · rw [if_neg h1]; exact KS.id hW h0
theorem st_setEnd {S : jS} (h0 : W0 S) {T : jS} {f t k : Nat} (hS : WS S T (S 10 14) f (spBlanks S 0) k) : W0 (spSetEnd T (S 10 14) f t) := by
  have er : ∀ a b, a = 26 ∨ (a = 10 ∧ b = 1) → spSetEnd T (S 10 14) f t a b = S a b := fun a b hab => by
    unfold spSetEnd
    rw [spFill_row _ _ (by omega) (by omega), spEndC_row (by omega)]
    exact hS.2.2.1 a b (by omega)
  exact h0.row (by rw [er 10 1 (by omega)]; exact Nat.le_refl _) (fun s _ => er 26 s (by omega))
theorem W0.sl {S : jS} (h0 : W0 S) {S' : jS} {l : Nat} (hs : SL S S' l) : W0 S' := h0.row (by rw [hs 10 1 (by omega)]; exact Nat.le_refl _) (fun s _ => hs 26 s (by omega))
theorem CM.ext {M M' : jx_M} {S : jS} {p : Nat → Nat} (h : CM M S p) (hI : ∀ r, ¬ mR r → sI M M' r) (hP : ∀ r, sP M M' r) (hN : ∀ r, qN M' r = qN M r) : CM M' S p := by
  obtain ⟨hB, hT, hS, hF, hH, hPr, hO, hK, hL⟩ := h
  exact ⟨hB.fr (fun _ => hP 9 _ _) (fun k _ => hI 9 (by decide) 0 k) (hP 7) (hP 8) (hP 2) (hP 5) (hN 6) rfl rfl rfl rfl, hT.fr (hI 8 (by decide)) (hI 21 (by decide)) rfl (fun _ _ => rfl), hS.fr (hI 24 (by decide)) (fun _ => rfl), hF.fr (hP 14) (hI 1 (by decide)) (fun _ _ => rfl) (fun _ _ => rfl), hH.fr (hI 2 (by decide)) (hP 22) rfl (fun _ _ => rfl), hPr.fr (hI 5 (by decide)) (hI 23 (by decide)) rfl (fun _ _ => rfl), hO.fr (hP 12) (hI 6 (by decide)) rfl (fun _ _ _ _ => rfl), hK.fr (hP 11) (hI 4 (by decide)) (hP 4) (fun _ _ _ _ => ⟨hP 6 _ _, hP 6 _ _⟩) rfl (fun _ _ => rfl) (fun _ _ _ _ => rfl) (fun _ _ => rfl) (fun _ _ => Iff.rfl), hL.fr (hI 3 (by decide)) (hP 3) (hP 13) (hP 16) (hI 17 (by decide)) (hI 18 (by decide)) (hI 19 (by decide)) (hI 20 (by decide)) (fun _ => hP 6 _ _) rfl (fun _ _ _ => rfl)⟩
/-- what holds between two calls of the law -/
def LI (M : jx_M) : Prop := ∃ S p, RM M S ∧ CM M S p ∧ Wf S ∧ W0 S ∧ qN M 47 = 1
