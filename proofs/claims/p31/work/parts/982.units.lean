/-! PURE: spaces: what the store and the lines have of them together; a line's slack -/
def qU (S : jS) (c : Nat) : Nat := sumr (fun u => u * S 40 (c + u)) 1 6
def uS (S : jS) : Nat := sumr (fun u => u * S 32 u) 1 6
def uL (S : jS) (n : Nat) : Nat := sumr (fun l => spSpaces S l) 0 n
def uT (S : jS) : Nat := uS S + uL S (S 10 14)
def SKl (S : jS) (l : Nat) : Prop := spSorts S l + spSpaces S l ≤ S 10 13 ∨ spSpaces S l = 0
def SK (S : jS) : Prop := ∀ l, l < S 10 14 → SKl S l
theorem qU_x (S : jS) (c : Nat) : qU S c = 1 * S 40 (c + 1) + 2 * S 40 (c + 2) + 3 * S 40 (c + 3) + 4 * S 40 (c + 4) + 5 * S 40 (c + 5) + 6 * S 40 (c + 6) := by
  show 0 + 1 * S 40 (c + 1) + 2 * S 40 (c + 2) + 3 * S 40 (c + 3) + 4 * S 40 (c + 4) + 5 * S 40 (c + 5) + 6 * S 40 (c + 6) = _
  omega
theorem uS_x (S : jS) : uS S = 1 * S 32 1 + 2 * S 32 2 + 3 * S 32 3 + 4 * S 32 4 + 5 * S 32 5 + 6 * S 32 6 := by
  show 0 + 1 * S 32 1 + 2 * S 32 2 + 3 * S 32 3 + 4 * S 32 4 + 5 * S 32 5 + 6 * S 32 6 = _
  omega
theorem qU_units (S : jS) (l g : Nat) : spUnits S l g = qU S (448 * l + 7 * g) := rfl
theorem qU_eq {S S' : jS} {c c' : Nat} (h : ∀ u, 1 ≤ u → u ≤ 6 → S' 40 (c' + u) = S 40 (c + u)) : qU S' c' = qU S c := by
  rw [qU_x, qU_x, h 1 (by omega) (by omega), h 2 (by omega) (by omega), h 3 (by omega) (by omega), h 4 (by omega) (by omega), h 5 (by omega) (by omega), h 6 (by omega) (by omega)]
theorem uS_eq {S S' : jS} (h : ∀ u, 1 ≤ u → u ≤ 6 → S' 32 u = S 32 u) : uS S' = uS S := by
  rw [uS_x, uS_x, h 1 (by omega) (by omega), h 2 (by omega) (by omega), h 3 (by omega) (by omega), h 4 (by omega) (by omega), h 5 (by omega) (by omega), h 6 (by omega) (by omega)]
theorem spaces_eq {S S' : jS} {l l' : Nat} (h38 : S' 38 l' = S 38 l) (h40 : ∀ g u, g ≤ S 38 l → 1 ≤ u → u ≤ 6 → S' 40 (448 * l' + 7 * g + u) = S 40 (448 * l + 7 * g + u)) : spSpaces S' l' = spSpaces S l := by
  unfold spSpaces
  rw [h38]
  exact sumr_eq _ (fun g hg => qU_eq (fun u h1 h2 => h40 g u (by omega) h1 h2))
theorem sorts_eq {S S' : jS} {l l' : Nat} (h35 : S' 35 l' = S 35 l) (h : ∀ k, k < S 35 l → S' 25 (S' 36 (64 * l' + k)) = S 25 (S 36 (64 * l + k))) : spSorts S' l' = spSorts S l := by
  unfold spSorts
  rw [h35]
  exact sumr_eq _ (fun k hk => by rw [h k hk])
theorem SKl.congr {S S' : jS} {l l' : Nat} (h : SKl S l) (h13 : S' 10 13 = S 10 13) (h1 : spSorts S' l' = spSorts S l) (h2 : spSpaces S' l' = spSpaces S l) : SKl S' l' := by
  unfold SKl at h ⊢
  rw [h13, h1, h2]
  exact h
theorem spTaken_le (S : jS) (u n : Nat) : spTaken S u n ≤ S 32 u ∧ spTaken S u n * u ≤ n := by
  unfold spTaken
  refine ⟨Nat.le_trans (Nat.min_le_right _ _) (jP_le _), ?_⟩
  exact Nat.le_trans (Nat.mul_le_mul_right u (Nat.min_le_left _ _)) (Nat.div_mul_le_self n u)
theorem spF1_u {S : jS} {c u t : Nat} (h1 : 1 ≤ u) (h2 : u ≤ 6) (ht : t ≤ S 32 u) : uS (spF1 S (c + u) u t) + t * u = uS S ∧ qU (spF1 S (c + u) u t) c = qU S c + t * u := by
  have e32 : ∀ x, spF1 S (c + u) u t 32 x = if x = u then S 32 u - t else S 32 x := fun x => by
    unfold spF1
    rw [sw_at, if_neg (by omega), sw_at]
    by_cases e : x = u
    · rw [if_pos ⟨rfl, e⟩, if_pos e]
    · rw [if_neg (fun q => e q.2), if_neg e]
  have e40 : ∀ x, spF1 S (c + u) u t 40 (c + x) = if x = u then S 40 (c + u) + t else S 40 (c + x) := fun x => by
    unfold spF1
    rw [sw_at]
    by_cases e : x = u
    · rw [if_pos ⟨rfl, by omega⟩, if_pos e]
    · rw [if_neg (fun q => e (by omega)), if_neg e, sw_at, if_neg (by omega)]
  rw [uS_x, uS_x, qU_x, qU_x]
  simp only [e32, e40]
  rcases (show u = 1 ∨ u = 2 ∨ u = 3 ∨ u = 4 ∨ u = 5 ∨ u = 6 by omega) with rfl | rfl | rfl | rfl | rfl | rfl <;> simp <;> omega
theorem spFG_q {c : Nat} : ∀ (u n : Nat) (S : jS), u ≤ 6 → uS (spFG c u n S) + qU (spFG c u n S) c = uS S + qU S c ∧ qU (spFG c u n S) c ≤ qU S c + n
  | 0, n, S, _ => ⟨rfl, Nat.le_add_right _ _⟩
  | u + 1, n, S, h => by
    unfold spFG
    obtain ⟨t1, t2⟩ := spTaken_le S (u + 1) n
    obtain ⟨f1, f2⟩ := spF1_u (S := S) (c := c) (u := u + 1) (t := spTaken S (u + 1) n) (by omega) h t1
    obtain ⟨g1, g2⟩ := spFG_q (c := c) u (n - spTaken S (u + 1) n * (u + 1)) (spF1 S (c + (u + 1)) (u + 1) (spTaken S (u + 1) n)) (by omega)
    generalize spTaken S (u + 1) n * (u + 1) = z at *
    omega
/-- a gap that is filled -/
theorem fg_u (S : jS) {l g n : Nat} (hg : g ≤ S 38 l) : uS (spFillGap S l g n) + spSpaces (spFillGap S l g n) l = uS S + spSpaces S l ∧ spSpaces (spFillGap S l g n) l ≤ spSpaces S l + n := by
  obtain ⟨g1, g2⟩ := spFG_q (c := 448 * l + 7 * g) 6 n S (Nat.le_refl _)
  have e38 : spFillGap S l g n 38 l = S 38 l := spFillGap_row S l g n (by omega)
  have e40 : ∀ b, ¬ (448 * l + 7 * g + 1 ≤ b ∧ b ≤ 448 * l + 7 * g + 6) → spFillGap S l g n 40 b = S 40 b := fun b hb => by
    unfold spFillGap
    have h5 : ∀ (u n : Nat) (S : jS), u ≤ 6 → spFG (448 * l + 7 * g) u n S 40 b = S 40 b := by
      intro u
      induction u with
      | zero => intro n S _; rfl
      | succ u ih =>
        intro n S hu
        unfold spFG
        rw [ih _ _ (by omega)]
        unfold spF1
        rw [sw_at, if_neg (by omega), sw_at, if_neg (by omega)]
    exact h5 6 n S (Nat.le_refl _)
  have e := sumr_upd (f := fun j => spUnits S l j) (g := fun j => spUnits (spFillGap S l g n) l j) (n := S 38 l + 1) (k := g) (by omega) (fun j hj hne => qU_eq (fun u h1 h2 => e40 _ (by omega)))
  have e1 : spSpaces (spFillGap S l g n) l = sumr (fun j => spUnits (spFillGap S l g n) l j) 0 (S 38 l + 1) := by unfold spSpaces; rw [e38]
  have e2 : spSpaces S l = sumr (fun j => spUnits S l j) 0 (S 38 l + 1) := rfl
  have e3 : spUnits (spFillGap S l g n) l g = qU (spFG (448 * l + 7 * g) 6 n S) (448 * l + 7 * g) := rfl
  have e4 : spUnits S l g = qU S (448 * l + 7 * g) := rfl
  have e5 : uS (spFillGap S l g n) = uS (spFG (448 * l + 7 * g) 6 n S) := rfl
  rw [e1, e2, e5]
  omega
theorem fg_row {S : jS} {l g n m : Nat} (hg : g ≤ 60) (hm : ¬ m = l) {b : Nat} (hb : b < 448) : spFillGap S l g n 40 (448 * m + b) = S 40 (448 * m + b) := by
  unfold spFillGap
  have h5 : ∀ (u n : Nat) (S : jS), u ≤ 6 → spFG (448 * l + 7 * g) u n S 40 (448 * m + b) = S 40 (448 * m + b) := by
    intro u
    induction u with
    | zero => intro n S _; rfl
    | succ u ih =>
      intro n S hu
      unfold spFG
      rw [ih _ _ (by omega)]
      unfold spF1
      rw [sw_at, if_neg (by omega), sw_at, if_neg (by omega)]
  exact h5 6 n S (Nat.le_refl _)
theorem spFills_row0 {l : Nat} {w : Nat → Nat} {S : jS} {a b : Nat} (h1 : ¬ a = 32) (h2 : ¬ a = 40) : ∀ g, spFills l w g S a b = S a b
  | 0 => rfl
  | g + 1 => by
    show spFillGap (spFills l w g S) l g (w g) a b = _
    rw [spFillGap_row _ _ _ _ (by omega)]
    exact spFills_row0 h1 h2 g
theorem fills_u (S : jS) {l : Nat} {w : Nat → Nat} : ∀ g, g ≤ S 38 l + 1 → uS (spFills l w g S) + spSpaces (spFills l w g S) l = uS S + spSpaces S l ∧ spSpaces (spFills l w g S) l ≤ spSpaces S l + sumr w 0 g
  | 0, _ => ⟨rfl, Nat.le_add_right _ _⟩
  | g + 1, hg => by
    obtain ⟨a1, a2⟩ := fills_u S (l := l) (w := w) g (by omega)
    obtain ⟨b1, b2⟩ := fg_u (spFills l w g S) (l := l) (g := g) (n := w g) (by rw [spFills_row0 (by omega) (by omega)]; omega)
    have e : spFills l w (g + 1) S = spFillGap (spFills l w g S) l g (w g) := rfl
    rw [e, sumr_s]
    omega
theorem fills_row {S : jS} {l : Nat} {w : Nat → Nat} {m b : Nat} (hm : ¬ m = l) (hb : b < 448) : ∀ g, g ≤ 61 → spFills l w g S 40 (448 * m + b) = S 40 (448 * m + b)
  | 0, _ => rfl
  | g + 1, hg => by
    show spFillGap (spFills l w g S) l g (w g) 40 _ = _
    rw [fg_row (by omega) hm hb]
    exact fills_row hm hb g (by omega)
theorem zero_row {S : jS} {l K m b : Nat} (hK : K ≤ 448 * l + 448) (hm : ¬ m = l) (hb : b < 448) : spZero S l K 40 (448 * m + b) = S 40 (448 * m + b) := by
  unfold spZero
  rw [if_neg (by omega)]
theorem zero_at {S : jS} {l K b : Nat} (h : 448 * l ≤ b) (hK : b < K) : spZero S l K 40 b = 0 := by
  unfold spZero
  rw [if_pos ⟨rfl, h, hK⟩]
theorem zero_rw {S : jS} {l K a b : Nat} (h : ¬ a = 40) : spZero S l K a b = S a b := by
  unfold spZero
  rw [if_neg (fun q => h q.1)]
theorem zero_u (S : jS) (l : Nat) : spSpaces (spZero S l (448 * l + 7 * S 38 l + 7)) l = 0 := by
  unfold spSpaces
  rw [zero_rw (by omega)]
  refine sumr_0 _ (fun g hg => ?_)
  rw [qU_units, qU_x]
  rw [zero_at (by omega) (by omega), zero_at (by omega) (by omega), zero_at (by omega) (by omega), zero_at (by omega) (by omega), zero_at (by omega) (by omega), zero_at (by omega) (by omega)]
theorem each_sum {n rest : Nat} (hn : 0 < n) : sumr (spEach n rest 0) 0 n = rest := by
  have h : ∀ m, m ≤ n → sumr (spEach n rest 0) 0 m = m * (rest / n) + min m (rest % n) := by
    intro m
    induction m with
    | zero => intro _; show 0 = 0 * _ + min 0 _; omega
    | succ m ih =>
      intro hm
      rw [sumr_s, ih (by omega), Nat.succ_mul]
      have e : spEach n rest 0 m = rest / n + (if m < rest % n then 1 else 0) := by unfold spEach; rw [if_neg (by omega)]
      rw [e]
      generalize rest / n = a
      split <;> omega
  rw [h n (Nat.le_refl _)]
  have h1 := Nat.mod_lt rest hn
  have h2 := Nat.div_add_mod rest n
  rw [Nat.min_eq_right (by omega)]
  exact h2
theorem each3_sum {n rest : Nat} : ∀ m, sumr (spEach n rest 1) 0 m = 3 * m
  | 0 => rfl
  | m + 1 => by
    rw [sumr_s, each3_sum m]
    have e : spEach n rest 1 m = 3 := by unfold spEach; rw [if_pos rfl]
    rw [e]
    omega
theorem spLo_3 {S : jS} {l : Nat} (h : spLo S l = 1) : 3 * S 38 l ≤ S 10 13 - spSorts S l := by
  unfold spLo at h
  by_cases c : (¬ S 41 l = 0 ∨ (0 < S 38 l ∧ 12 < (S 10 13 - spSorts S l + S 38 l - 1) / S 38 l)) ∧ 3 * S 38 l ≤ S 10 13 - spSorts S l
  · exact c.2
  · rw [jb_f c] at h; omega
theorem spLo_01 {S : jS} {l : Nat} : spLo S l = 1 ∨ spLo S l = 0 := by
  unfold spLo jb
  split
  · exact Or.inl rfl
  · exact Or.inr rfl
theorem fill_u {S : jS} {l : Nat} (h60 : S 38 l ≤ 60) : uS (spFill S l) + spSpaces (spFill S l) l = uS S ∧ spSorts (spFill S l) l = spSorts S l ∧ SKl (spFill S l) l := by
  have es : spSorts (spFill S l) l = spSorts S l := sorts_eq (spFill_row S l (by omega) (by omega)) (fun k _ => by rw [spFill_row S l (by omega) (by omega), spFill_row S l (by omega) (by omega)])
  have e13 : spFill S l 10 13 = S 10 13 := spFill_row S l (by omega) (by omega)
  have hz := zero_u S l
  have hzs : uS (spZero S l (448 * l + 7 * S 38 l + 7)) = uS S := uS_eq (fun u _ _ => zero_rw (by omega))
  refine ⟨?_, es, ?_⟩
  · unfold spFill
    split
    · rw [hz, hzs]; rfl
    · have h38 : ∀ w, spFills l w (S 38 l) (spZero S l (448 * l + 7 * S 38 l + 7)) 38 l = S 38 l := fun w => by rw [spFills_row0 (by omega) (by omega), zero_rw (by omega)]
      have hf := (fills_u (spZero S l (448 * l + 7 * S 38 l + 7)) (l := l) (w := spEach (S 38 l) (S 10 13 - spSorts S l) (spLo S l)) (S 38 l) (by rw [zero_rw (by omega)]; omega)).1
      have hg := (fg_u (spFills l (spEach (S 38 l) (S 10 13 - spSorts S l) (spLo S l)) (S 38 l) (spZero S l (448 * l + 7 * S 38 l + 7))) (l := l) (g := S 38 l) (n := if S 38 l = 0 then S 10 13 - spSorts S l else if spLo S l = 1 then S 10 13 - spSorts S l - 3 * S 38 l else 0) (by rw [h38]; exact Nat.le_refl _)).1
      rw [hg, hf, hz, hzs]; rfl
  · unfold SKl
    rw [es, e13]
    unfold spFill
    split
    · exact Or.inr hz
    · rename_i hm
      left
      have h38 : ∀ w, spFills l w (S 38 l) (spZero S l (448 * l + 7 * S 38 l + 7)) 38 l = S 38 l := fun w => by rw [spFills_row0 (by omega) (by omega), zero_rw (by omega)]
      have hf := (fills_u (spZero S l (448 * l + 7 * S 38 l + 7)) (l := l) (w := spEach (S 38 l) (S 10 13 - spSorts S l) (spLo S l)) (S 38 l) (by rw [zero_rw (by omega)]; omega)).2
      have hg := (fg_u (spFills l (spEach (S 38 l) (S 10 13 - spSorts S l) (spLo S l)) (S 38 l) (spZero S l (448 * l + 7 * S 38 l + 7))) (l := l) (g := S 38 l) (n := if S 38 l = 0 then S 10 13 - spSorts S l else if spLo S l = 1 then S 10 13 - spSorts S l - 3 * S 38 l else 0) (by rw [h38]; exact Nat.le_refl _)).2
      rw [hz] at hf
      have hs : sumr (spEach (S 38 l) (S 10 13 - spSorts S l) (spLo S l)) 0 (S 38 l) + (if S 38 l = 0 then S 10 13 - spSorts S l else if spLo S l = 1 then S 10 13 - spSorts S l - 3 * S 38 l else 0) ≤ S 10 13 - spSorts S l := by
        by_cases c0 : S 38 l = 0
        · rw [if_pos c0, c0]
          show 0 + _ ≤ _
          omega
        · rw [if_neg c0]
          rcases spLo_01 (S := S) (l := l) with c | c
          · rw [c, if_pos rfl, each3_sum]
            have := spLo_3 c
            omega
          · rw [c, if_neg (by omega), each_sum (by omega)]
            omega
      omega
theorem fill_rows {S : jS} {l m b : Nat} (h60 : S 38 l ≤ 60) (hm : ¬ m = l) (hb : b < 448) : spFill S l 40 (448 * m + b) = S 40 (448 * m + b) := by
  unfold spFill
  split
  · exact zero_row (by omega) hm hb
  · rw [fg_row h60 hm hb, fills_row hm hb _ (by omega)]
    exact zero_row (by omega) hm hb
theorem sum6 {a b : Nat → Nat → Nat} (n : Nat) (x : Nat → Nat) (h : ∀ u, 1 ≤ u → u ≤ 6 → x u = sumr (fun g => a g u) 0 n) : sumr (fun g => sumr (fun u => u * a g u) 1 6) 0 n = 1 * x 1 + 2 * x 2 + 3 * x 3 + 4 * x 4 + 5 * x 5 + 6 * x 6 := by
  rw [h 1 (by omega) (by omega), h 2 (by omega) (by omega), h 3 (by omega) (by omega), h 4 (by omega) (by omega), h 5 (by omega) (by omega), h 6 (by omega) (by omega)]
  clear h
  induction n with
  | zero => rfl
  | succ n ih =>
    simp only [sumr_s]
    rw [ih]
    show _ + (0 + 1 * a n 1 + 2 * a n 2 + 3 * a n 3 + 4 * a n 4 + 5 * a n 5 + 6 * a n 6) = _
    omega
theorem empty_u (S : jS) (l : Nat) : uS (spEmpty S l) = uS S + spSpaces S l ∧ spSpaces (spEmpty S l) l = 0 := by
  have e := sum6 (a := fun g u => S 40 (448 * l + 7 * g + u)) (b := fun _ _ => 0) (S 38 l + 1) (fun u => sumr (fun g => S 40 (448 * l + 7 * g + u)) 0 (S 38 l + 1)) (fun u _ _ => rfl)
  have e2 : spSpaces S l = sumr (fun g => sumr (fun u => u * S 40 (448 * l + 7 * g + u)) 1 6) 0 (S 38 l + 1) := rfl
  refine ⟨?_, ?_⟩
  · rw [e2, e, uS_x, uS_x]
    rw [spEmpty_32 S l 1 (by omega) (by omega), spEmpty_32 S l 2 (by omega) (by omega), spEmpty_32 S l 3 (by omega) (by omega), spEmpty_32 S l 4 (by omega) (by omega), spEmpty_32 S l 5 (by omega) (by omega), spEmpty_32 S l 6 (by omega) (by omega)]
    omega
  · unfold spSpaces
    rw [spEmpty_row S l (by omega)]
    refine sumr_0 _ (fun g hg => ?_)
    rw [qU_units, qU_x]
    rw [spEmpty_40z S l g 1 (by omega) (by omega) (by omega), spEmpty_40z S l g 2 (by omega) (by omega) (by omega), spEmpty_40z S l g 3 (by omega) (by omega) (by omega), spEmpty_40z S l g 4 (by omega) (by omega) (by omega), spEmpty_40z S l g 5 (by omega) (by omega) (by omega), spEmpty_40z S l g 6 (by omega) (by omega) (by omega)]
theorem empty_rows {S : jS} {l m b : Nat} (h60 : S 38 l ≤ 60) (hm : ¬ m = l) (hb : b < 448) : spEmpty S l 40 (448 * m + b) = S 40 (448 * m + b) := spEmpty_40n S l _ (by omega)
/-- what a call does to a line that it doesn't touch -/
def LQ (S S' : jS) (l l' : Nat) : Prop := spSorts S' l' = spSorts S l ∧ spSpaces S' l' = spSpaces S l
theorem LQ.rf {S : jS} {l : Nat} : LQ S S l l := ⟨rfl, rfl⟩
theorem LQ.trans {S S' S'' : jS} {l l' l'' : Nat} (h : LQ S S' l l') (h2 : LQ S' S'' l' l'') : LQ S S'' l l'' := ⟨h2.1.trans h.1, h2.2.trans h.2⟩
theorem LQ.rows {S S' : jS} {l : Nat} (h : ∀ a b, a = 25 ∨ a = 35 ∨ a = 36 ∨ a = 38 ∨ a = 40 → S' a b = S a b) : LQ S S' l l := ⟨sorts_eq (h 35 l (by omega)) (fun k _ => by rw [h 36 _ (by omega), h 25 _ (by omega)]), spaces_eq (h 38 l (by omega)) (fun g u _ _ _ => h 40 _ (by omega))⟩
theorem LQ_drop {S : jS} {l j : Nat} (h60 : S 35 (up l j) ≤ 60 ∧ S 38 (up l j) ≤ 60) (hj : j < S 10 14 - 1) : LQ S (spDrop S l) (up l j) j := by
  refine ⟨sorts_eq (spDrop_l S l (by omega) hj) (fun k hk => ?_), spaces_eq (spDrop_l S l (by omega) hj) (fun g u hg h1 h2 => ?_)⟩
  · rw [spDrop_c S l (by omega) hj (by omega), spDrop_row S l (by omega)]
  · rw [Nat.add_assoc, spDrop_u S l hj (by omega), Nat.add_assoc]
theorem uL_drop {S S' : jS} {l n : Nat} (hl : l < n) (h : ∀ j, j < n - 1 → spSpaces S' j = spSpaces S (up l j)) : uL S' (n - 1) + spSpaces S l = uL S n := by
  obtain ⟨m, rfl⟩ : ∃ m, n = m + 1 := ⟨n - 1, by omega⟩
  have e := sumr_del (f := fun j => spSpaces S j) (l := l) (n := m) hl
  have e2 : uL S' m = sumr (fun j => if j < l then spSpaces S j else spSpaces S (j + 1)) 0 m := sumr_eq _ (fun j hj => by
    rw [h j (by omega)]
    unfold up
    split <;> rfl)
  show uL S' m + _ = sumr (fun j => spSpaces S j) 0 (m + 1)
  rw [e2]
  exact e
/-- the two together: nothing of the spaces is lost, each line is as long as it may be -/
def UK (S : jS) (S' : jS) : Prop := (SK S → SK S') ∧ uT S' = uT S ∧ S' 10 13 = S 10 13
theorem UK.rf {S : jS} : UK S S := ⟨id, rfl, rfl⟩
theorem UK.trans {S S' S'' : jS} (h : UK S S') (h2 : UK S' S'') : UK S S'' := ⟨fun q => h2.1 (h.1 q), h2.2.1.trans h.2.1, h2.2.2.trans h.2.2⟩
theorem UK.rows {S S' : jS} (h : ∀ a b, a = 25 ∨ a = 32 ∨ a = 35 ∨ a = 36 ∨ a = 38 ∨ a = 40 ∨ (a = 10 ∧ (b = 13 ∨ b = 14)) → S' a b = S a b) : UK S S' := by
  have hq : ∀ l, LQ S S' l l := fun l => LQ.rows (fun a b hab => h a b (by omega))
  refine ⟨fun hs l hl => ?_, ?_, h 10 13 (by omega)⟩
  · rw [h 10 14 (by omega)] at hl
    exact (hs l hl).congr (h 10 13 (by omega)) (hq l).1 (hq l).2
  · unfold uT
    rw [h 10 14 (by omega), uS_eq (fun u _ _ => h 32 u (by omega))]
    congr 1
    exact sumr_eq _ (fun l _ => (hq l).2)
theorem UK_drop {S S1 : jS} {l : Nat} (hW : Wf S) (hl : l < S 10 14) (hr : ∀ a b, a = 25 ∨ a = 35 ∨ a = 36 ∨ a = 38 ∨ a = 40 ∨ a = 32 ∨ (a = 10 ∧ (b = 13 ∨ b = 14)) → S1 a b = S a b) : UK S (spDrop (spEmpty S1 l) l) := by
  have h38 : ∀ m, S1 38 m = S 38 m := fun m => hr 38 m (by omega)
  have e14 : spEmpty S1 l 10 14 = S 10 14 := by rw [spEmpty_row _ _ (by omega), hr 10 14 (by omega)]
  have h60 : ∀ m, m < S 10 14 → S 35 m ≤ 60 ∧ S 38 m ≤ 60 := fun m hm => by have := (hW.2.2.1 m hm).1; omega
  have hq1 : ∀ m, LQ S S1 m m := fun m => LQ.rows (fun a b hab => hr a b (by omega))
  have hq2 : ∀ m, ¬ m = l → m < S 10 14 → LQ S1 (spEmpty S1 l) m m := fun m hm hml => ⟨sorts_eq (spEmpty_row _ _ (by omega)) (fun k _ => by rw [spEmpty_row _ _ (by omega), spEmpty_row _ _ (by omega)]), spaces_eq (spEmpty_row _ _ (by omega)) (fun g u hg h1 h2 => by rw [Nat.add_assoc]; exact empty_rows (by rw [h38]; exact (h60 l hl).2) hm (by rw [h38] at hg; have := (h60 m hml).2; omega))⟩
  have hq3 : ∀ j, j < S 10 14 - 1 → LQ S (spDrop (spEmpty S1 l) l) (up l j) j := fun j hj => by
    have hu : up l j < S 10 14 := up_lt hj
    refine ((hq1 _).trans (hq2 _ up_ne hu)).trans (LQ_drop ?_ (by rw [e14]; exact hj))
    rw [spEmpty_row _ _ (by omega), spEmpty_row _ _ (by omega), hr 35 _ (by omega), hr 38 _ (by omega)]
    exact h60 _ hu
  have e13 : spDrop (spEmpty S1 l) l 10 13 = S 10 13 := by rw [spDrop_row _ _ (by omega), spEmpty_row _ _ (by omega), hr 10 13 (by omega)]
  have e14' : spDrop (spEmpty S1 l) l 10 14 = S 10 14 - 1 := by rw [spDrop_14, e14]
  refine ⟨fun hs j hj => ?_, ?_, e13⟩
  · rw [e14'] at hj
    exact (hs _ (up_lt hj)).congr e13 (hq3 j hj).1 (hq3 j hj).2
  · unfold uT
    rw [e14']
    have e1 := uL_drop (S := S) (S' := spDrop (spEmpty S1 l) l) hl (fun j hj => (hq3 j hj).2)
    have e2 : uS (spDrop (spEmpty S1 l) l) = uS (spEmpty S1 l) := uS_eq (fun u _ _ => spDrop_row _ _ (by omega))
    have e3 := (empty_u S1 l).1
    have e4 : uS S1 = uS S := uS_eq (fun u _ _ => hr 32 u (by omega))
    have e5 := (hq1 l).2
    omega
theorem UK_back {S : jS} (hW : Wf S) {l : Nat} (hl : l < S 10 14) : UK S (spBack S l) := UK_drop hW hl (fun a b hab => spHomes_row (by omega) _ _)
theorem UK_fall {S : jS} (hW : Wf S) {l : Nat} (hl : l < S 10 14) : UK S (spFall S l) := UK_drop hW hl (fun a b hab => spHeaps_row S (by omega) _)
/-- a line that is filled anew -/
theorem UK_refill {S S1 : jS} {l : Nat} (hW : Wf S) (hl : l < S 10 14) (hr : ∀ a b, a = 25 ∨ a = 35 ∨ a = 38 ∨ a = 40 ∨ a = 32 ∨ (a = 36 ∧ ¬ (64 * l ≤ b ∧ b < 64 * l + 64)) ∨ (a = 10 ∧ (b = 13 ∨ b = 14)) → S1 a b = S a b) : UK S (spFill (spEmpty S1 l) l) := by
  have h38 : ∀ m, S1 38 m = S 38 m := fun m => hr 38 m (by omega)
  have h60 : ∀ m, m < S 10 14 → S 35 m ≤ 60 ∧ S 38 m ≤ 60 := fun m hm => by have := (hW.2.2.1 m hm).1; omega
  have e38 : spEmpty S1 l 38 l ≤ 60 := by rw [spEmpty_row _ _ (by omega), h38]; exact (h60 l hl).2
  obtain ⟨f1, f2, f3⟩ := fill_u e38
  have ef : ∀ a b, ¬ a = 32 → ¬ a = 40 → spFill (spEmpty S1 l) l a b = S1 a b := fun a b h1 h2 => by rw [spFill_row _ _ h1 h2, spEmpty_row _ _ (by omega)]
  have hq : ∀ m, ¬ m = l → m < S 10 14 → LQ S (spFill (spEmpty S1 l) l) m m := fun m hm hml => by
    have := h60 m hml
    refine ⟨sorts_eq (by rw [ef 35 m (by omega) (by omega), hr 35 m (by omega)]) (fun k hk => ?_), spaces_eq (by rw [ef 38 m (by omega) (by omega), h38]) (fun g u hg h1 h2 => ?_)⟩
    · rw [ef 36 _ (by omega) (by omega), hr 36 _ (by omega), ef 25 _ (by omega) (by omega), hr 25 _ (by omega)]
    · rw [Nat.add_assoc, fill_rows e38 hm (by omega), empty_rows (by rw [h38]; exact (h60 l hl).2) hm (by omega), hr 40 _ (by omega)]
  have e13 : spFill (spEmpty S1 l) l 10 13 = S 10 13 := by rw [ef 10 13 (by omega) (by omega), hr 10 13 (by omega)]
  have e14 : spFill (spEmpty S1 l) l 10 14 = S 10 14 := by rw [ef 10 14 (by omega) (by omega), hr 10 14 (by omega)]
  refine ⟨fun hs j hj => ?_, ?_, e13⟩
  · rw [e14] at hj
    by_cases e : j = l
    · rw [e]; exact f3
    · exact (hs j hj).congr e13 (hq j e hj).1 (hq j e hj).2
  · unfold uT
    rw [e14]
    have e1 := sumr_upd (f := fun j => spSpaces S j) (g := fun j => spSpaces (spFill (spEmpty S1 l) l) j) hl (fun j hj hne => (hq j hne hj).2)
    have e3 := (empty_u S1 l).1
    have e4 : uS S1 = uS S := uS_eq (fun u _ _ => hr 32 u (by omega))
    have e5 : spSpaces S1 l = spSpaces S l := spaces_eq (h38 l) (fun g u _ _ _ => hr 40 _ (by omega))
    show _ + sumr (fun j => spSpaces (spFill (spEmpty S1 l) l) j) 0 (S 10 14) = _ + sumr (fun j => spSpaces S j) 0 (S 10 14)
    omega
theorem UK_mendF {S : jS} (hW : Wf S) {l k : Nat} (hl : l < S 10 14) (hk : k < S 35 l) : UK S (spMendF S l k) := by
  have h60 := (hW.2.2.1 l hl).1
  have h1 : UK S (spMend S l k) := by
    rw [spMend_eq]
    refine UK_refill hW hl (fun a b hab => ?_)
    by_cases e : a = 36
    · unfold spMid
      rw [spHome_row (by omega), sw_at, if_neg (by omega), sw_at, if_neg (by omega)]
      unfold spGot
      split
      · unfold spTake; rw [sw_at, if_neg (by omega)]
      · rw [spOffHeap_row _ _ (by omega)]
    · exact spMid_row S l k (by omega)
  unfold spMendF
  split
  · exact h1
  · exact h1.trans (UK.rows (fun a b hab => by rw [sw_at, if_neg (by omega)]))
theorem UK_home {S : jS} {s : Nat} : UK S (spHome S s) := UK.rows (fun a b hab => spHome_row (by omega))
theorem UK_SP : ∀ (d h : Nat) (S : jS), UK S (spSP d h S).2
  | 0, _, _ => UK.rf
  | d + 1, h, S => by
    unfold spSP
    split
    · exact (UK.rows (S' := spHome (spOffHeap S 0) (S 31 0)) (fun a b hab => by rw [spHome_row (by omega), spOffHeap_row S 0 (by omega)])).trans (UK_SP d _ _)
    · exact UK.rf
theorem UK_UL {f : Nat} : ∀ (d l h : Nat) {S : jS}, Wf S → UK S (spUL f d l h S).2
  | 0, _, _, _, _ => UK.rf
  | d + 1, l, h, S, hW => by
    unfold spUL
    split
    · rename_i h0
      split
      · exact (UK_back hW h0).trans (UK_UL d l _ (Wf_back hW h0))
      · exact UK_UL d (l + 1) h hW
    · exact UK.rf
theorem UK_LF {f : Nat} (hf : f < 4) : ∀ (d l h : Nat) {S : jS}, Wf S → (∀ j, j < l → ¬ S 42 j = f) → UK S (spLF f d l h S).2
  | 0, _, _, _, _, _ => UK.rf
  | d + 1, l, h, S, hW, hlow => by
    have hj := jNo_v
    have hu : UK S (sw S 42 l jNo) := UK.rows (fun a b hab => by rw [sw_at, if_neg (by omega)])
    unfold spLF
    split
    · rename_i h0
      split
      · rename_i h1
        have hlow2 : ∀ j, j < l + 1 → ¬ sw S 42 l jNo 42 j = f := fun j hj2 => by
          rw [sw_at]
          by_cases e : j = l
          · rw [if_pos ⟨rfl, e⟩]; omega
          · rw [if_neg (fun q => e q.2)]
            exact hlow j (by omega)
        have hWf := hW.free h0 h1 hlow
        split
        · exact hu.trans (UK_LF hf d (l + 1) h hWf hlow2)
        · have h14 : sw S 42 l jNo 10 14 = S 10 14 := by rw [sw_at, if_neg (by omega)]
          refine (hu.trans (UK_fall hWf (by rw [h14]; exact h0))).trans (UK_LF hf d l _ (Wf_fall hWf h0) (fun j hj2 => ?_))
          rw [spFall_42 (by rw [h14]; omega)]
          rw [show up l j = j by unfold up; rw [if_pos hj2]]
          exact hlow2 j (by omega)
      · rename_i h1
        refine UK_LF hf d (l + 1) h hW (fun j hj2 => ?_)
        by_cases e : j = l
        · rw [e]; exact h1
        · exact hlow j (by omega)
    · exact UK.rf
theorem UK_proof {S : jS} {f x v : Nat} : UK S (sw (spPrA f (S 10 14) (sw (sw S 10 0 0) 10 28 0)) 44 x v) := UK.rows (fun a b hab => by
    rw [sw_at, if_neg (by omega), spPrA_row _ (by omega), sw_at, if_neg (by omega), sw_at, if_neg (by omega)])
/-- a line that is set -/
theorem UK_set {S T : jS} {f fr k t : Nat} (hW : Wf S) (hS : WS S T (S 10 14) f fr k) (hk : k ≤ fr + 60) : UK S (spSetEnd T (S 10 14) f t) := by
  obtain ⟨h1, h2, h3, h4, h5, h5b, h6⟩ := hS
  have h60 : ∀ m, m < S 10 14 → S 35 m ≤ 60 ∧ S 38 m ≤ 60 := fun m hm => by have := (hW.2.2.1 m hm).1; omega
  have eC : ∀ a b, a = 25 ∨ a = 35 ∨ a = 36 ∨ a = 38 ∨ a = 40 ∨ a = 32 ∨ (a = 10 ∧ b = 13) → spEndC T (S 10 14) f t a b = T a b := fun a b hab => spEndC_row (by omega)
  have e38 : spEndC T (S 10 14) f t 38 (S 10 14) ≤ 60 := by rw [eC 38 _ (by omega)]; omega
  have eC14 : spEndC T (S 10 14) f t 10 14 = S 10 14 + 1 := by unfold spEndC; rw [sw_at, if_pos ⟨rfl, rfl⟩]
  obtain ⟨f1, f2, f3⟩ := fill_u e38
  have ef : ∀ a b, ¬ a = 32 → ¬ a = 40 → spSetEnd T (S 10 14) f t a b = spEndC T (S 10 14) f t a b := fun a b g1 g2 => spFill_row _ _ g1 g2
  have hq : ∀ m, m < S 10 14 → LQ S (spSetEnd T (S 10 14) f t) m m := fun m hml => by
    have := h60 m hml
    refine ⟨sorts_eq (by rw [ef 35 m (by omega) (by omega), eC 35 m (by omega), h3 35 m (by omega)]) (fun k hk => ?_), spaces_eq (by rw [ef 38 m (by omega) (by omega), eC 38 m (by omega), h3 38 m (by omega)]) (fun g u hg g1 g2 => ?_)⟩
    · rw [ef 36 _ (by omega) (by omega), eC 36 _ (by omega), h3 36 _ (by omega), ef 25 _ (by omega) (by omega), eC 25 _ (by omega), h3 25 _ (by omega)]
    · unfold spSetEnd
      rw [Nat.add_assoc, fill_rows e38 (by omega) (by omega), eC 40 _ (by omega), h3 40 _ (by omega)]
  have e13 : spSetEnd T (S 10 14) f t 10 13 = S 10 13 := by rw [ef 10 13 (by omega) (by omega), eC 10 13 (by omega), h3 10 13 (by omega)]
  have e14 : spSetEnd T (S 10 14) f t 10 14 = S 10 14 + 1 := by rw [ef 10 14 (by omega) (by omega), eC14]
  refine ⟨fun hs j hj => ?_, ?_, e13⟩
  · rw [e14] at hj
    by_cases e : j = S 10 14
    · rw [e]; exact f3
    · exact (hs j (by omega)).congr e13 (hq j (by omega)).1 (hq j (by omega)).2
  · unfold uT uL
    rw [e14, sumr_s]
    have e1 : sumr (fun j => spSpaces (spSetEnd T (S 10 14) f t) j) 0 (S 10 14) = sumr (fun j => spSpaces S j) 0 (S 10 14) := sumr_eq _ (fun j hj => (hq j hj).2)
    have e4 : uS (spEndC T (S 10 14) f t) = uS S := uS_eq (fun u _ _ => by rw [eC 32 u (by omega), h3 32 u (by omega)])
    have e5 : uS (spSetEnd T (S 10 14) f t) = uS (spFill (spEndC T (S 10 14) f t) (S 10 14)) := rfl
    have e6 : spSpaces (spSetEnd T (S 10 14) f t) (S 10 14) = spSpaces (spFill (spEndC T (S 10 14) f t) (S 10 14)) (S 10 14) := rfl
    omega
