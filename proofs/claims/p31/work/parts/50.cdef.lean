/-! THE CLASS: how its memory holds the numbers S -/
def sI (M M' : jx_M) (r : Nat) : Prop := ∀ i k, qI M' r i k = qI M r i k
def sP (M M' : jx_M) (r : Nat) : Prop := ∀ i k, qP M' r i k = qP M r i k
def topP (S : jS) (k i : Nat) : Option Nat := if i = 0 then none else some (S 29 (300 * k + (i - 1)))
def foP (x : Nat) : Option Nat := if x = jNo then none else some x
def un (j : Nat) : Nat := if j = 0 then 6 else 5 - j
def CB (M : jx_M) (S : jS) : Prop := (qP M 9 0 0 = some 0 ∧ qP M 9 0 1 = some 0 ∧ qP M 9 0 3 = some 0 ∧ qP M 9 0 4 = some 0 ∧ qP M 9 0 5 = some 0 ∧ qP M 9 0 7 = some 0 ∧ qP M 9 0 9 = some 0 ∧ qP M 9 0 11 = some 0 ∧ qP M 9 0 12 = some 0 ∧ qP M 9 0 13 = some 0) ∧ (qP M 7 0 0 = some 0 ∧ qP M 8 0 0 = some 0 ∧ qP M 2 0 0 = some 0 ∧ qP M 5 0 0 = some 0) ∧ (qI M 9 0 2 = nI (S 10 1) ∧ qI M 9 0 6 = nI (S 10 13) ∧ qI M 9 0 8 = nI (S 10 14) ∧ qI M 9 0 10 = nI (S 10 24)) ∧ qN M 6 = S 10 1
def CT (M : jx_M) (S : jS) : Prop := qI M 8 0 1 = nI (S 10 12) ∧ ∀ k, k < S 10 12 → qI M 21 0 k = nI (S 33 k)
def CS (M : jx_M) (S : jS) : Prop := ∀ j, j < 5 → qI M 24 0 j = nI (S 32 (un j))
def CF (M : jx_M) (S : jS) : Prop := ∀ f, f < 4 → qP M 14 0 f = some f ∧ qI M 1 f 0 = nI f ∧ qI M 1 f 1 = nI (S 43 f) ∧ qI M 1 f 2 = nI (S 44 f)
def CH (M : jx_M) (S : jS) : Prop := qI M 2 0 1 = nI (S 10 9) ∧ ∀ i, i < S 10 9 → qP M 22 0 i = some (S 31 i)
def CP (M : jx_M) (S : jS) : Prop := qI M 5 0 1 = nI (S 10 28) ∧ ∀ i, i < S 10 28 → qI M 23 0 i = nI (S 45 i)
def CO (M : jx_M) (S : jS) : Prop := ∀ s, s < S 10 1 → qP M 12 0 s = some s ∧ qI M 6 s 0 = nI s ∧ qI M 6 s 1 = nI (S 25 s / 29) ∧ qI M 6 s 2 = nI (S 25 s % 29) ∧ qI M 6 s 3 = nI (S 26 s) ∧ qI M 6 s 4 = nI (S 28 s) ∧ qI M 6 s 5 = nI (S 27 s)
def CK (M : jx_M) (S : jS) : Prop := ∀ k, k < 58 → (qP M 11 0 k = some k ∧ qI M 4 k 0 = nI (k % 29) ∧ qP M 4 k 1 = topP S k (S 30 k) ∧ qI M 4 k 2 = nI (S 30 k) ∧ qI M 4 k 3 = nI (spLead S k (S 10 1))) ∧ ∀ i, i < S 30 k → qP M 6 (S 29 (300 * k + i)) 8 = topP S k i ∧ qP M 6 (S 29 (300 * k + i)) 6 = some k
/-- the line object o has what the line l has -/
def CLn (M : jx_M) (S : jS) (o l : Nat) : Prop := (qI M 3 o 5 = nI (S 34 l) ∧ qI M 3 o 6 = nI (S 35 l) ∧ qI M 3 o 7 = nI (S 38 l) ∧ qI M 3 o 8 = nI (S 41 l) ∧ qP M 3 o 9 = foP (S 42 l)) ∧ (∀ k, k < S 35 l → qP M 16 o k = some (S 36 (64 * l + k)) ∧ qI M 17 o k = nI (S 37 (64 * l + k) - 29 * S 34 l) ∧ qP M 6 (S 36 (64 * l + k)) 7 = some o) ∧ ∀ g, g < S 38 l → qI M 18 o g = nI (S 39 (64 * l + g))
def CU (M : jx_M) (S : jS) (o l : Nat) : Prop := (∀ g, g < 61 → qI M 19 o g = nI (if g ≤ S 38 l then spUnits S l g else 0)) ∧ ∀ j, j < 5 → qI M 20 o j = nI (sumr (fun g => S 40 (448 * l + 7 * g + un j)) 0 (S 38 l + 1))
def CZ (M : jx_M) (o : Nat) : Prop := (∀ g, g < 61 → qI M 19 o g = 0) ∧ ∀ j, j < 5 → qI M 20 o j = 0
def CA (M : jx_M) : Prop := ∀ o, o < 12 → qP M 3 o 0 = some o ∧ qP M 3 o 1 = some o ∧ qP M 3 o 2 = some o ∧ qP M 3 o 3 = some o ∧ qP M 3 o 4 = some o
def CQ (M : jx_M) (p : Nat → Nat) : Prop := (∀ l, l < 12 → p l < 12 ∧ qP M 13 0 l = some (p l)) ∧ ∀ l l', l < 12 → l' < 12 → p l = p l' → l = l'
def CL (M : jx_M) (S : jS) (p : Nat → Nat) : Prop := CA M ∧ CQ M p ∧ (∀ l, l < S 10 14 → CLn M S (p l) l ∧ CU M S (p l) l) ∧ ∀ l, S 10 14 ≤ l → l < 12 → CZ M (p l)
def CM (M : jx_M) (S : jS) (p : Nat → Nat) : Prop := CB M S ∧ CT M S ∧ CS M S ∧ CF M S ∧ CH M S ∧ CP M S ∧ CO M S ∧ CK M S ∧ CL M S p
def KP (M0 M : jx_M) : Prop := (∀ r i k, (r = 10 ∨ 25 ≤ r) → qI M r i k = qI M0 r i k ∧ qP M r i k = qP M0 r i k) ∧ (∀ k, qJ M k = qJ M0 k) ∧ ∀ r, ¬ r = 6 → qN M r = qN M0 r
def CX (M0 M : jx_M) (S : jS) (p : Nat → Nat) : Prop := CM M S p ∧ KP M0 M
theorem KP.rf {M : jx_M} : KP M M := ⟨fun _ _ _ _ => ⟨rfl, rfl⟩, fun _ => rfl, fun _ _ => rfl⟩
theorem KP.wI {M0 M : jx_M} {r i k : Nat} {v : Int32} (h : KP M0 M) (hr : ¬ (r = 10 ∨ 25 ≤ r)) : KP M0 (wI M r i k v) := by
  refine ⟨fun a b c ha => ⟨?_, (h.1 a b c ha).2⟩, h.2.1, h.2.2⟩
  rw [qI_wI, if_neg (fun q => hr (by rw [← q.1]; exact ha))]
  exact (h.1 a b c ha).1
theorem KP.wP {M0 M : jx_M} {r i k : Nat} {v : Option Nat} (h : KP M0 M) (hr : ¬ (r = 10 ∨ 25 ≤ r)) : KP M0 (wP M r i k v) := by
  refine ⟨fun a b c ha => ⟨(h.1 a b c ha).1, ?_⟩, h.2.1, h.2.2⟩
  rw [qP_wP, if_neg (fun q => hr (by rw [← q.1]; exact ha))]
  exact (h.1 a b c ha).2
theorem KP.wNew {M0 M : jx_M} (h : KP M0 M) : KP M0 (wNew M 6) := by
  refine ⟨fun a b c ha => ⟨?_, ?_⟩, fun k => ?_, fun r hr => ?_⟩
  · rw [qI_wNew, if_neg (by omega)]
    exact (h.1 a b c ha).1
  · rw [qP_wNew, if_neg (by omega)]
    exact (h.1 a b c ha).2
  · rw [qJ_wNew, if_neg (by omega)]
    exact h.2.1 k
  · rw [qN_wNew, if_neg hr]
    exact h.2.2 r hr
section
variable {M M' : jx_M} {S S' : jS} {p : Nat → Nat}
theorem CB.fr (h : CB M S) (h9 : ∀ k, qP M' 9 0 k = qP M 9 0 k) (h9i : ∀ k, k = 2 ∨ k = 6 ∨ k = 8 ∨ k = 10 → qI M' 9 0 k = qI M 9 0 k) (h7 : sP M M' 7) (h8 : sP M M' 8) (h2 : sP M M' 2) (h5 : sP M M' 5) (hn : qN M' 6 = qN M 6) (e1 : S' 10 1 = S 10 1) (e13 : S' 10 13 = S 10 13) (e14 : S' 10 14 = S 10 14) (e24 : S' 10 24 = S 10 24) : CB M' S' := by
  unfold CB at h ⊢
  simp only [h9, h9i 2 (by omega), h9i 6 (by omega), h9i 8 (by omega), h9i 10 (by omega), h7 0 0, h8 0 0, h2 0 0, h5 0 0, hn, e1, e13, e14, e24]
  exact h
theorem CT.fr (h : CT M S) (h8 : sI M M' 8) (h21 : sI M M' 21) (e : S' 10 12 = S 10 12) (e33 : ∀ k, k < S 10 12 → S' 33 k = S 33 k) : CT M' S' := ⟨by rw [h8, e]; exact h.1, fun k hk => by rw [e] at hk; rw [h21, e33 k hk]; exact h.2 k hk⟩
theorem CS.fr (h : CS M S) (h24 : sI M M' 24) (e : ∀ k, S' 32 k = S 32 k) : CS M' S' := fun j hj => by rw [h24, e]; exact h j hj
theorem CF.fr (h : CF M S) (h14 : sP M M' 14) (h1 : sI M M' 1) (e43 : ∀ k, k < 4 → S' 43 k = S 43 k) (e44 : ∀ k, k < 4 → S' 44 k = S 44 k) : CF M' S' := fun f hf => by rw [h14, h1, h1, h1, e43 f hf, e44 f hf]; exact h f hf
theorem CH.fr (h : CH M S) (h2 : sI M M' 2) (h22 : sP M M' 22) (e : S' 10 9 = S 10 9) (e31 : ∀ k, k < S 10 9 → S' 31 k = S 31 k) : CH M' S' := ⟨by rw [h2, e]; exact h.1, fun k hk => by rw [e] at hk; rw [h22, e31 k hk]; exact h.2 k hk⟩
theorem CP.fr (h : CP M S) (h5 : sI M M' 5) (h23 : sI M M' 23) (e : S' 10 28 = S 10 28) (e45 : ∀ k, k < S 10 28 → S' 45 k = S 45 k) : CP M' S' := ⟨by rw [h5, e]; exact h.1, fun k hk => by rw [e] at hk; rw [h23, e45 k hk]; exact h.2 k hk⟩
theorem CO.fr (h : CO M S) (h12 : sP M M' 12) (h6 : sI M M' 6) (e1 : S' 10 1 = S 10 1) (e : ∀ a s, a = 25 ∨ a = 26 ∨ a = 27 ∨ a = 28 → s < S 10 1 → S' a s = S a s) : CO M' S' := fun s hs => by
  rw [e1] at hs
  rw [h12, h6, h6, h6, h6, h6, h6, e 25 s (by omega) hs, e 26 s (by omega) hs, e 27 s (by omega) hs, e 28 s (by omega) hs]
  exact h s hs
theorem spLead_fr {k n : Nat} (e25 : ∀ s, s < n → S' 25 s = S 25 s) (e27 : ∀ s, s < n → (S' 27 s = 3 ↔ S 27 s = 3)) : spLead S' k n = spLead S k n := by
  unfold spLead
  refine sumr_eq n (fun s hs => ?_)
  unfold jb
  rw [e25 s hs]
  by_cases c : S 25 s = k ∧ ¬ S 27 s = 3
  · rw [if_pos c, if_pos ⟨c.1, fun q => c.2 ((e27 s hs).mp q)⟩]
  · rw [if_neg c, if_neg (fun q => c ⟨q.1, fun z => q.2 ((e27 s hs).mpr z)⟩)]
theorem topP_fr {k i : Nat} (h : ∀ j, j < i → S' 29 (300 * k + j) = S 29 (300 * k + j)) : topP S' k i = topP S k i := by
  unfold topP
  split
  · rfl
  · rw [h (i - 1) (by omega)]
theorem CK.fr (h : CK M S) (h11 : sP M M' 11) (h4 : sI M M' 4) (h4p : sP M M' 4) (h6 : ∀ k i, k < 58 → i < S 30 k → qP M' 6 (S 29 (300 * k + i)) 8 = qP M 6 (S 29 (300 * k + i)) 8 ∧ qP M' 6 (S 29 (300 * k + i)) 6 = qP M 6 (S 29 (300 * k + i)) 6) (e1 : S' 10 1 = S 10 1) (e30 : ∀ k, k < 58 → S' 30 k = S 30 k) (e29 : ∀ k i, k < 58 → i < S 30 k → S' 29 (300 * k + i) = S 29 (300 * k + i)) (e25 : ∀ s, s < S 10 1 → S' 25 s = S 25 s) (e27 : ∀ s, s < S 10 1 → (S' 27 s = 3 ↔ S 27 s = 3)) : CK M' S' := fun k hk => by
  obtain ⟨⟨a1, a2, a3, a4, a5⟩, b⟩ := h k hk
  have et : ∀ i, i ≤ S 30 k → topP S' k i = topP S k i := fun i hi => topP_fr (fun j hj => e29 k j hk (by omega))
  refine ⟨⟨by rw [h11]; exact a1, by rw [h4]; exact a2, by rw [h4p, e30 k hk, et _ (Nat.le_refl _)]; exact a3, by rw [h4, e30 k hk]; exact a4, by rw [h4, e1, spLead_fr e25 e27]; exact a5⟩, fun i hi => ?_⟩
  rw [e30 k hk] at hi
  rw [e29 k i hk hi, et i (Nat.le_of_lt hi), (h6 k i hk hi).1, (h6 k i hk hi).2]
  exact b i hi
theorem CLn.fr {o l l' : Nat} (h : CLn M S o l) (h3 : ∀ k, qI M' 3 o k = qI M 3 o k) (h3p : qP M' 3 o 9 = qP M 3 o 9) (h16 : ∀ k, qP M' 16 o k = qP M 16 o k) (h17 : ∀ k, qI M' 17 o k = qI M 17 o k) (h18 : ∀ k, qI M' 18 o k = qI M 18 o k) (h6 : ∀ k, k < S 35 l → qP M' 6 (S 36 (64 * l + k)) 7 = qP M 6 (S 36 (64 * l + k)) 7) (e : ∀ a, a = 34 ∨ a = 35 ∨ a = 38 ∨ a = 41 ∨ a = 42 → S' a l' = S a l) (e36 : ∀ k, k < S 35 l → S' 36 (64 * l' + k) = S 36 (64 * l + k) ∧ S' 37 (64 * l' + k) = S 37 (64 * l + k)) (e39 : ∀ g, g < S 38 l → S' 39 (64 * l' + g) = S 39 (64 * l + g)) : CLn M' S' o l' := by
  obtain ⟨⟨a1, a2, a3, a4, a5⟩, b, c⟩ := h
  unfold CLn
  rw [e 34 (by omega), e 35 (by omega), e 38 (by omega), e 41 (by omega), e 42 (by omega), h3, h3, h3, h3, h3p]
  refine ⟨⟨a1, a2, a3, a4, a5⟩, fun k hk => ?_, fun g hg => ?_⟩
  · rw [(e36 k hk).1, (e36 k hk).2, h16, h17, h6 k hk]
    exact b k hk
  · rw [e39 g hg, h18]
    exact c g hg
theorem spUnits_fr {l l' g : Nat} (e : ∀ u, u < 7 → S' 40 (448 * l' + 7 * g + u) = S 40 (448 * l + 7 * g + u)) : spUnits S' l' g = spUnits S l g := sumr_congr 6 (fun u h1 h2 => by rw [e u (by omega)])
theorem un_lt {j : Nat} : un j < 7 := by unfold un; split <;> omega
theorem un_ge {j : Nat} (h : j < 5) : 1 ≤ un j := by unfold un; split <;> omega
theorem CU.fr {o l l' : Nat} (h : CU M S o l) (h19 : ∀ k, qI M' 19 o k = qI M 19 o k) (h20 : ∀ k, qI M' 20 o k = qI M 20 o k) (e38 : S' 38 l' = S 38 l) (e : ∀ g u, g ≤ S 38 l → u < 7 → S' 40 (448 * l' + 7 * g + u) = S 40 (448 * l + 7 * g + u)) : CU M' S' o l' := by
  refine ⟨fun g hg => ?_, fun j hj => ?_⟩
  · rw [h19, e38, h.1 g hg]
    by_cases c : g ≤ S 38 l
    · rw [if_pos c, if_pos c, spUnits_fr (fun u hu => e g u c hu)]
    · rw [if_neg c, if_neg c]
  · rw [h20, e38, h.2 j hj]
    congr 1
    exact sumr_eq _ (fun g hg => (e g (un j) (by omega) un_lt).symm)
theorem CZ.fr {o : Nat} (h : CZ M o) (h19 : ∀ k, qI M' 19 o k = qI M 19 o k) (h20 : ∀ k, qI M' 20 o k = qI M 20 o k) : CZ M' o := ⟨fun g hg => by rw [h19]; exact h.1 g hg, fun j hj => by rw [h20]; exact h.2 j hj⟩
theorem CA.fr (h : CA M) (h3 : ∀ o k, k < 5 → qP M' 3 o k = qP M 3 o k) : CA M' := fun o ho => by
  rw [h3 o 0 (by omega), h3 o 1 (by omega), h3 o 2 (by omega), h3 o 3 (by omega), h3 o 4 (by omega)]
  exact h o ho
theorem CQ.fr (h : CQ M p) (h13 : sP M M' 13) : CQ M' p := ⟨fun l hl => by rw [h13]; exact h.1 l hl, h.2⟩
/-- lines, when rows of lines and their memory stay -/
theorem CL.fr (h : CL M S p) (h3 : sI M M' 3) (h3p : sP M M' 3) (h13 : sP M M' 13) (h16 : sP M M' 16) (h17 : sI M M' 17) (h18 : sI M M' 18) (h19 : sI M M' 19) (h20 : sI M M' 20) (h6 : ∀ s, qP M' 6 s 7 = qP M 6 s 7) (e14 : S' 10 14 = S 10 14) (e : ∀ a b, a = 34 ∨ a = 35 ∨ a = 36 ∨ a = 37 ∨ a = 38 ∨ a = 39 ∨ a = 40 ∨ a = 41 ∨ a = 42 → S' a b = S a b) : CL M' S' p := by
  obtain ⟨h1, h2, h4, h5⟩ := h
  refine ⟨h1.fr (fun o k _ => h3p o k), h2.fr h13, fun l hl => ?_, fun l hl hl2 => ?_⟩
  · rw [e14] at hl
    exact ⟨(h4 l hl).1.fr (fun k => h3 _ k) (h3p _ 9) (fun k => h16 _ k) (fun k => h17 _ k) (fun k => h18 _ k) (fun k _ => h6 _) (fun a ha => e a l (by omega)) (fun k _ => ⟨e 36 _ (by omega), e 37 _ (by omega)⟩) (fun g _ => e 39 _ (by omega)), (h4 l hl).2.fr (fun k => h19 _ k) (fun k => h20 _ k) (e 38 l (by omega)) (fun g u _ _ => e 40 _ (by omega))⟩
  · rw [e14] at hl
    exact (h5 l hl hl2).fr (fun k => h19 _ k) (fun k => h20 _ k)
end
