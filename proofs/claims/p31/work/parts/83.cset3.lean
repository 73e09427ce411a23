/-! THE CLASS: what it looks at; a sort on a line that is being set -/
theorem CM.sl {M : jx_M} {S S' : jS} {p : Nat → Nat} {l : Nat} (h : CM M S p) (hs : SL S S' l) (hl : S 10 14 ≤ l) (hx : ∀ m, m < S 10 14 → S 35 m ≤ 60 ∧ S 38 m ≤ 60) : CM M S' p := by
  obtain ⟨hB, hT, hS, hF, hH, hPr, hO, hK, hA, hQ, hL, hZ⟩ := h
  have r : ∀ r, sI M M r := fun _ _ _ => rfl
  have q : ∀ r, sP M M r := fun _ _ _ => rfl
  have e14 := hs 10 14 (by omega)
  refine ⟨hB.fr (fun _ => rfl) (fun _ _ => rfl) (q _) (q _) (q _) (q _) rfl (hs 10 1 (by omega)) (hs 10 13 (by omega)) e14 (hs 10 24 (by omega)), hT.fr (r _) (r _) (hs 10 12 (by omega)) (fun c _ => hs 33 c (by omega)), hS.fr (r _) (fun c => hs 32 c (by omega)), hF.fr (q _) (r _) (fun c _ => hs 43 c (by omega)) (fun c _ => hs 44 c (by omega)), hH.fr (r _) (q _) (hs 10 9 (by omega)) (fun c _ => hs 31 c (by omega)), hPr.fr (r _) (r _) (hs 10 28 (by omega)) (fun c _ => hs 45 c (by omega)), hO.fr (q _) (r _) (hs 10 1 (by omega)) (fun a t ha _ => hs a t (by omega)), hK.fr (q _) (r _) (q _) (fun _ _ _ _ => ⟨rfl, rfl⟩) (hs 10 1 (by omega)) (fun c _ => hs 30 c (by omega)) (fun k i _ _ => hs 29 _ (by omega)) (fun t _ => hs 25 t (by omega)) (fun t _ => by rw [hs 27 t (by omega)]), hA, hQ, fun m hm => ?_, fun m hm hm2 => hZ m (by rw [← e14]; exact hm) hm2⟩
  rw [e14] at hm
  have hxm := hx m hm
  exact ⟨(hL m hm).1.fr (fun _ => rfl) rfl (fun _ => rfl) (fun _ => rfl) (fun _ => rfl) (fun _ _ => rfl) (fun a ha => hs a m (by omega)) (fun k hk => ⟨hs 36 _ (by omega), hs 37 _ (by omega)⟩) (fun g hg => hs 39 _ (by omega)), (hL m hm).2.fr (fun _ => rfl) (fun _ => rfl) (hs 38 m (by omega)) (fun g u _ _ => hs 40 _ (by omega))⟩
theorem CM.off {M M' : jx_M} {S : jS} {p : Nat → Nat} {l : Nat} (h : CM M S p) (hl : S 10 14 ≤ l) (hl12 : l < 12) (hI : ∀ r i c, ¬ ((r = 3 ∨ r = 17 ∨ r = 18) ∧ i = p l) → qI M' r i c = qI M r i c) (hP : ∀ r i c, ¬ (((r = 3 ∧ c = 9) ∨ r = 16) ∧ i = p l) → qP M' r i c = qP M r i c) (hN : qN M' 6 = qN M 6) : CM M' S p := by
  obtain ⟨hB, hT, hS, hF, hH, hPr, hO, hK, hA, hQ, hL, hZ⟩ := h
  have iI : ∀ r, ¬ (r = 3 ∨ r = 17 ∨ r = 18) → sI M M' r := fun r hr i c => hI r i c (by omega)
  have iP : ∀ r, ¬ (r = 3 ∨ r = 16) → sP M M' r := fun r hr i c => hP r i c (by omega)
  have hne : ∀ m, m < S 10 14 → ¬ p m = p l := fun m hm e => by have := hQ.2 m l (by omega) hl12 e; omega
  refine ⟨hB.fr (fun c => iP 9 (by omega) 0 c) (fun c _ => iI 9 (by omega) 0 c) (iP 7 (by omega)) (iP 8 (by omega)) (iP 2 (by omega)) (iP 5 (by omega)) hN rfl rfl rfl rfl, hT.fr (iI 8 (by omega)) (iI 21 (by omega)) rfl (fun _ _ => rfl), hS.fr (iI 24 (by omega)) (fun _ => rfl), hF.fr (iP 14 (by omega)) (iI 1 (by omega)) (fun _ _ => rfl) (fun _ _ => rfl), hH.fr (iI 2 (by omega)) (iP 22 (by omega)) rfl (fun _ _ => rfl), hPr.fr (iI 5 (by omega)) (iI 23 (by omega)) rfl (fun _ _ => rfl), hO.fr (iP 12 (by omega)) (iI 6 (by omega)) rfl (fun _ _ _ _ => rfl), hK.fr (iP 11 (by omega)) (iI 4 (by omega)) (iP 4 (by omega)) (fun k i _ _ => ⟨iP 6 (by omega) _ _, iP 6 (by omega) _ _⟩) rfl (fun _ _ => rfl) (fun _ _ _ _ => rfl) (fun _ _ => rfl) (fun _ _ => Iff.rfl), hA.fr (fun o k hk => hP 3 o k (by omega)), hQ.fr (iP 13 (by omega)), fun m hm => ?_, fun m hm hm2 => (hZ m hm hm2).fr (fun c => iI 19 (by omega) _ c) (fun c => iI 20 (by omega) _ c)⟩
  have hm2 := hne m hm
  exact ⟨(hL m hm).1.fr (fun c => hI 3 _ c (fun q => hm2 q.2)) (hP 3 _ 9 (fun q => hm2 q.2)) (fun c => hP 16 _ c (fun q => hm2 q.2)) (fun c => hI 17 _ c (fun q => hm2 q.2)) (fun c => hI 18 _ c (fun q => hm2 q.2)) (fun k hk => iP 6 (by omega) _ _) (fun a _ => rfl) (fun _ _ => ⟨rfl, rfl⟩) (fun _ _ => rfl), (hL m hm).2.fr (fun c => iI 19 (by omega) _ c) (fun c => iI 20 (by omega) _ c) rfl (fun _ _ _ _ => rfl)⟩
theorem CX_one {M0 M : jx_M} {V : jS} {p : Nat → Nat} {R : (Nat → Nat) → Nat} {af f bt n m b : Nat} (hM : CX M0 M V p) (hW : WC V R) (hn : V 10 14 ≤ n) (hn12 : n < 12) (haf : af < 58) (hf : f < 2) (hp : ¬ spPickAt V af f bt = jNo) (hno : ∀ l' k', l' < V 10 14 → k' < V 35 l' → ¬ V 36 (64 * l' + k') = spTop V (spPickAt V af f bt)) : CX M0 (mOne M (spPickAt V af f bt) (spTop V (spPickAt V af f bt)) (if 0 < V 30 af then 0 else 1) (p n) m b) (sw (spPick V af f bt) 27 (spTop V (spPickAt V af f bt)) 1) p := by
  obtain ⟨hk, h0⟩ := spPickAt_ok haf hf hp
  have h1 := CX_take hM hW hk h0
  have hlive := hW.2.2.pile hk (i := V 30 (spPickAt V af f bt) - 1) (by omega)
  have hs28 := (hW.2.1.1 (spPickAt V af f bt) (V 30 (spPickAt V af f bt) - 1) hk (by omega)).2
  have e2 := spPick_eq hp
  generalize hkk : spPickAt V af f bt = k at *
  have e1 : spTop V k = V 29 (300 * k + (V 30 k - 1)) := rfl
  rw [← e1] at hlive hs28
  generalize spTop V k = s at *
  have h2 : CX M0 (wI (mTake M k s) 6 s 4 (nI (if 0 < V 30 af then 0 else 1))) (spPick V af f bt) p := by
    have q := CM_sort h1.1 (s := s) (c := 4) (a := 28) (v := if 0 < V 30 af then 0 else 1) (Or.inr (Or.inl ⟨rfl, rfl⟩))
    have e : sw (spTake V k) 28 s (if 0 < V 30 af then 0 else 1) = spPick V af f bt := by
      rw [e2]
      by_cases c : 0 < V 30 af
      · rw [if_pos c, if_pos c]
        refine sw_id ?_
        show sw V 30 k (V 30 k - 1) 28 s = 0
        rw [sw_at, if_neg (by omega)]
        exact hs28
      · rw [if_neg c, if_neg c]
    rw [e] at q
    exact ⟨q, h1.2.wI (by omega)⟩
  have hr : ∀ x y, ¬ (x = 28 ∨ x = 30) → spPick V af f bt x y = V x y := fun x y hxy => spPick_row hxy
  have h3 : CM (wI (wI (wP (wI (mTake M k s) 6 s 4 (nI (if 0 < V 30 af then 0 else 1))) 16 (p n) m (some s)) 17 (p n) m (nI b)) 3 (p n) 6 (nI (m + 1))) (spPick V af f bt) p := h2.1.off (l := n) (by rw [hr 10 14 (by omega)]; exact hn) hn12 (fun r i c hc => by rw [qI_wI, if_neg (by omega), qI_wI, if_neg (by omega), qI_wP]) (fun r i c hc => by rw [qP_wI, qP_wI, qP_wP, if_neg (by omega)]) rfl
  have h4 := CM_sort h3 (s := s) (c := 5) (a := 27) (v := 1) (Or.inr (Or.inr ⟨rfl, rfl, ⟨fun q => by omega, fun q => by rw [hr 27 s (by omega)] at q; exact absurd q hlive.2⟩⟩))
  have h5 := CM_lnk h4 (s := s) (c := 7) (v := some (p n)) (Or.inl ⟨rfl, fun l' k' hl' hk' => by
    rw [sw_at, if_neg (by omega), hr 10 14 (by omega)] at hl'
    rw [sw_at, if_neg (by omega), hr 35 _ (by omega)] at hk'
    rw [sw_at, if_neg (by omega), hr 36 _ (by omega)]
    exact hno l' k' hl' hk'⟩)
  exact ⟨h5, mOne_KP hM.2⟩
theorem spMarks_c {l t : Nat} {T T' : jS} (h27 : ∀ t, T' 27 t = T 27 t) : ∀ m, (∀ j, j < m → T' 36 (64 * l + j) = T 36 (64 * l + j)) → spMarks l m T' 27 t = spMarks l m T 27 t
  | 0, _ => h27 t
  | m + 1, h => by
    unfold spMarks
    rw [sw_at, sw_at, h m (by omega)]
    by_cases e : t = T 36 (64 * l + m)
    · rw [if_pos ⟨rfl, e⟩, if_pos ⟨rfl, e⟩]
    · rw [if_neg (fun q => e q.2), if_neg (fun q => e q.2)]
      exact spMarks_c h27 m (fun j hj => h j (by omega))
theorem spBest_c {V T : jS} {af f : Nat} (h : ∀ a x, a = 25 ∨ a = 29 ∨ a = 30 → V a x = T a x) : ∀ n, spBest V af f n = spBest T af f n
  | 0 => rfl
  | n + 1 => by
    unfold spBest spTop
    rw [spBest_c h n, h 30 _ (by omega), h 30 _ (by omega), h 25 _ (by omega), h 29 _ (by omega)]
theorem spPickAt_c {V T : jS} {af f b : Nat} (h : ∀ a x, a = 25 ∨ a = 29 ∨ a = 30 → V a x = T a x) : spPickAt V af f b = spPickAt T af f b := by
  unfold spPickAt
  rw [h 30 af (by omega), spBest_c h]
theorem WS.mk {S T : jS} {l f fr k : Nat} (h : WS S T l f fr k) : WC (spMarks l (T 35 l) T) (fun w => lws S w l + lw T w l (T 35 l)) := by
  have hfl : ∀ j, j < T 35 l → 0 < lws S (ind (T 36 (64 * l + j))) l + lw T (ind (T 36 (64 * l + j))) l (T 35 l) := fun j hj => by
    have q := sumr_ge (f := fun k => ind (T 36 (64 * l + j)) (T 36 (64 * l + k))) hj
    simp only [ind_self] at q
    have q2 : lw T (ind (T 36 (64 * l + j))) l (T 35 l) = sumr (fun k => ind (T 36 (64 * l + j)) (T 36 (64 * l + k))) 0 (T 35 l) := rfl
    omega
  have hm : ∀ n, n ≤ T 35 l → WC (spMarks l n T) (fun w => lws S w l + lw T w l (T 35 l)) := by
    intro n
    induction n with
    | zero => intro _; exact h.1
    | succ n ih =>
      intro hn
      unfold spMarks
      exact (ih (by omega)).mark (hfl n (by omega)) (by omega)
  exact hm _ (Nat.le_refl _)
/-- the view of the class on a line that is being set: what was taken stands in the line -/
def vw (n : Nat) (T : jS) : jS := spMarks n (T 35 n) T
theorem vw_row {n : Nat} {T : jS} {a b : Nat} (h : ¬ a = 27) : vw n T a b = T a b := spMarks_row h _
theorem vw_N {n f b c : Nat} {T : jS} (hl : ∀ m, m < n → T 35 m ≤ 60 ∧ T 38 m ≤ 60) (hp : ¬ spPickAt T (29 * f + spBox c) f b = jNo) : SL (sw (spPick (vw n T) (29 * f + spBox c) f b) 27 (spTop T (spPickAt T (29 * f + spBox c) f b)) 1) (vw n (spStN n f b c T)) n := by
  have hv : ∀ a x, ¬ a = 27 → vw n T a x = T a x := fun a x h => vw_row h
  have hpc : spPickAt (vw n T) (29 * f + spBox c) f b = spPickAt T (29 * f + spBox c) f b := spPickAt_c (fun a x h => hv a x (by omega))
  have htc : ∀ k, spTop (vw n T) k = spTop T k := fun k => by unfold spTop; rw [hv 30 k (by omega), hv 29 _ (by omega)]
  have n35 : spStN n f b c T 35 n = T 35 n + 1 := by unfold spStN; rw [sw_at, if_pos ⟨rfl, rfl⟩]
  have hpp : ∀ a x, spPick (vw n T) (29 * f + spBox c) f b a x = if a = 27 then vw n T 27 x else spPick T (29 * f + spBox c) f b a x := by
    intro a x
    by_cases e27 : a = 27
    · rw [if_pos e27, e27, spPick_row (by omega)]
    · rw [if_neg e27, spPick_eq (by rw [hpc]; exact hp), spPick_eq hp, hpc, htc, hv 30 _ (by omega)]
      have et : ∀ k, spTake (vw n T) k a x = spTake T k a x := fun k => by
        show sw (vw n T) 30 k (vw n T 30 k - 1) a x = sw T 30 k (T 30 k - 1) a x
        rw [sw_at, sw_at, hv 30 k (by omega), hv a x e27]
      split
      · exact et _
      · rw [sw_at, sw_at, et]
  have n36 : ∀ j, j < T 35 n → spStN n f b c T 36 (64 * n + j) = T 36 (64 * n + j) := fun j hj => by
    unfold spStN
    rw [sw_at, if_neg (by omega), sw_at, if_neg (by omega), sw_at, if_neg (by omega), spPick_row (by omega)]
  have n36s : spStN n f b c T 36 (64 * n + T 35 n) = spTop T (spPickAt T (29 * f + spBox c) f b) := by
    unfold spStN
    rw [sw_at, if_neg (by omega), sw_at, if_neg (by omega), sw_at, if_pos ⟨rfl, rfl⟩]
  have n27 : ∀ t, spStN n f b c T 27 t = T 27 t := fun t => by
    unfold spStN
    rw [sw_at, if_neg (by omega), sw_at, if_neg (by omega), sw_at, if_neg (by omega), spPick_row (by omega)]
  intro a x hax
  rw [sw_at, hpp]
  by_cases e27 : a = 27
  · subst e27
    rw [if_pos rfl]
    unfold vw
    rw [n35]
    show sw (spMarks n (T 35 n) (spStN n f b c T)) 27 (spStN n f b c T 36 (64 * n + T 35 n)) 1 27 x = _
    rw [sw_at, n36s]
    by_cases e : x = spTop T (spPickAt T (29 * f + spBox c) f b)
    · rw [if_pos ⟨rfl, e⟩, if_pos ⟨rfl, e⟩]
    · rw [if_neg (fun q => e q.2), if_neg (fun q => e q.2)]
      exact spMarks_c n27 _ n36
  · rw [if_neg (fun q => e27 q.1), if_neg e27, vw_row e27]
    unfold spStN
    rw [sw_at, if_neg (by omega), sw_at, if_neg (by omega), sw_at, if_neg (by omega)]
theorem vw_G {n k : Nat} {T : jS} : SL (vw n T) (vw n (spStG n k T)) n := by
  have er : ∀ x y, ¬ ((x = 38 ∧ y = n) ∨ (x = 39 ∧ y = 64 * n + T 38 n)) → spStG n k T x y = T x y := fun x y hxy => by
    unfold spStG
    split
    · rw [sw_at, if_neg (by omega)]
    · rw [sw_at, if_neg (by omega), sw_at, if_neg (by omega)]
  intro a x hax
  by_cases e27 : a = 27
  · subst e27
    unfold vw
    rw [er 35 n (by omega)]
    exact spMarks_c (fun t => er 27 t (by omega)) _ (fun j hj => er 36 _ (by omega))
  · rw [vw_row e27, vw_row e27]
    exact er a x (by omega)

