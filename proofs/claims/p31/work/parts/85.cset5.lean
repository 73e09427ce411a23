/-! THE CLASS: the sorts of a line taken -/
def IV (M0 M : jx_M) (S : jS) (p pl : Nat → Nat) (n f la : Nat) (M1 : jx_M) (T : jS) (k : Nat) : Prop :=
  (CX M0 M1 (vw n T) p ∧ WS S T n f (spBlanks S 0) k) ∧
  (qI M1 3 (p n) 5 = nI f ∧ qI M1 3 (p n) 6 = nI (T 35 n) ∧ qI M1 3 (p n) 7 = nI (T 38 n) ∧ qI M1 3 (p n) 8 = nI la ∧ qP M1 3 (p n) 9 = none) ∧
  (∀ j, j < T 35 n → qP M1 16 (p n) j = some (T 36 (64 * n + j)) ∧ qI M1 17 (p n) j = nI (T 37 (64 * n + j) - 29 * f) ∧ qP M1 6 (T 36 (64 * n + j)) 7 = some (p n)) ∧
  (∀ g, g < T 38 n → qI M1 18 (p n) g = nI (T 39 (64 * n + g))) ∧
  (((spBlanks S 0 < k ∧ S 33 (k - 1) = 32) → 0 < T 38 n ∧ T 39 (64 * n + (T 38 n - 1)) = T 35 n) ∧ (¬ (spBlanks S 0 < k ∧ S 33 (k - 1) = 32) → T 38 n = 0 ∨ T 39 (64 * n + (T 38 n - 1)) < T 35 n)) ∧
  ((∀ s, qP M1 6 s 6 = qP M 6 s 6) ∧ ∀ c, qI M1 0 0 c = qI M 0 0 c) ∧
  ∀ a b, a = 27 ∨ a = 28 ∨ a = 29 ∨ a = 30 → bkS (fun j => T 36 (64 * n + j)) pl (T 35 n) (vw n T) a b = S a b
theorem vw_N0 {n f b c : Nat} {S T : jS} {fr k : Nat} (hW : WS S T n f fr k) (hf : f < 2) (hc : spBox c < 29) (hp : ¬ spPickAt T (29 * f + spBox c) f b = jNo) : AG (spPut (sw (vw n (spStN n f b c T)) 28 (spTop T (spPickAt T (29 * f + spBox c) f b)) 0) (spPickAt T (29 * f + spBox c) f b) (spTop T (spPickAt T (29 * f + spBox c) f b))) (vw n T) := by
  obtain ⟨hk, h0⟩ := spPickAt_ok (S := T) (af := 29 * f + spBox c) (font := f) (turns := b) (by omega) hf hp
  have hmk := hW.mk
  have n30 : ∀ x, spStN n f b c T 30 x = if x = spPickAt T (29 * f + spBox c) f b then T 30 (spPickAt T (29 * f + spBox c) f b) - 1 else T 30 x := fun x => by
    unfold spStN
    rw [sw_at, if_neg (by omega), sw_at, if_neg (by omega), sw_at, if_neg (by omega), spPick_30 hp]
    split
    · rename_i e; rw [e]
    · rfl
  have n28 : ∀ x, ¬ x = spTop T (spPickAt T (29 * f + spBox c) f b) → spStN n f b c T 28 x = T 28 x := fun x hx => by
    unfold spStN
    rw [sw_at, if_neg (by omega), sw_at, if_neg (by omega), sw_at, if_neg (by omega), spPick_28 hp hx]
  have n29 : ∀ x, spStN n f b c T 29 x = T 29 x := fun x => by
    unfold spStN
    rw [sw_at, if_neg (by omega), sw_at, if_neg (by omega), sw_at, if_neg (by omega), spPick_row (by omega)]
  have n27 : ∀ x, ¬ x = spTop T (spPickAt T (29 * f + spBox c) f b) → vw n (spStN n f b c T) 27 x = vw n T 27 x := fun x hx => by
    have n35 : spStN n f b c T 35 n = T 35 n + 1 := by unfold spStN; rw [sw_at, if_pos ⟨rfl, rfl⟩]
    have n36s : spStN n f b c T 36 (64 * n + T 35 n) = spTop T (spPickAt T (29 * f + spBox c) f b) := by
      unfold spStN
      rw [sw_at, if_neg (by omega), sw_at, if_neg (by omega), sw_at, if_pos ⟨rfl, rfl⟩]
    unfold vw
    rw [n35]
    show sw (spMarks n (T 35 n) (spStN n f b c T)) 27 (spStN n f b c T 36 (64 * n + T 35 n)) 1 27 x = _
    rw [sw_at, n36s, if_neg (fun q => hx q.2)]
    refine spMarks_c (fun t => ?_) _ (fun j hj => ?_)
    · unfold spStN
      rw [sw_at, if_neg (by omega), sw_at, if_neg (by omega), sw_at, if_neg (by omega), spPick_row (by omega)]
    · unfold spStN
      rw [sw_at, if_neg (by omega), sw_at, if_neg (by omega), sw_at, if_neg (by omega), spPick_row (by omega)]
  have hv30 : ∀ j, vw n T 30 j = T 30 j := fun j => vw_row (by omega)
  have hv29 : ∀ j, vw n T 29 j = T 29 j := fun j => vw_row (by omega)
  have htg := hmk.2.1.1 (spPickAt T (29 * f + spBox c) f b) (T 30 (spPickAt T (29 * f + spBox c) f b) - 1) hk (by show _ < vw n T 30 _; rw [hv30]; omega)
  have htop : vw n T 29 (300 * spPickAt T (29 * f + spBox c) f b + (T 30 (spPickAt T (29 * f + spBox c) f b) - 1)) = spTop T (spPickAt T (29 * f + spBox c) f b) := hv29 _
  have htg2 : vw n T 27 (spTop T (spPickAt T (29 * f + spBox c) f b)) = 0 ∧ vw n T 28 (spTop T (spPickAt T (29 * f + spBox c) f b)) = 0 := by rw [← htop]; exact htg
  generalize hkk : spPickAt T (29 * f + spBox c) f b = kk at *
  generalize hss : spTop T kk = s at *
  have f30 : ∀ j, sw (vw n (spStN n f b c T)) 28 s 0 30 j = if j = kk then T 30 kk - 1 else T 30 j := fun j => by rw [sw_at, if_neg (by omega), vw_row (by omega), n30]
  intro a x hax
  rcases hax with e | e | e | e
  · subst e
    rw [spPut_27]
    by_cases c2 : x = s
    · rw [if_pos c2, c2]; exact htg2.1.symm
    · rw [if_neg c2, sw_at, if_neg (by omega)]; exact n27 x c2
  · subst e
    rw [spPut_28]
    by_cases c2 : x = s
    · rw [if_pos c2, c2]; exact htg2.2.symm
    · rw [if_neg c2, sw_at, if_neg (by omega), vw_row (by omega), vw_row (by omega)]; exact n28 x c2
  · subst e
    rw [spPut_29, f30, if_pos rfl]
    by_cases c2 : x = 300 * kk + (T 30 kk - 1)
    · rw [if_pos c2, c2]; exact htop.symm
    · rw [if_neg c2, sw_at, if_neg (by omega), vw_row (by omega), vw_row (by omega)]; exact n29 x
  · subst e
    rw [spPut_30, f30, f30, hv30]
    by_cases c2 : x = kk
    · rw [if_pos c2, if_pos rfl, c2]; omega
    · rw [if_neg c2, if_neg c2]
theorem IV.N {M0 M M1 : jx_M} {S T : jS} {p pl : Nat → Nat} {n f la k b c : Nat} (hWf : Wf S) (h : IV M0 M S p pl n f la M1 T k) (hn : S 10 14 = n) (hn12 : n < 12) (hk60 : k < spBlanks S 0 + 60) (hf : f < 2) (hc : spBox c < 29) (hpl : ∀ k i, k < 58 → i < S 30 k → pl (S 29 (300 * k + i)) = k) (h33 : ¬ S 33 k = 32) (hp : ¬ spPickAt T (29 * f + spBox c) f b = jNo) : IV M0 M S p pl n f la (mOne M1 (spPickAt T (29 * f + spBox c) f b) (spTop T (spPickAt T (29 * f + spBox c) f b)) (if 0 < T 30 (29 * f + spBox c) then 0 else 1) (p n) (T 35 n) (spBox c)) (spStN n f b c T) (k + 1) := by
  obtain ⟨⟨hM, hS⟩, ⟨a1, a2, a3, a4, a5⟩, hj, hg, ⟨hg1, hg2⟩, ⟨hl6, hl0⟩, hb⟩ := h
  have hS2 := WS_N (b := b) (c := c) hS hf hc hp hn12 hk60
  obtain ⟨t33, t12, tF, tP, tT, t35, t38, t46, t29, t98⟩ := hS.facts hWf (by omega)
  have hAG := vw_N0 (b := b) (c := c) hS hf hc hp
  obtain ⟨hk58, h0⟩ := spPickAt_ok (S := T) (af := 29 * f + spBox c) (font := f) (turns := b) (by omega) hf hp
  have hv : ∀ a x, ¬ a = 27 → vw n T a x = T a x := fun a x h => vw_row h
  have hpc : spPickAt (vw n T) (29 * f + spBox c) f b = spPickAt T (29 * f + spBox c) f b := spPickAt_c (fun a x h => hv a x (by omega))
  have htc : ∀ k, spTop (vw n T) k = spTop T k := fun k => by unfold spTop; rw [hv 30 k (by omega), hv 29 _ (by omega)]
  have hr3 := hS.2.2.1
  have hmk := hS.mk
  have h14 : T 10 14 = n := by rw [hr3 10 14 (by omega)]; exact hn
  have hxT : ∀ m, m < n → T 35 m ≤ 60 ∧ T 38 m ≤ 60 := fun m hm => by
    rw [hr3 35 m (by omega), hr3 38 m (by omega)]
    have := (hWf.2.2.1 m (by omega)).1
    omega
  have hpls : pl (spTop T (spPickAt T (29 * f + spBox c) f b)) = spPickAt T (29 * f + spBox c) f b := by
    have q := hS.2.2.2.2.1 _ hk58
    have q2 := hpl (spPickAt T (29 * f + spBox c) f b) (T 30 (spPickAt T (29 * f + spBox c) f b) - 1) hk58 (by omega)
    have q3 : spTop T (spPickAt T (29 * f + spBox c) f b) = S 29 (300 * spPickAt T (29 * f + spBox c) f b + (T 30 (spPickAt T (29 * f + spBox c) f b) - 1)) := hr3 29 _ (by omega)
    rw [q3]
    exact q2
  have hno : ∀ l' k', l' < vw n T 10 14 → k' < vw n T 35 l' → ¬ vw n T 36 (64 * l' + k') = spTop (vw n T) (spPickAt (vw n T) (29 * f + spBox c) f b) := fun l' k' hl' hk' e => by
    rw [hv 10 14 (by omega), h14] at hl'
    rw [hv 35 _ (by omega)] at hk'
    have hx2 := hxT l' hl'
    have e35 : T 35 l' = S 35 l' := hr3 35 l' (by omega)
    rw [hpc, htc, hv 36 _ (by omega), hr3 36 _ (by omega)] at e
    have q := lws_ge (S := S) (w := ind (S 36 (64 * l' + k'))) hl' (show k' < S 35 l' by omega)
    rw [ind_self] at q
    have q2 := hmk.2.2.noPile (s := S 36 (64 * l' + k')) (by show 0 < lws S _ n + lw T _ n _; omega) hk58 (i := T 30 (spPickAt T (29 * f + spBox c) f b) - 1) (by show _ < vw n T 30 _; rw [hv 30 _ (by omega)]; omega)
    apply q2
    show vw n T 29 _ = _
    rw [hv 29 _ (by omega)]
    exact e.symm
  have hM2 := CX_one (n := n) (m := T 35 n) (b := spBox c) (bt := b) (af := 29 * f + spBox c) (f := f) hM hmk (by rw [hv 10 14 (by omega), h14]; exact Nat.le_refl _) hn12 (by omega) hf (by rw [hpc]; exact hp) hno
  rw [hpc, htc, hv 30 _ (by omega)] at hM2
  have hsl := vw_N (n := n) (f := f) (b := b) (c := c) (T := T) hxT hp
  have n35 : spStN n f b c T 35 n = T 35 n + 1 := by unfold spStN; rw [sw_at, if_pos ⟨rfl, rfl⟩]
  have n36s : spStN n f b c T 36 (64 * n + T 35 n) = spTop T (spPickAt T (29 * f + spBox c) f b) := by
    unfold spStN
    rw [sw_at, if_neg (by omega), sw_at, if_neg (by omega), sw_at, if_pos ⟨rfl, rfl⟩]
  have n36 : ∀ j, j < T 35 n → spStN n f b c T 36 (64 * n + j) = T 36 (64 * n + j) := fun j hj => by
    unfold spStN
    rw [sw_at, if_neg (by omega), sw_at, if_neg (by omega), sw_at, if_neg (by omega), spPick_row (by omega)]
  have n37s : spStN n f b c T 37 (64 * n + T 35 n) = 29 * f + spBox c := by
    unfold spStN
    rw [sw_at, if_neg (by omega), sw_at, if_pos ⟨rfl, rfl⟩]
  have n37 : ∀ j, j < T 35 n → spStN n f b c T 37 (64 * n + j) = T 37 (64 * n + j) := fun j hj => by
    unfold spStN
    rw [sw_at, if_neg (by omega), sw_at, if_neg (by omega), sw_at, if_neg (by omega), spPick_row (by omega)]
  have nr : ∀ a x, a = 38 ∨ a = 39 → spStN n f b c T a x = T a x := fun a x hax => by
    unfold spStN
    rw [sw_at, if_neg (by omega), sw_at, if_neg (by omega), sw_at, if_neg (by omega), spPick_row (by omega)]
  generalize hTT : spStN n f b c T = T' at *
  generalize hkk : spPickAt T (29 * f + spBox c) f b = kk at *
  generalize hss : spTop T kk = s at *
  have hX14 : sw (spPick (vw n T) (29 * f + spBox c) f b) 27 s 1 10 14 = n := by rw [sw_at, if_neg (by omega), spPick_row (by omega), hv 10 14 (by omega), h14]
  have hX35 : ∀ m, sw (spPick (vw n T) (29 * f + spBox c) f b) 27 s 1 35 m = T 35 m := fun m => by rw [sw_at, if_neg (by omega), spPick_row (by omega), hv 35 m (by omega)]
  have hX38 : ∀ m, sw (spPick (vw n T) (29 * f + spBox c) f b) 27 s 1 38 m = T 38 m := fun m => by rw [sw_at, if_neg (by omega), spPick_row (by omega), hv 38 m (by omega)]
  refine ⟨⟨⟨hM2.1.sl hsl (by rw [hX14]; exact Nat.le_refl _) (fun m hm => by rw [hX14] at hm; rw [hX35, hX38]; exact hxT m hm), hM2.2⟩, hS2⟩, ⟨?_, ?_, ?_, ?_, ?_⟩, fun j hj2 => ?_, fun g hg3 => ?_, ⟨fun q => ?_, fun q => ?_⟩, ⟨fun t => ?_, fun c => ?_⟩, fun a x hax => ?_⟩
  · rw [mOne_I, if_neg (by omega), if_neg (by omega), if_neg (by omega), if_neg (by omega), if_neg (by omega)]; exact a1
  · rw [mOne_I, if_neg (by omega), if_pos ⟨rfl, rfl, rfl⟩, n35]
  · rw [mOne_I, if_neg (by omega), if_neg (by omega), if_neg (by omega), if_neg (by omega), if_neg (by omega), nr 38 n (by omega)]; exact a3
  · rw [mOne_I, if_neg (by omega), if_neg (by omega), if_neg (by omega), if_neg (by omega), if_neg (by omega)]; exact a4
  · rw [mOne_P, if_neg (by omega), if_neg (by omega), if_neg (by omega), if_neg (by omega)]; exact a5
  · rw [n35] at hj2
    by_cases e : j = T 35 n
    · subst e
      rw [n36s, n37s]
      refine ⟨?_, ?_, ?_⟩
      · rw [mOne_P, if_neg (by omega), if_pos ⟨rfl, rfl, rfl⟩]
      · rw [mOne_I, if_neg (by omega), if_neg (by omega), if_pos ⟨rfl, rfl, rfl⟩]
        congr 1
        omega
      · rw [mOne_P, if_pos ⟨rfl, rfl, rfl⟩]
    · obtain ⟨d1, d2, d3⟩ := hj j (by omega)
      rw [n36 j (by omega), n37 j (by omega)]
      refine ⟨?_, ?_, ?_⟩
      · rw [mOne_P, if_neg (by omega), if_neg (by omega), if_neg (by omega), if_neg (by omega)]; exact d1
      · rw [mOne_I, if_neg (by omega), if_neg (by omega), if_neg (by omega), if_neg (by omega), if_neg (by omega)]; exact d2
      · rw [mOne_P]
        by_cases e2 : T 36 (64 * n + j) = s
        · rw [if_pos ⟨rfl, e2, rfl⟩]
        · rw [if_neg (fun q => e2 q.2.1), if_neg (by omega), if_neg (by omega), if_neg (by omega)]; exact d3
  · rw [nr 38 n (by omega)] at hg3
    rw [mOne_I, if_neg (by omega), if_neg (by omega), if_neg (by omega), if_neg (by omega), if_neg (by omega), nr 39 _ (by omega)]
    exact hg g hg3
  · rw [show k + 1 - 1 = k by omega] at q
    exact absurd q.2 h33
  · rw [nr 38 n (by omega), nr 39 _ (by omega), n35]
    by_cases e : spBlanks S 0 < k ∧ S 33 (k - 1) = 32
    · have := hg1 e
      right
      omega
    · have := hg2 e
      omega
  · rw [mOne_P, if_neg (by omega), if_neg (by omega), if_neg (by omega), if_neg (by omega)]; exact hl6 t
  · rw [mOne_I, if_neg (by omega), if_neg (by omega), if_neg (by omega), if_neg (by omega), if_neg (by omega)]; exact hl0 c
  · rw [n35]
    show bkS (fun j => T' 36 (64 * n + j)) pl (T 35 n) (spPut (sw (vw n T') 28 (T' 36 (64 * n + T 35 n)) 0) (pl (T' 36 (64 * n + T 35 n))) (T' 36 (64 * n + T 35 n))) a x = _
    rw [n36s, hpls]
    rw [← hb a x hax]
    exact bkS_c (T 35 n) _ _ hAG (fun i hi => n36 i hi) a x hax
theorem IV.G {M0 M M1 : jx_M} {S T : jS} {p pl : Nat → Nat} {n f la k : Nat} (hWf : Wf S) (h : IV M0 M S p pl n f la M1 T k) (hn : S 10 14 = n) (hn12 : n < 12) (hk60 : k < spBlanks S 0 + 60) (h33 : S 33 k = 32) (hfr : spBlanks S 0 < k) : ((0 < T 38 n ∧ qI M1 18 (p n) (T 38 n - 1) = nI (T 35 n)) → IV M0 M S p pl n f la M1 (spStG n k T) (k + 1)) ∧ (¬ (0 < T 38 n ∧ qI M1 18 (p n) (T 38 n - 1) = nI (T 35 n)) → IV M0 M S p pl n f la (wI (wI M1 18 (p n) (T 38 n) (nI (T 35 n))) 3 (p n) 7 (nI (T 38 n + 1))) (spStG n k T) (k + 1)) := by
  obtain ⟨⟨hM, hS⟩, ⟨a1, a2, a3, a4, a5⟩, hj, hg, ⟨hg1, hg2⟩, ⟨hl6, hl0⟩, hb⟩ := h
  have hS2 := WS_G hS hn12 hk60
  obtain ⟨t33, t12, tF, tP, tT, t35, t38, t46, t29, t98⟩ := hS.facts hWf (by omega)
  have hsl := vw_G (n := n) (k := k) (T := T)
  have hr3 := hS.2.2.1
  have hv : ∀ a x, ¬ a = 27 → vw n T a x = T a x := fun a x h => vw_row h
  have h14 : T 10 14 = n := by rw [hr3 10 14 (by omega)]; exact hn
  have hxT : ∀ m, m < n → T 35 m ≤ 60 ∧ T 38 m ≤ 60 := fun m hm => by
    rw [hr3 35 m (by omega), hr3 38 m (by omega)]
    have := (hWf.2.2.1 m (by omega)).1
    omega
  have er : ∀ x y, ¬ ((x = 38 ∧ y = n) ∨ (x = 39 ∧ y = 64 * n + T 38 n)) → spStG n k T x y = T x y := fun x y hxy => by
    unfold spStG
    split
    · rw [sw_at, if_neg (by omega)]
    · rw [sw_at, if_neg (by omega), sw_at, if_neg (by omega)]
  have e39 : spStG n k T 39 (64 * n + T 38 n) = T 35 n := by
    unfold spStG
    split
    · rw [sw_at, if_pos ⟨rfl, rfl⟩]
    · rw [sw_at, if_neg (by omega), sw_at, if_pos ⟨rfl, rfl⟩]
  have e38 : spStG n k T 38 n = if T 33 (k - 1) = 32 then T 38 n else T 38 n + 1 := by
    unfold spStG
    split
    · rw [sw_at, if_neg (by omega)]
    · rw [sw_at, if_pos ⟨rfl, rfl⟩]
  rw [t33] at e38
  generalize hTT : spStG n k T = T' at *
  have e35 := er 35 n (by omega)
  have hbk : ∀ a x, a = 27 ∨ a = 28 ∨ a = 29 ∨ a = 30 → bkS (fun j => T' 36 (64 * n + j)) pl (T' 35 n) (vw n T') a x = S a x := fun a x hax => by
    rw [e35, ← hb a x hax]
    exact bkS_c (T 35 n) _ _ (fun a' x' hax' => hsl a' x' (by omega)) (fun i hi => er 36 _ (by omega)) a x hax
  have hCM : ∀ M2, CX M0 M2 (vw n T) p → CX M0 M2 (vw n T') p := fun M2 h2 => ⟨h2.1.sl hsl (by rw [hv 10 14 (by omega), h14]; exact Nat.le_refl _) (fun m hm => by rw [hv 10 14 (by omega), h14] at hm; rw [hv 35 m (by omega), hv 38 m (by omega)]; exact hxT m hm), h2.2⟩
  constructor
  · rintro ⟨c0, c1⟩
    have c33 : S 33 (k - 1) = 32 := by
      refine Classical.byContradiction (fun q => ?_)
      have q2 := hg2 (fun z => q z.2)
      rw [hg _ (by omega)] at c1
      have q3 := (nI_eq32 (by omega) (by omega)).mp c1
      omega
    rw [if_pos c33] at e38
    have hgg := hg1 ⟨hfr, c33⟩
    refine ⟨⟨hCM M1 hM, hS2⟩, ⟨a1, by rw [e35]; exact a2, by rw [e38]; exact a3, a4, a5⟩, fun j hj2 => ?_, fun g hg3 => ?_, ⟨fun q => ?_, fun q => ?_⟩, ⟨hl6, hl0⟩, hbk⟩
    · rw [e35] at hj2
      rw [er 36 _ (by omega), er 37 _ (by omega)]
      exact hj j hj2
    · rw [e38] at hg3
      rw [er 39 _ (by omega)]
      exact hg g hg3
    · rw [e38, e35, er 39 _ (by omega)]
      exact hgg
    · exact absurd ⟨by omega, by rw [show k + 1 - 1 = k by omega]; exact h33⟩ q
  · intro c1
    have c33 : ¬ S 33 (k - 1) = 32 := fun q => by
      have q2 := hg1 ⟨hfr, q⟩
      apply c1
      refine ⟨q2.1, ?_⟩
      rw [hg _ (by omega), q2.2]
    rw [if_neg c33] at e38
    have hM2 : CX M0 (wI (wI M1 18 (p n) (T 38 n) (nI (T 35 n))) 3 (p n) 7 (nI (T 38 n + 1))) (vw n T) p := ⟨hM.1.off (l := n) (by rw [hv 10 14 (by omega), h14]; exact Nat.le_refl _) hn12 (fun r i c hc => by rw [qI_wI, if_neg (by omega), qI_wI, if_neg (by omega)]) (fun r i c hc => rfl) rfl, (hM.2.wI (by omega)).wI (by omega)⟩
    refine ⟨⟨hCM _ hM2, hS2⟩, ⟨?_, ?_, ?_, ?_, a5⟩, fun j hj2 => ?_, fun g hg3 => ?_, ⟨fun q => ?_, fun q => ?_⟩, ⟨hl6, fun c => ?_⟩, hbk⟩
    · rw [qI_wI, if_neg (by omega), qI_wI, if_neg (by omega)]; exact a1
    · rw [qI_wI, if_neg (by omega), qI_wI, if_neg (by omega), e35]; exact a2
    · rw [qI_wI, if_pos ⟨rfl, rfl, rfl⟩, e38]
    · rw [qI_wI, if_neg (by omega), qI_wI, if_neg (by omega)]; exact a4
    · rw [e35] at hj2
      rw [er 36 _ (by omega), er 37 _ (by omega), qI_wI, if_neg (by omega), qI_wI, if_neg (by omega)]
      exact hj j hj2
    · rw [e38] at hg3
      rw [qI_wI, if_neg (by omega), qI_wI]
      by_cases e : g = T 38 n
      · rw [if_pos ⟨rfl, rfl, e⟩, e, e39]
      · rw [if_neg (fun q => e q.2.2), er 39 _ (by omega)]
        exact hg g (by omega)
    · rw [e38, e35, show T 38 n + 1 - 1 = T 38 n by omega]
      exact ⟨by omega, e39⟩
    · exact absurd ⟨by omega, by rw [show k + 1 - 1 = k by omega]; exact h33⟩ q
    · rw [qI_wI, if_neg (by omega), qI_wI, if_neg (by omega)]
      exact hl0 c

