/-! PURE: what a call of the law leaves -/
def LV (S S' : jS) : Prop := (Wf S' ∧ W0 S' ∧ PM S' ∧ SK S') ∧ uT S' = uT S ∧ S' 10 13 = S 10 13 ∧ S' 10 1 = S 10 1 ∧ S' 10 24 = S 10 24
theorem LV.rf {S : jS} (hW : Wf S) (h0 : W0 S) (hP : PM S) (hK : SK S) : LV S S := ⟨⟨hW, h0, hP, hK⟩, rfl, rfl, rfl, rfl⟩
theorem LV.trans {S S' S'' : jS} (h : LV S S') (h2 : LV S' S'') : LV S S'' := ⟨h2.1, h2.2.1.trans h.2.1, h2.2.2.1.trans h.2.2.1, h2.2.2.2.1.trans h.2.2.2.1, h2.2.2.2.2.trans h.2.2.2.2⟩
theorem LV.of {S S' : jS} (hW : Wf S') (h0 : W0 S') (hP : PM S') (hK : SK S) (hU : UK S S') (h1 : S' 10 1 = S 10 1) (h24 : S' 10 24 = S 10 24) : LV S S' := ⟨⟨hW, h0, hP, hU.1 hK⟩, hU.2.1, hU.2.2, h1, h24⟩
theorem lv_type {S : jS} (h : LV S S) {c : Nat} (hc : c < 65536) : LV S (sf_type S c).2.2 := by
  obtain ⟨⟨hW, h0, hP, hK⟩, -⟩ := h
  have hk := st_type hW h0 hc
  have er : ∀ a b, ¬ (a = 33 ∨ (a = 10 ∧ b = 12)) → (sf_type S c).2.2 a b = S a b := fun a b hab => by
    unfold sf_type
    split
    · split
      · rfl
      · show sw (sw S 33 (S 10 12) c) 10 12 (S 10 12 + 1) a b = _
        rw [sw_at, if_neg (by omega), sw_at, if_neg (by omega)]
    · rfl
  exact LV.of hk.2.1 hk.2.2 (hP.same (fun a b hab => er a b (by omega))) hK (UK.rows (fun a b hab => er a b (by omega))) (er 10 1 (by omega)) (er 10 24 (by omega))
theorem lv_foul {S : jS} (h : LV S S) (x y z : Int32) : LV S (sf_foul S x y z).2.2 := by
  obtain ⟨⟨hW, h0, hP, hK⟩, -⟩ := h
  have hk := st_foul hW h0 x y z
  by_cases c : (sf_foul S x y z).1 = 0
  · have hp : PM (sf_foul S x y z).2.2 ∧ (∀ a b, ¬ (a = 27 ∨ a = 28 ∨ a = 29 ∨ a = 30) → (sf_foul S x y z).2.2 a b = S a b) := by
      unfold sf_foul at c ⊢
      by_cases h1 : isBx x y ∧ isBx x z
      · rw [if_pos h1] at c ⊢
        by_cases h2 : jn y = jn z
        · rw [if_pos h2] at c; simp at c
        · rw [if_neg h2] at c ⊢
          by_cases h3 : S 30 (29 * jn x + jn y) = 0
          · rw [if_pos h3] at c; simp at c
          · rw [if_neg h3]
            obtain ⟨⟨a1, -⟩, a2, -⟩ := h1.1.at
            obtain ⟨-, a3, -⟩ := h1.2.at
            refine ⟨PM_foul hW hP (by omega) (by omega) (by omega) (by omega), fun a b hab => ?_⟩
            show spPut (spTake S _) _ _ a b = _
            rw [spPut_row _ _ _ (by omega)]
            unfold spTake
            rw [sw_at, if_neg (by omega)]
      · rw [if_neg h1] at c; simp at c
    exact LV.of hk.2.1 hk.2.2 hp.1 hK (UK.rows (fun a b hab => hp.2 a b (by omega))) (hp.2 10 1 (by omega)) (hp.2 10 24 (by omega))
  · rw [hk.1 c]; exact LV.rf hW h0 hP hK
theorem lv_putBack {S : jS} (h : LV S S) (x : Int32) : LV S (sf_putBack S x).2.2 := by
  obtain ⟨⟨hW, h0, hP, hK⟩, -⟩ := h
  have hn := hW.1.1.1
  have hk := st_putBack hW h0 x
  by_cases c : (sf_putBack S x).1 = 0
  · have e : isLn S x ∧ (sf_putBack S x).2.2 = spBack S (jn x) := by
      unfold sf_putBack at c ⊢
      by_cases h1 : isLn S x
      · rw [if_pos h1] at c ⊢
        by_cases h2 : S 42 (jn x) = jNo
        · rw [if_pos h2]; exact ⟨h1, rfl⟩
        · rw [if_neg h2] at c; simp at c
      · rw [if_neg h1] at c; simp at c
    have hl := (in_lt (n := S 10 14) (by omega) e.1).1
    have hk2 := hk.2
    rw [e.2] at hk2 ⊢
    exact LV.of hk2.1 hk2.2 (PM_back hW hP hl) hK (UK_back hW hl) (spBack_row (by omega)) (spBack_row (by omega))
  · rw [hk.1 c]; exact LV.rf hW h0 hP hK
theorem lv_sortPie {S : jS} (h : LV S S) (x : Int32) : LV S (sf_sortPie S x).2.2 := by
  obtain ⟨⟨hW, h0, hP, hK⟩, -⟩ := h
  have hk := st_sortPie hW h0 x
  by_cases c : (sf_sortPie S x).1 = 0
  · have e : (sf_sortPie S x).2.2 = (spSP (jn x) 0 (sw S 10 0 0)).2 := by
      unfold sf_sortPie at c ⊢
      by_cases h1 : inR x 1 300
      · rw [if_pos h1]
      · rw [if_neg h1] at c; simp at c
    have hk2 := hk.2
    rw [e] at hk2 ⊢
    have hs : UK S (sw S 10 0 0) := UK.rows (fun a b hab => by rw [sw_at, if_neg (by omega)])
    have hp : PM (sw S 10 0 0) := hP.same (fun a b hab => by rw [sw_at, if_neg (by omega)])
    have hr := (SP_cnt (jn x) 0 (sw S 10 0 0)).2.2
    exact LV.of hk2.1 hk2.2 (PM_SP _ _ hW.ref hp) hK (hs.trans (UK_SP _ _ _)) (by rw [hr 10 1 (by omega), sw_at, if_neg (by omega)]) (by rw [hr 10 24 (by omega), sw_at, if_neg (by omega)])
  · rw [hk.1 c]; exact LV.rf hW h0 hP hK
theorem lv_unlock {S : jS} (h : LV S S) (x : Int32) : LV S (sf_unlock S x).2.2 := by
  obtain ⟨⟨hW, h0, hP, hK⟩, -⟩ := h
  have hk := st_unlock hW h0 x
  by_cases c : (sf_unlock S x).1 = 0
  · have e : (sf_unlock S x).2.2 = sw (spUL (jn x) 13 0 0 (sw S 10 0 0)).2 43 (jn x) 2 := by
      unfold sf_unlock at c ⊢
      by_cases h1 : isFm S x
      · rw [if_pos h1] at c ⊢
        by_cases h2 : S 43 (jn x) = 2
        · rw [if_pos h2] at c; simp at c
        · rw [if_neg h2]
      · rw [if_neg h1] at c; simp at c
    have hk2 := hk.2
    rw [e] at hk2 ⊢
    have hs : UK S (sw S 10 0 0) := UK.rows (fun a b hab => by rw [sw_at, if_neg (by omega)])
    have hp : PM (sw S 10 0 0) := hP.same (fun a b hab => by rw [sw_at, if_neg (by omega)])
    have hr : ∀ a b, ¬ ((27 ≤ a ∧ a ≤ 42) ∨ (a = 10 ∧ b = 14)) → (spUL (jn x) 13 0 0 (sw S 10 0 0)).2 a b = sw S 10 0 0 a b := fun a b hab => UL_row hab 13 0 0 _
    exact LV.of hk2.1 hk2.2 ((PM_UL _ _ _ hW.ref hp).same (fun a b hab => by rw [sw_at, if_neg (by omega)])) hK ((hs.trans (UK_UL _ _ _ hW.ref)).trans (UK.rows (fun a b hab => by rw [sw_at, if_neg (by omega)]))) (by rw [sw_at, if_neg (by omega), hr 10 1 (by omega), sw_at, if_neg (by omega)]) (by rw [sw_at, if_neg (by omega), hr 10 24 (by omega), sw_at, if_neg (by omega)])
  · rw [hk.1 c]; exact LV.rf hW h0 hP hK
theorem lv_mend {S : jS} (h : LV S S) (x y : Int32) : LV S (sf_mend S x y).2.2 := by
  obtain ⟨⟨hW, h0, hP, hK⟩, -⟩ := h
  have hn := hW.1.1.1
  have hk := st_mend hW h0 x y
  by_cases c : (sf_mend S x y).1 = 0
  · have e : (isLn S x ∧ inR y 0 (nI (S 35 (jn x)) - nI 1)) ∧ (sf_mend S x y).2.2 = spMendF (sw S 10 0 0) (jn x) (jn y) := by
      unfold sf_mend at c ⊢
      by_cases h1 : isLn S x ∧ inR y 0 (nI (S 35 (jn x)) - nI 1)
      · rw [if_pos h1] at c ⊢
        refine ⟨h1, ?_⟩
        split
        · rename_i h2; rw [if_pos h2] at c; simp at c
        · rfl
      · rw [if_neg h1] at c; simp at c
    have hl := (in_lt (n := S 10 14) (by omega) e.1.1).1
    have h60 := (hW.2.2.1 _ hl).1
    have hkk := (in_lt (n := S 35 (jn x)) (by omega) e.1.2).1
    have hk2 := hk.2
    rw [e.2] at hk2 ⊢
    have hs : UK S (sw S 10 0 0) := UK.rows (fun a b hab => by rw [sw_at, if_neg (by omega)])
    have hp : PM (sw S 10 0 0) := hP.same (fun a b hab => by rw [sw_at, if_neg (by omega)])
    have er : ∀ b, b = 1 ∨ b = 24 → spMendF (sw S 10 0 0) (jn x) (jn y) 10 b = S 10 b := fun b hb => by
      unfold spMendF
      split
      · rw [spMend_row _ _ _ (by omega), sw_at, if_neg (by omega)]
      · rw [sw_at, if_neg (by omega), spMend_row _ _ _ (by omega), sw_at, if_neg (by omega)]
    exact LV.of hk2.1 hk2.2 (PM_mendF hW.ref hp hl hkk) hK (hs.trans (UK_mendF hW.ref hl hkk)) (er 1 (by omega)) (er 24 (by omega))
  · rw [hk.1 c]; exact LV.rf hW h0 hP hK
theorem lv_proof {S : jS} (h : LV S S) (x : Int32) : LV S (sf_proof S x).2.2 := by
  obtain ⟨⟨hW, h0, hP, hK⟩, -⟩ := h
  have hk := st_proof hW h0 x
  by_cases c : (sf_proof S x).1 = 0
  · have e : (sf_proof S x).2.2 = sw (spPrA (jn x) (S 10 14) (sw (sw S 10 0 0) 10 28 0)) 44 (jn x) (S 44 (jn x) + 1) := by
      unfold sf_proof at c ⊢
      by_cases h1 : isFm S x
      · rw [if_pos h1] at c ⊢
        by_cases h2 : S 43 (jn x) = 1
        · rw [if_pos h2]
        · rw [if_neg h2] at c; simp at c
      · rw [if_neg h1] at c; simp at c
    have hk2 := hk.2
    rw [e] at hk2 ⊢
    exact LV.of hk2.1 hk2.2 (PM_proof hW hP) hK UK_proof (by rw [sw_at, if_neg (by omega), spPrA_row _ (by omega), sw_at, if_neg (by omega), sw_at, if_neg (by omega)]) (by rw [sw_at, if_neg (by omega), spPrA_row _ (by omega), sw_at, if_neg (by omega), sw_at, if_neg (by omega)])
  · rw [hk.1 c]; exact LV.rf hW h0 hP hK
theorem lv_lift {S : jS} (h : LV S S) (x : Int32) : LV S (sf_lift S x).2.2 := by
  obtain ⟨⟨hW, h0, hP, hK⟩, -⟩ := h
  have hn := hW.1.1.1
  have hk := st_lift hW h0 x
  by_cases c : (sf_lift S x).1 = 0
  · have e : isFm S x ∧ ((sf_lift S x).2.2 = sw S 43 (jn x) 1 ∨ (sf_lift S x).2.2 = (spLF (jn x) 13 0 0 (sw (sw S 10 0 0) 43 (jn x) 2)).2) := by
      unfold sf_lift at c ⊢
      by_cases h1 : isFm S x
      · rw [if_pos h1] at c ⊢
        by_cases h2 : S 43 (jn x) = 2
        · rw [if_pos h2] at c; simp at c
        · rw [if_neg h2]
          refine ⟨h1, ?_⟩
          split
          · exact Or.inl rfl
          · exact Or.inr rfl
      · rw [if_neg h1] at c; simp at c
    have hf := (in_lt (n := S 10 24) (by omega) e.1).1
    rcases e.2 with q | q
    · have hk2 := hk.2
      rw [q] at hk2 ⊢
      exact LV.of hk2.1 hk2.2 (hP.same (fun a b hab => by rw [sw_at, if_neg (by omega)])) hK (UK.rows (fun a b hab => by rw [sw_at, if_neg (by omega)])) (by rw [sw_at, if_neg (by omega)]) (by rw [sw_at, if_neg (by omega)])
    · have hk2 := hk.2
      rw [q] at hk2 ⊢
      have hs : UK S (sw (sw S 10 0 0) 43 (jn x) 2) := UK.rows (fun a b hab => by rw [sw_at, if_neg (by omega), sw_at, if_neg (by omega)])
      have hp : PM (sw (sw S 10 0 0) 43 (jn x) 2) := hP.same (fun a b hab => by rw [sw_at, if_neg (by omega), sw_at, if_neg (by omega)])
      have hr := (LF_cnt (f := jn x) 13 0 0 (sw (sw S 10 0 0) 43 (jn x) 2)).2.2.2
      have hW2 : Wf (sw (sw S 10 0 0) 43 (jn x) 2) := (hW.ref (v := 0)).st hf (by omega)
      exact LV.of hk2.1 hk2.2 (PM_LF _ _ _ hp) hK (hs.trans (UK_LF (by omega) 13 0 0 hW2 (fun j hj => by omega))) (by rw [hr 10 1 (by omega), sw_at, if_neg (by omega), sw_at, if_neg (by omega)]) (by rw [hr 10 24 (by omega), sw_at, if_neg (by omega), sw_at, if_neg (by omega)])
  · rw [hk.1 c]; exact LV.rf hW h0 hP hK
theorem lvq_set {S : jS} (h : LV S S) {f b : Nat} (hf : f < 2) (hno : ¬ spNoSet S) (hr : (spSetR S f b).1 = 0) : LV S (spSetEnd (spSetR S f b).2 (S 10 14) f (spTo S 0 f)) ∧ spSetEnd (spSetR S f b).2 (S 10 14) f (spTo S 0 f) 10 14 = S 10 14 + 1 := by
  obtain ⟨⟨hW, h0, hP, hK⟩, -⟩ := h
  obtain ⟨hS, hen, hl⟩ := WS_end hW hf hno hr
  have er : ∀ a b', a = 10 ∧ (b' = 1 ∨ b' = 24) → spSetEnd (spSetR S f b).2 (S 10 14) f (spTo S 0 f) a b' = S a b' := fun a b' hab => by
    unfold spSetEnd
    rw [spFill_row _ _ (by omega) (by omega), spEndC_row (by omega)]
    exact hS.2.2.1 a b' (by omega)
  refine ⟨LV.of (Wf_setEnd hW hS hen rfl hl hf) (st_setEnd h0 hS) (PM_set hW hP hS) hK (UK_set hW hS hen) (er 10 1 (by omega)) (er 10 24 (by omega)), ?_⟩
  unfold spSetEnd
  rw [spFill_row _ _ (by omega) (by omega)]
  unfold spEndC
  rw [sw_at, if_pos ⟨rfl, rfl⟩]
