/-! THE CLASS: a gap filled -/
theorem mSp_I (M : jx_M) (o g j r i c : Nat) : qI (mSp M o g j) r i c = if r = 20 ∧ i = o ∧ c = j then qI M 20 o j + nI 1 else if r = 19 ∧ i = o ∧ c = g then qI M 19 o g + nI (un j) else qI M r i c := by
  simp only [mSp, qI_wI]
def mSp1 (M : jx_M) (o g j : Nat) : jx_M := mSp (wI M 24 0 j (qI M 24 0 j + nI 4294967295)) o g j
theorem mSp1_I (M : jx_M) (o g j r i c : Nat) : qI (mSp1 M o g j) r i c = if r = 20 ∧ i = o ∧ c = j then qI M 20 o j + nI 1 else if r = 19 ∧ i = o ∧ c = g then qI M 19 o g + nI (un j) else if r = 24 ∧ i = 0 ∧ c = j then qI M 24 0 j + nI 4294967295 else qI M r i c := by
  unfold mSp1
  rw [mSp_I]
  simp only [qI_wI, Nat.reduceEqDiff, false_and, if_false]
theorem mSp1_KP {M0 M : jx_M} {o g j : Nat} (h : KP M0 M) : KP M0 (mSp1 M o g j) := ((h.wI (by omega)).wI (by omega)).wI (by omega)
theorem un_inj {i j : Nat} (hi : i < 5) (hj : j < 5) (h : un i = un j) : i = j := by unfold un at h; split at h <;> split at h <;> omega
theorem nI_m1 {x : Nat} (h : 1 ≤ x) : nI x + nI 4294967295 = nI (x - 1) := by
  rw [nI_add, show x + 4294967295 = (x - 1) + 4294967296 by omega, nI_wrap]
theorem spF1_32 (S : jS) (c u t b : Nat) : spF1 S c u t 32 b = if b = u then S 32 u - t else S 32 b := by
  show sw (sw S 32 u (S 32 u - t)) 40 c (S 40 c + t) 32 b = _
  rw [sw_at, if_neg (by omega), sw_at]
  by_cases e : b = u
  · rw [if_pos ⟨rfl, e⟩, if_pos e]
  · rw [if_neg (fun q => e q.2), if_neg e]
theorem spF1_40 (S : jS) (c u t b : Nat) : spF1 S c u t 40 b = if b = c then S 40 c + t else S 40 b := by
  show sw (sw S 32 u (S 32 u - t)) 40 c (S 40 c + t) 40 b = _
  rw [sw_at]
  by_cases e : b = c
  · rw [if_pos ⟨rfl, e⟩, if_pos e]
  · rw [if_neg (fun q => e q.2), if_neg e, sw_at, if_neg (by omega)]
theorem spF1_row (S : jS) (c u t : Nat) {a b : Nat} (h : ¬ (a = 32 ∨ a = 40)) : spF1 S c u t a b = S a b := by
  show sw (sw S 32 u (S 32 u - t)) 40 c (S 40 c + t) a b = _
  rw [sw_at, if_neg (by omega), sw_at, if_neg (by omega)]
theorem CM_sp1 {M : jx_M} {S : jS} {p : Nat → Nat} {l g j : Nat} (h : CM M S p) (hl : l < S 10 14) (hl12 : S 10 14 ≤ 12) (h60 : S 38 l ≤ 60) (hg : g ≤ S 38 l) (hj : j < 5) (h1 : 1 ≤ S 32 (un j)) (hx : ∀ l', l' < S 10 14 → S 38 l' ≤ 60) : CM (mSp1 M (p l) g j) (spF1 S (448 * l + 7 * g + un j) (un j) 1) p := by
  obtain ⟨hB, hT, hS, hF, hH, hP, hO, hK, hA, hQ, hL, hZ⟩ := h
  have iI : ∀ r, ¬ (r = 19 ∨ r = 20 ∨ r = 24) → sI M (mSp1 M (p l) g j) r := fun r hr i c => by rw [mSp1_I, if_neg (by omega), if_neg (by omega), if_neg (by omega)]
  have iP : ∀ r, sP M (mSp1 M (p l) g j) r := fun r i c => rfl
  have er : ∀ a b, ¬ (a = 32 ∨ a = 40) → spF1 S (448 * l + 7 * g + un j) (un j) 1 a b = S a b := fun a b hab => spF1_row _ _ _ _ hab
  have u1 := un_ge hj
  have u2 := un_lt (j := j)
  refine ⟨hB.fr (fun c => rfl) (fun c _ => iI 9 (by omega) 0 c) (iP 7) (iP 8) (iP 2) (iP 5) rfl (er 10 1 (by omega)) (er 10 13 (by omega)) (er 10 14 (by omega)) (er 10 24 (by omega)), hT.fr (iI 8 (by omega)) (iI 21 (by omega)) (er 10 12 (by omega)) (fun c _ => er 33 c (by omega)), fun i hi => ?_, hF.fr (iP 14) (iI 1 (by omega)) (fun c _ => er 43 c (by omega)) (fun c _ => er 44 c (by omega)), hH.fr (iI 2 (by omega)) (iP 22) (er 10 9 (by omega)) (fun c _ => er 31 c (by omega)), hP.fr (iI 5 (by omega)) (iI 23 (by omega)) (er 10 28 (by omega)) (fun c _ => er 45 c (by omega)), hO.fr (iP 12) (iI 6 (by omega)) (er 10 1 (by omega)) (fun a t ha _ => er a t (by omega)), hK.fr (iP 11) (iI 4 (by omega)) (iP 4) (fun k i _ _ => ⟨rfl, rfl⟩) (er 10 1 (by omega)) (fun c _ => er 30 c (by omega)) (fun k i _ _ => er 29 _ (by omega)) (fun t _ => er 25 t (by omega)) (fun t _ => by rw [er 27 t (by omega)]), hA.fr (fun o k _ => rfl), hQ.fr (iP 13), fun m hm => ?_, fun m hm hm2 => ?_⟩
  · rw [mSp1_I, if_neg (by omega), if_neg (by omega), spF1_32]
    by_cases e : i = j
    · rw [if_pos ⟨rfl, rfl, e⟩, if_pos (by rw [e]), hS j hj, nI_m1 h1]
    · rw [if_neg (fun q => e q.2.2), if_neg (fun q => e (un_inj hi hj q))]
      exact hS i hi
  · rw [er 10 14 (by omega)] at hm
    refine ⟨(hL m hm).1.fr (fun k => iI 3 (by omega) _ k) rfl (fun k => rfl) (fun k => iI 17 (by omega) _ k) (fun k => iI 18 (by omega) _ k) (fun _ _ => rfl) (fun a ha => er a m (by omega)) (fun k _ => ⟨er 36 _ (by omega), er 37 _ (by omega)⟩) (fun g _ => er 39 _ (by omega)), ?_⟩
    have hm60 := hx m hm
    by_cases e : m = l
    · subst e
      obtain ⟨c1, c2⟩ := (hL m hm).2
      refine ⟨fun g' hg' => ?_, fun i hi => ?_⟩
      · rw [mSp1_I, if_neg (by omega), er 38 m (by omega)]
        by_cases e2 : g' = g
        · subst e2
          rw [if_pos ⟨rfl, rfl, rfl⟩, c1 g' hg', if_pos hg, if_pos hg, nI_add, spUnits_6, spUnits_6]
          congr 1
          simp only [spF1_40]
          have hju : un j = 1 ∨ un j = 2 ∨ un j = 3 ∨ un j = 4 ∨ un j = 5 ∨ un j = 6 := by omega
          rcases hju with q | q | q | q | q | q <;> rw [q] <;> simp <;> omega
        · rw [if_neg (fun q => e2 q.2.2), if_neg (by omega), c1 g' hg']
          by_cases c : g' ≤ S 38 m
          · rw [if_pos c, if_pos c, spUnits_fr (S := S) (S' := spF1 S (448 * m + 7 * g + un j) (un j) 1) (l := m) (l' := m) (fun u hu => by rw [spF1_40, if_neg (by omega)])]
          · rw [if_neg c, if_neg c]
      · rw [mSp1_I, er 38 m (by omega)]
        by_cases e2 : i = j
        · subst e2
          rw [if_pos ⟨rfl, rfl, rfl⟩, c2 i hi, nI_add]
          congr 1
          have z := sumr_upd (f := fun g => S 40 (448 * m + 7 * g + un i)) (g := fun g' => spF1 S (448 * m + 7 * g + un i) (un i) 1 40 (448 * m + 7 * g' + un i)) (n := S 38 m + 1) (k := g) (by omega) (fun g' _ hne => by rw [spF1_40, if_neg (by omega)])
          simp only [spF1_40, if_true] at z
          simp only [spF1_40]
          omega
        · rw [if_neg (fun q => e2 q.2.2), if_neg (by omega), if_neg (by omega), c2 i hi]
          congr 1
          have u3 := un_lt (j := i)
          have u4 : ¬ un i = un j := fun q => e2 (un_inj hi hj q)
          exact sumr_eq _ (fun g' _ => by rw [spF1_40, if_neg (by omega)])
    · have hne : ¬ p m = p l := fun q => e (hQ.2 m l (by omega) (by omega) q)
      refine (hL m hm).2.fr (fun k => ?_) (fun k => ?_) (er 38 m (by omega)) (fun g' u hg' hu => ?_)
      · rw [mSp1_I, if_neg (by omega), if_neg (fun q => hne q.2.1), if_neg (by omega)]
      · rw [mSp1_I, if_neg (fun q => hne q.2.1), if_neg (by omega), if_neg (by omega)]
      · rw [spF1_40, if_neg]
        rcases Nat.lt_trichotomy m l with q | q | q <;> omega
  · rw [er 10 14 (by omega)] at hm
    have hne : ¬ p m = p l := fun q => by have := hQ.2 m l hm2 (by omega) q; omega
    refine (hZ m hm hm2).fr (fun k => ?_) (fun k => ?_)
    · rw [mSp1_I, if_neg (by omega), if_neg (fun q => hne q.2.1), if_neg (by omega)]
    · rw [mSp1_I, if_neg (fun q => hne q.2.1), if_neg (by omega), if_neg (by omega)]
theorem spF1_ss (S : jS) (c u t : Nat) : spF1 S c u (t + 1) = spF1 (spF1 S c u 1) c u t := by
  refine sw_congr (fun a b => ?_)
  by_cases e32 : a = 32
  · subst e32
    rw [spF1_32, spF1_32, spF1_32, spF1_32, if_pos rfl]
    by_cases e : b = u
    · rw [if_pos e, if_pos e]; omega
    · rw [if_neg e, if_neg e, if_neg e]
  · by_cases e40 : a = 40
    · subst e40
      rw [spF1_40, spF1_40, spF1_40, spF1_40, if_pos rfl]
      by_cases e : b = c
      · rw [if_pos e, if_pos e]; omega
      · rw [if_neg e, if_neg e, if_neg e]
    · rw [spF1_row _ _ _ _ (by omega), spF1_row _ _ _ _ (by omega), spF1_row _ _ _ _ (by omega)]
theorem jP_m1 {x : Nat} (h : 1 ≤ jP x) : jP (x - 1) = jP x - 1 := by
  have h1 := jP_le x
  rw [jP_eq] at h h1 ⊢
  rw [jP_eq]
  split at h
  · rename_i c
    rw [if_pos (by omega), if_pos c]
    omega
  · omega
theorem spTaken_s {S : jS} {c u left : Nat} (hu : u = 1 ∨ u = 2 ∨ u = 3 ∨ u = 4 ∨ u = 6) (hl : u ≤ left) (hp : 1 ≤ jP (S 32 u)) : spTaken S u left = spTaken (spF1 S c u 1) u (left - u) + 1 := by
  unfold spTaken
  rw [spF1_32, if_pos rfl, jP_m1 hp]
  have e : (left - u) / u = left / u - 1 := by rcases hu with q | q | q | q | q <;> subst q <;> omega
  have e2 : 1 ≤ left / u := by rcases hu with q | q | q | q | q <;> subst q <;> omega
  rw [e]
  omega
theorem spTaken_z {S : jS} {u left : Nat} (hu : u = 1 ∨ u = 2 ∨ u = 3 ∨ u = 4 ∨ u = 6) (h : left < u ∨ jP (S 32 u) = 0) : spTaken S u left = 0 := by
  unfold spTaken
  have e : left < u → left / u = 0 := fun q => Nat.div_eq_of_lt q
  rcases h with q | q
  · rw [e q]; exact Nat.zero_min _
  · rw [q]; exact Nat.min_zero _
theorem spFG_u {c u n : Nat} {S : jS} (h : 1 ≤ u) : spFG c u n S = spFG c (u - 1) (n - spTaken S u n * u) (spF1 S (c + u) u (spTaken S u n)) := by
  obtain ⟨v, rfl⟩ : ∃ v, u = v + 1 := ⟨u - 1, by omega⟩
  rfl
theorem spFG_un {c j n : Nat} {S : jS} (hj : j < 5) (h5 : S 32 5 = 0) : spFG c (un j - 1) n S = spFG c (un (j + 1)) n S := by
  by_cases e : j = 0
  · subst e
    show spFG c 5 n S = spFG c 4 n S
    rw [spFG_u (by omega), spTaken_0 S 5 n h5, Nat.zero_mul, Nat.sub_zero, sw_congr (spF1_0 S (c + 5) 5)]
  · have : un j - 1 = un (j + 1) := by unfold un; rw [if_neg e, if_neg (by omega)]; omega
    rw [this]
set_option maxRecDepth 20000 in
set_option maxHeartbeats 20000000 in
theorem cc_fillGap (G : jx_G) {M0 M : jx_M} {S : jS} {p : Nat → Nat} {l g n : Nat} {Q : jx_O → jx_M → Prop} (hM : CX M0 M S p) (hl : l < S 10 14) (hl12 : S 10 14 ≤ 12) (hx : ∀ l', l' < S 10 14 → S 38 l' ≤ 60) (hg : g ≤ S 38 l) (h5 : S 32 5 = 0) (hn : n < 2 ^ 31) (hQ : ∀ M', CX M0 M' (spFillGap S l g n) p → Q (.inl none) M') : Mt G m_X7_fillGap [oR 7 0, oR 3 (p l), vI g, vI n] M Q := by
  refine Mt.of (sc_X7_fillGap G) (by decide +kernel) (jArgs.of rfl) (Nat.le_of_ble_eq_true rfl) (fun Wn hC => ?_)
  have key : ∀ (d j left : Nat) (M1 : jx_M) (S1 : jS) (x6 : Option jx_V), j + d = 5 → left < 2 ^ 31 → CX M0 M1 S1 p → S1 10 14 = S 10 14 → (∀ l', S1 38 l' = S 38 l') → S1 32 5 = 0 → (∀ M', CX M0 M' (spFG (448 * l + 7 * g) (un j) left S1) p → Q (.inl none) M') → Wn 6 [some (oR 7 0), some (oR 3 (p l)), some (vI g), some (vI n), some (vI left), some (vI j), x6] [] M1 0 0 := by
    intro d
    induction d with
    | zero =>
      intro j left M1 S1 x6 c1 c2 hM1 e14 e38 e5 hQ1
      have c3 : j = 5 := by omega
      subst c3
      have h9 := hQ1 M1 hM1
      refine ev_at hC (fun pc => pc == 6 || pc == 23) 9 6 (ls := [some (oR 7 0), some (oR 3 (p l)), some (vI g), some (vI n), some (vI left), some (vI 5), x6]) ?_
      try simp only [↓cb_X7_fillGap_0, ↓cb_X7_fillGap_6, ↓cb_X7_fillGap_23, ↓cb_X7_fillGap_63, ↓cb_X7_fillGap_69, ↓te_aload, ↓te_bin, ↓te_callV, ↓te_const, ↓te_getst, ↓te_goto, ↓te_icmp, ↓te_if, ↓te_iinc, ↓te_iload, ↓te_istore, ↓te_ldU, ↓te_lenU, ↓te_vret, ↓evb_c, ↓evb_n, ↓evk_ap, ↓evm_cut, ↓evm_go, ↓evm_0, ↓jret_v, ↓jret_n, jget, jset, cond_true, cond_false, Nat.reduceBEq, jc1, List.take_succ_cons, List.take_zero, List.drop_succ_cons, List.drop_zero, List.reverse_cons, List.reverse_nil, List.nil_append, List.cons_append, List.length_cons, List.length_nil, Nat.zero_add, Nat.reduceAdd, beq_self_eq_true, true_and, and_true, Nat.reduceLeDiff, Nat.le_refl, Nat.zero_le, Bool.or_true, Bool.true_or, Bool.or_false, Bool.false_or, Bool.or_self]
      try simp (disch := omega) only [Nat.reduceEqDiff, Prod.mk.injEq, Option.some.injEq, true_and, and_true, exists_eq_left', exists_eq_right, exists_and_left, exists_const, true_or, or_true, ne_eq, not_true_eq_false, not_false_eq_true, reduceCtorEq, false_and, and_false, if_true, if_false, forall_const, true_implies, false_implies, implies_true, qI_wI, qI_wP, qP_wI, qP_wP, qN_wI, qN_wP, and_self, nI_add, pk_mul, nI_clamp, vp_in_nI, ng_1, ng_10, nI_eq32, cs_0, cs_1, cs_2, cs_3, cs_4, cs_5, cs_6, cs_7, cs_8, cs_9, cs_10, cs_11, cs_12, cs_13, cs_14, cs_15, cs_16, cs_17, cs_18, cs_19, cs_20, cs_21, cs_22, cs_23, cs_24, cs_25, cs_26, cs_27, cs_28, cs_29, cs_30, cs_31, cs_32, cs_33, cs_34, cs_35, cs_36, cs_37, cs_38, cs_39, cs_40, cs_41, cs_42, cs_43, cs_44, cs_45, cs_46, cs_47, cs_48, cs_49, cs_50, cs_51, cs_52, cs_53, cs_54, cs_55, cs_56, cs_57, cs_58, cs_59, cs_60, cs_61, cs_62, cs_63, cs_64, cs_97, cs_100, cs_122, cs_200, cs_300, cs_448, cs_1000, al_11, al_12, al_13, al_14, al_15, al_16, al_17, al_18, al_19, al_20, al_21, al_22, al_23, al_24, al_25, al_26, al_27, al_28, al_29, al_30, al_31, al_32, al_33, al_34, al_35, al_36, al_37, al_38, al_39, al_40, al_41, al_42, al_43, al_44, al_45, al_46, al_47, nI_leI, Nat.reduceLeDiff]
      first
        | exact h9
        | exact ⟨fun _ => h9, fun z => absurd (Nat.le_refl 5) z⟩
    | succ d ih =>
      intro j left M1 S1 x6 c1 c2 hM1 e14 e38 e5 hQ1
      have hj : j < 5 := by omega
      have hju : un j = 1 ∨ un j = 2 ∨ un j = 3 ∨ un j = 4 ∨ un j = 6 := by unfold un; split <;> omega
      have hu1 := un_ge hj
      have huj := jx_uni_at hj
      have inner : ∀ (t left : Nat) (M1 : jx_M) (S1 : jS), t = spTaken S1 (un j) left → left < 2 ^ 31 → CX M0 M1 S1 p → S1 10 14 = S 10 14 → (∀ l', S1 38 l' = S 38 l') → S1 32 5 = 0 → (∀ M', CX M0 M' (spFG (448 * l + 7 * g) (un j) left S1) p → Q (.inl none) M') → Wn 23 [some (oR 7 0), some (oR 3 (p l)), some (vI g), some (vI n), some (vI left), some (vI j), some (vI (un j))] [] M1 0 0 := by
        intro t
        induction t with
        | zero =>
          intro left M1 S1 ht c2 hM1 e14 e38 e5 hQ1
          have h7 := hM1.1.1.2.1.1
          have h24 := hM1.1.2.2.1 j hj
          have hst : ¬ (un j ≤ left ∧ 1 ≤ jP (S1 32 (un j))) := fun q => by
            have := spTaken_s (c := 0) hju q.1 q.2
            omega
          have k63 : Wn 63 [some (oR 7 0), some (oR 3 (p l)), some (vI g), some (vI n), some (vI left), some (vI j), some (vI (un j))] [] M1 0 0 := by
            refine ev_at hC (fun pc => pc == 6) 9 63 (ls := [some (oR 7 0), some (oR 3 (p l)), some (vI g), some (vI n), some (vI left), some (vI j), some (vI (un j))]) ?_
            try simp only [↓cb_X7_fillGap_0, ↓cb_X7_fillGap_6, ↓cb_X7_fillGap_23, ↓cb_X7_fillGap_63, ↓cb_X7_fillGap_69, ↓te_aload, ↓te_bin, ↓te_callV, ↓te_const, ↓te_getst, ↓te_goto, ↓te_icmp, ↓te_if, ↓te_iinc, ↓te_iload, ↓te_istore, ↓te_ldU, ↓te_lenU, ↓te_vret, ↓evb_c, ↓evb_n, ↓evk_ap, ↓evm_cut, ↓evm_go, ↓evm_0, ↓jret_v, ↓jret_n, jget, jset, cond_true, cond_false, Nat.reduceBEq, jc1, List.take_succ_cons, List.take_zero, List.drop_succ_cons, List.drop_zero, List.reverse_cons, List.reverse_nil, List.nil_append, List.cons_append, List.length_cons, List.length_nil, Nat.zero_add, Nat.reduceAdd, beq_self_eq_true, true_and, and_true, Nat.reduceLeDiff, Nat.le_refl, Nat.zero_le, Bool.or_true, Bool.true_or, Bool.or_false, Bool.false_or, Bool.or_self]
            try simp (disch := omega) only [Nat.reduceEqDiff, Prod.mk.injEq, Option.some.injEq, true_and, and_true, exists_eq_left', exists_eq_right, exists_and_left, exists_const, true_or, or_true, ne_eq, not_true_eq_false, not_false_eq_true, reduceCtorEq, false_and, and_false, if_true, if_false, forall_const, true_implies, false_implies, implies_true, qI_wI, qI_wP, qP_wI, qP_wP, qN_wI, qN_wP, and_self, nI_add, pk_mul, nI_clamp, vp_in_nI, ng_1, ng_10, nI_eq32, cs_0, cs_1, cs_2, cs_3, cs_4, cs_5, cs_6, cs_7, cs_8, cs_9, cs_10, cs_11, cs_12, cs_13, cs_14, cs_15, cs_16, cs_17, cs_18, cs_19, cs_20, cs_21, cs_22, cs_23, cs_24, cs_25, cs_26, cs_27, cs_28, cs_29, cs_30, cs_31, cs_32, cs_33, cs_34, cs_35, cs_36, cs_37, cs_38, cs_39, cs_40, cs_41, cs_42, cs_43, cs_44, cs_45, cs_46, cs_47, cs_48, cs_49, cs_50, cs_51, cs_52, cs_53, cs_54, cs_55, cs_56, cs_57, cs_58, cs_59, cs_60, cs_61, cs_62, cs_63, cs_64, cs_97, cs_100, cs_122, cs_200, cs_300, cs_448, cs_1000, al_11, al_12, al_13, al_14, al_15, al_16, al_17, al_18, al_19, al_20, al_21, al_22, al_23, al_24, al_25, al_26, al_27, al_28, al_29, al_30, al_31, al_32, al_33, al_34, al_35, al_36, al_37, al_38, al_39, al_40, al_41, al_42, al_43, al_44, al_45, al_46, al_47]
            refine ih (j + 1) left M1 S1 _ (by omega) c2 hM1 e14 e38 e5 (fun M' hM' => hQ1 M' ?_)
            rw [spFG_u (by omega), ← ht, Nat.zero_mul, Nat.sub_zero, sw_congr (spF1_0 S1 _ _), spFG_un hj e5]
            exact hM'
          refine ev_at hC (fun pc => pc == 63 || pc == 23) 9 23 (ls := [some (oR 7 0), some (oR 3 (p l)), some (vI g), some (vI n), some (vI left), some (vI j), some (vI (un j))]) ?_
          try simp only [↓cb_X7_fillGap_0, ↓cb_X7_fillGap_6, ↓cb_X7_fillGap_23, ↓cb_X7_fillGap_63, ↓cb_X7_fillGap_69, ↓te_aload, ↓te_bin, ↓te_callV, ↓te_const, ↓te_getst, ↓te_goto, ↓te_icmp, ↓te_if, ↓te_iinc, ↓te_iload, ↓te_istore, ↓te_ldU, ↓te_lenU, ↓te_vret, ↓evb_c, ↓evb_n, ↓evk_ap, ↓evm_cut, ↓evm_go, ↓evm_0, ↓jret_v, ↓jret_n, jget, jset, cond_true, cond_false, Nat.reduceBEq, jc1, List.take_succ_cons, List.take_zero, List.drop_succ_cons, List.drop_zero, List.reverse_cons, List.reverse_nil, List.nil_append, List.cons_append, List.length_cons, List.length_nil, Nat.zero_add, Nat.reduceAdd, beq_self_eq_true, true_and, and_true, Nat.reduceLeDiff, Nat.le_refl, Nat.zero_le, Bool.or_true, Bool.true_or, Bool.or_false, Bool.false_or, Bool.or_self]
          try simp (disch := omega) only [Nat.reduceEqDiff, Prod.mk.injEq, Option.some.injEq, true_and, and_true, exists_eq_left', exists_eq_right, exists_and_left, exists_const, true_or, or_true, ne_eq, not_true_eq_false, not_false_eq_true, reduceCtorEq, false_and, and_false, if_true, if_false, forall_const, true_implies, false_implies, implies_true, qI_wI, qI_wP, qP_wI, qP_wP, qN_wI, qN_wP, and_self, nI_add, pk_mul, nI_clamp, vp_in_nI, ng_1, ng_10, nI_eq32, cs_0, cs_1, cs_2, cs_3, cs_4, cs_5, cs_6, cs_7, cs_8, cs_9, cs_10, cs_11, cs_12, cs_13, cs_14, cs_15, cs_16, cs_17, cs_18, cs_19, cs_20, cs_21, cs_22, cs_23, cs_24, cs_25, cs_26, cs_27, cs_28, cs_29, cs_30, cs_31, cs_32, cs_33, cs_34, cs_35, cs_36, cs_37, cs_38, cs_39, cs_40, cs_41, cs_42, cs_43, cs_44, cs_45, cs_46, cs_47, cs_48, cs_49, cs_50, cs_51, cs_52, cs_53, cs_54, cs_55, cs_56, cs_57, cs_58, cs_59, cs_60, cs_61, cs_62, cs_63, cs_64, cs_97, cs_100, cs_122, cs_200, cs_300, cs_448, cs_1000, al_11, al_12, al_13, al_14, al_15, al_16, al_17, al_18, al_19, al_20, al_21, al_22, al_23, al_24, al_25, al_26, al_27, al_28, al_29, al_30, al_31, al_32, al_33, al_34, al_35, al_36, al_37, al_38, al_39, al_40, al_41, al_42, al_43, al_44, al_45, al_46, al_47]
          refine cc_scount G h7 hj ?_
          rw [h24]
          try simp only [↓cb_X7_fillGap_0, ↓cb_X7_fillGap_6, ↓cb_X7_fillGap_23, ↓cb_X7_fillGap_63, ↓cb_X7_fillGap_69, ↓te_aload, ↓te_bin, ↓te_callV, ↓te_const, ↓te_getst, ↓te_goto, ↓te_icmp, ↓te_if, ↓te_iinc, ↓te_iload, ↓te_istore, ↓te_ldU, ↓te_lenU, ↓te_vret, ↓evb_c, ↓evb_n, ↓evk_ap, ↓evm_cut, ↓evm_go, ↓evm_0, ↓jret_v, ↓jret_n, jget, jset, cond_true, cond_false, Nat.reduceBEq, jc1, List.take_succ_cons, List.take_zero, List.drop_succ_cons, List.drop_zero, List.reverse_cons, List.reverse_nil, List.nil_append, List.cons_append, List.length_cons, List.length_nil, Nat.zero_add, Nat.reduceAdd, beq_self_eq_true, true_and, and_true, Nat.reduceLeDiff, Nat.le_refl, Nat.zero_le, Bool.or_true, Bool.true_or, Bool.or_false, Bool.false_or, Bool.or_self]
          try simp (disch := omega) only [Nat.reduceEqDiff, Prod.mk.injEq, Option.some.injEq, true_and, and_true, exists_eq_left', exists_eq_right, exists_and_left, exists_const, true_or, or_true, ne_eq, not_true_eq_false, not_false_eq_true, reduceCtorEq, false_and, and_false, if_true, if_false, forall_const, true_implies, false_implies, implies_true, qI_wI, qI_wP, qP_wI, qP_wP, qN_wI, qN_wP, and_self, nI_add, pk_mul, nI_clamp, vp_in_nI, ng_1, ng_10, nI_eq32, cs_0, cs_1, cs_2, cs_3, cs_4, cs_5, cs_6, cs_7, cs_8, cs_9, cs_10, cs_11, cs_12, cs_13, cs_14, cs_15, cs_16, cs_17, cs_18, cs_19, cs_20, cs_21, cs_22, cs_23, cs_24, cs_25, cs_26, cs_27, cs_28, cs_29, cs_30, cs_31, cs_32, cs_33, cs_34, cs_35, cs_36, cs_37, cs_38, cs_39, cs_40, cs_41, cs_42, cs_43, cs_44, cs_45, cs_46, cs_47, cs_48, cs_49, cs_50, cs_51, cs_52, cs_53, cs_54, cs_55, cs_56, cs_57, cs_58, cs_59, cs_60, cs_61, cs_62, cs_63, cs_64, cs_97, cs_100, cs_122, cs_200, cs_300, cs_448, cs_1000, al_11, al_12, al_13, al_14, al_15, al_16, al_17, al_18, al_19, al_20, al_21, al_22, al_23, al_24, al_25, al_26, al_27, al_28, al_29, al_30, al_31, al_32, al_33, al_34, al_35, al_36, al_37, al_38, al_39, al_40, al_41, al_42, al_43, al_44, al_45, al_46, al_47, nI_ltI]
          refine ⟨fun _ => k63, fun z => ⟨fun _ => k63, fun z2 => ?_⟩⟩
          exfalso
          have z3 := jP_pos (x := S1 32 (un j)) (t := 0) (Nat.zero_le _)
          rw [Nat.sub_zero] at z3
          rw [z3] at z
          exact hst ⟨by omega, by omega⟩
        | succ t iht =>
          intro left M1 S1 ht c2 hM1 e14 e38 e5 hQ1
          have h7 := hM1.1.1.2.1.1
          have h24 := hM1.1.2.2.1 j hj
          have hA := hM1.1.2.2.2.2.2.2.2.2.1
          have ho := (hM1.1.2.2.2.2.2.2.2.2.2.1.1 l (by omega)).1
          have hgo : un j ≤ left ∧ 1 ≤ jP (S1 32 (un j)) := by
            by_cases q1 : un j ≤ left
            · by_cases q2 : 1 ≤ jP (S1 32 (un j))
              · exact ⟨q1, q2⟩
              · have := spTaken_z (S := S1) (left := left) hju (Or.inr (by omega)); omega
            · have := spTaken_z (S := S1) (left := left) hju (Or.inl (by omega)); omega
          have hle := jP_le (S1 32 (un j))
          have hts := spTaken_s (c := 448 * l + 7 * g + un j) hju hgo.1 hgo.2
          have hg60 : S1 38 l ≤ 60 := by rw [e38]; exact hx l hl
          have hM2 : CX M0 (mSp1 M1 (p l) g j) (spF1 S1 (448 * l + 7 * g + un j) (un j) 1) p := ⟨CM_sp1 hM1.1 (by omega) (by omega) hg60 (by rw [e38]; exact hg) hj (by omega) (fun l' hl' => by rw [e38]; exact hx l' (by omega)), mSp1_KP hM1.2⟩
          refine ev_at hC (fun pc => pc == 63 || pc == 23) 9 23 (ls := [some (oR 7 0), some (oR 3 (p l)), some (vI g), some (vI n), some (vI left), some (vI j), some (vI (un j))]) ?_
          try simp only [↓cb_X7_fillGap_0, ↓cb_X7_fillGap_6, ↓cb_X7_fillGap_23, ↓cb_X7_fillGap_63, ↓cb_X7_fillGap_69, ↓te_aload, ↓te_bin, ↓te_callV, ↓te_const, ↓te_getst, ↓te_goto, ↓te_icmp, ↓te_if, ↓te_iinc, ↓te_iload, ↓te_istore, ↓te_ldU, ↓te_lenU, ↓te_vret, ↓evb_c, ↓evb_n, ↓evk_ap, ↓evm_cut, ↓evm_go, ↓evm_0, ↓jret_v, ↓jret_n, jget, jset, cond_true, cond_false, Nat.reduceBEq, jc1, List.take_succ_cons, List.take_zero, List.drop_succ_cons, List.drop_zero, List.reverse_cons, List.reverse_nil, List.nil_append, List.cons_append, List.length_cons, List.length_nil, Nat.zero_add, Nat.reduceAdd, beq_self_eq_true, true_and, and_true, Nat.reduceLeDiff, Nat.le_refl, Nat.zero_le, Bool.or_true, Bool.true_or, Bool.or_false, Bool.false_or, Bool.or_self]
          try simp (disch := omega) only [Nat.reduceEqDiff, Prod.mk.injEq, Option.some.injEq, true_and, and_true, exists_eq_left', exists_eq_right, exists_and_left, exists_const, true_or, or_true, ne_eq, not_true_eq_false, not_false_eq_true, reduceCtorEq, false_and, and_false, if_true, if_false, forall_const, true_implies, false_implies, implies_true, qI_wI, qI_wP, qP_wI, qP_wP, qN_wI, qN_wP, and_self, nI_add, pk_mul, nI_clamp, vp_in_nI, ng_1, ng_10, nI_eq32, cs_0, cs_1, cs_2, cs_3, cs_4, cs_5, cs_6, cs_7, cs_8, cs_9, cs_10, cs_11, cs_12, cs_13, cs_14, cs_15, cs_16, cs_17, cs_18, cs_19, cs_20, cs_21, cs_22, cs_23, cs_24, cs_25, cs_26, cs_27, cs_28, cs_29, cs_30, cs_31, cs_32, cs_33, cs_34, cs_35, cs_36, cs_37, cs_38, cs_39, cs_40, cs_41, cs_42, cs_43, cs_44, cs_45, cs_46, cs_47, cs_48, cs_49, cs_50, cs_51, cs_52, cs_53, cs_54, cs_55, cs_56, cs_57, cs_58, cs_59, cs_60, cs_61, cs_62, cs_63, cs_64, cs_97, cs_100, cs_122, cs_200, cs_300, cs_448, cs_1000, al_11, al_12, al_13, al_14, al_15, al_16, al_17, al_18, al_19, al_20, al_21, al_22, al_23, al_24, al_25, al_26, al_27, al_28, al_29, al_30, al_31, al_32, al_33, al_34, al_35, al_36, al_37, al_38, al_39, al_40, al_41, al_42, al_43, al_44, al_45, al_46, al_47]
          refine cc_scount G h7 hj ?_
          rw [h24]
          try simp only [↓cb_X7_fillGap_0, ↓cb_X7_fillGap_6, ↓cb_X7_fillGap_23, ↓cb_X7_fillGap_63, ↓cb_X7_fillGap_69, ↓te_aload, ↓te_bin, ↓te_callV, ↓te_const, ↓te_getst, ↓te_goto, ↓te_icmp, ↓te_if, ↓te_iinc, ↓te_iload, ↓te_istore, ↓te_ldU, ↓te_lenU, ↓te_vret, ↓evb_c, ↓evb_n, ↓evk_ap, ↓evm_cut, ↓evm_go, ↓evm_0, ↓jret_v, ↓jret_n, jget, jset, cond_true, cond_false, Nat.reduceBEq, jc1, List.take_succ_cons, List.take_zero, List.drop_succ_cons, List.drop_zero, List.reverse_cons, List.reverse_nil, List.nil_append, List.cons_append, List.length_cons, List.length_nil, Nat.zero_add, Nat.reduceAdd, beq_self_eq_true, true_and, and_true, Nat.reduceLeDiff, Nat.le_refl, Nat.zero_le, Bool.or_true, Bool.true_or, Bool.or_false, Bool.false_or, Bool.or_self]
          try simp (disch := omega) only [Nat.reduceEqDiff, Prod.mk.injEq, Option.some.injEq, true_and, and_true, exists_eq_left', exists_eq_right, exists_and_left, exists_const, true_or, or_true, ne_eq, not_true_eq_false, not_false_eq_true, reduceCtorEq, false_and, and_false, if_true, if_false, forall_const, true_implies, false_implies, implies_true, qI_wI, qI_wP, qP_wI, qP_wP, qN_wI, qN_wP, and_self, nI_add, pk_mul, nI_clamp, vp_in_nI, ng_1, ng_10, nI_eq32, cs_0, cs_1, cs_2, cs_3, cs_4, cs_5, cs_6, cs_7, cs_8, cs_9, cs_10, cs_11, cs_12, cs_13, cs_14, cs_15, cs_16, cs_17, cs_18, cs_19, cs_20, cs_21, cs_22, cs_23, cs_24, cs_25, cs_26, cs_27, cs_28, cs_29, cs_30, cs_31, cs_32, cs_33, cs_34, cs_35, cs_36, cs_37, cs_38, cs_39, cs_40, cs_41, cs_42, cs_43, cs_44, cs_45, cs_46, cs_47, cs_48, cs_49, cs_50, cs_51, cs_52, cs_53, cs_54, cs_55, cs_56, cs_57, cs_58, cs_59, cs_60, cs_61, cs_62, cs_63, cs_64, cs_97, cs_100, cs_122, cs_200, cs_300, cs_448, cs_1000, al_11, al_12, al_13, al_14, al_15, al_16, al_17, al_18, al_19, al_20, al_21, al_22, al_23, al_24, al_25, al_26, al_27, al_28, al_29, al_30, al_31, al_32, al_33, al_34, al_35, al_36, al_37, al_38, al_39, al_40, al_41, al_42, al_43, al_44, al_45, al_46, al_47, nI_ltI]
          refine ⟨fun z => ?_, fun _ => ⟨fun z => absurd z (by omega), fun _ => ?_⟩⟩
          · exfalso
            have z3 := jP_pos (x := S1 32 (un j)) (t := 0) (Nat.zero_le _)
            rw [Nat.sub_zero] at z3
            rw [z3] at z
            omega
          · refine cc_add G h7 hj ?_
            try simp only [↓cb_X7_fillGap_0, ↓cb_X7_fillGap_6, ↓cb_X7_fillGap_23, ↓cb_X7_fillGap_63, ↓cb_X7_fillGap_69, ↓te_aload, ↓te_bin, ↓te_callV, ↓te_const, ↓te_getst, ↓te_goto, ↓te_icmp, ↓te_if, ↓te_iinc, ↓te_iload, ↓te_istore, ↓te_ldU, ↓te_lenU, ↓te_vret, ↓evb_c, ↓evb_n, ↓evk_ap, ↓evm_cut, ↓evm_go, ↓evm_0, ↓jret_v, ↓jret_n, jget, jset, cond_true, cond_false, Nat.reduceBEq, jc1, List.take_succ_cons, List.take_zero, List.drop_succ_cons, List.drop_zero, List.reverse_cons, List.reverse_nil, List.nil_append, List.cons_append, List.length_cons, List.length_nil, Nat.zero_add, Nat.reduceAdd, beq_self_eq_true, true_and, and_true, Nat.reduceLeDiff, Nat.le_refl, Nat.zero_le, Bool.or_true, Bool.true_or, Bool.or_false, Bool.false_or, Bool.or_self]
            try simp (disch := omega) only [Nat.reduceEqDiff, Prod.mk.injEq, Option.some.injEq, true_and, and_true, exists_eq_left', exists_eq_right, exists_and_left, exists_const, true_or, or_true, ne_eq, not_true_eq_false, not_false_eq_true, reduceCtorEq, false_and, and_false, if_true, if_false, forall_const, true_implies, false_implies, implies_true, qI_wI, qI_wP, qP_wI, qP_wP, qN_wI, qN_wP, and_self, nI_add, pk_mul, nI_clamp, vp_in_nI, ng_1, ng_10, nI_eq32, cs_0, cs_1, cs_2, cs_3, cs_4, cs_5, cs_6, cs_7, cs_8, cs_9, cs_10, cs_11, cs_12, cs_13, cs_14, cs_15, cs_16, cs_17, cs_18, cs_19, cs_20, cs_21, cs_22, cs_23, cs_24, cs_25, cs_26, cs_27, cs_28, cs_29, cs_30, cs_31, cs_32, cs_33, cs_34, cs_35, cs_36, cs_37, cs_38, cs_39, cs_40, cs_41, cs_42, cs_43, cs_44, cs_45, cs_46, cs_47, cs_48, cs_49, cs_50, cs_51, cs_52, cs_53, cs_54, cs_55, cs_56, cs_57, cs_58, cs_59, cs_60, cs_61, cs_62, cs_63, cs_64, cs_97, cs_100, cs_122, cs_200, cs_300, cs_448, cs_1000, al_11, al_12, al_13, al_14, al_15, al_16, al_17, al_18, al_19, al_20, al_21, al_22, al_23, al_24, al_25, al_26, al_27, al_28, al_29, al_30, al_31, al_32, al_33, al_34, al_35, al_36, al_37, al_38, al_39, al_40, al_41, al_42, al_43, al_44, al_45, al_46, al_47]
            refine cc_addSpace G hA ho (by have := hx l hl; omega) hj ?_
            try simp only [↓cb_X7_fillGap_0, ↓cb_X7_fillGap_6, ↓cb_X7_fillGap_23, ↓cb_X7_fillGap_63, ↓cb_X7_fillGap_69, ↓te_aload, ↓te_bin, ↓te_callV, ↓te_const, ↓te_getst, ↓te_goto, ↓te_icmp, ↓te_if, ↓te_iinc, ↓te_iload, ↓te_istore, ↓te_ldU, ↓te_lenU, ↓te_vret, ↓evb_c, ↓evb_n, ↓evk_ap, ↓evm_cut, ↓evm_go, ↓evm_0, ↓jret_v, ↓jret_n, jget, jset, cond_true, cond_false, Nat.reduceBEq, jc1, List.take_succ_cons, List.take_zero, List.drop_succ_cons, List.drop_zero, List.reverse_cons, List.reverse_nil, List.nil_append, List.cons_append, List.length_cons, List.length_nil, Nat.zero_add, Nat.reduceAdd, beq_self_eq_true, true_and, and_true, Nat.reduceLeDiff, Nat.le_refl, Nat.zero_le, Bool.or_true, Bool.true_or, Bool.or_false, Bool.false_or, Bool.or_self]
            try simp (disch := omega) only [Nat.reduceEqDiff, Prod.mk.injEq, Option.some.injEq, true_and, and_true, exists_eq_left', exists_eq_right, exists_and_left, exists_const, true_or, or_true, ne_eq, not_true_eq_false, not_false_eq_true, reduceCtorEq, false_and, and_false, if_true, if_false, forall_const, true_implies, false_implies, implies_true, qI_wI, qI_wP, qP_wI, qP_wP, qN_wI, qN_wP, and_self, nI_add, pk_mul, nI_clamp, vp_in_nI, ng_1, ng_10, nI_eq32, cs_0, cs_1, cs_2, cs_3, cs_4, cs_5, cs_6, cs_7, cs_8, cs_9, cs_10, cs_11, cs_12, cs_13, cs_14, cs_15, cs_16, cs_17, cs_18, cs_19, cs_20, cs_21, cs_22, cs_23, cs_24, cs_25, cs_26, cs_27, cs_28, cs_29, cs_30, cs_31, cs_32, cs_33, cs_34, cs_35, cs_36, cs_37, cs_38, cs_39, cs_40, cs_41, cs_42, cs_43, cs_44, cs_45, cs_46, cs_47, cs_48, cs_49, cs_50, cs_51, cs_52, cs_53, cs_54, cs_55, cs_56, cs_57, cs_58, cs_59, cs_60, cs_61, cs_62, cs_63, cs_64, cs_97, cs_100, cs_122, cs_200, cs_300, cs_448, cs_1000, al_11, al_12, al_13, al_14, al_15, al_16, al_17, al_18, al_19, al_20, al_21, al_22, al_23, al_24, al_25, al_26, al_27, al_28, al_29, al_30, al_31, al_32, al_33, al_34, al_35, al_36, al_37, al_38, al_39, al_40, al_41, al_42, al_43, al_44, al_45, al_46, al_47]
            rw [pk_sub hgo.1]
            refine iht (left - un j) _ (spF1 S1 (448 * l + 7 * g + un j) (un j) 1) (by omega) (by omega) hM2 ?_ (fun l' => ?_) ?_ (fun M' hM' => hQ1 M' ?_)
            · rw [spF1_row _ _ _ _ (by omega)]; exact e14
            · rw [spF1_row _ _ _ _ (by omega)]; exact e38 l'
            · rw [spF1_32]
              split <;> omega
            · rw [spFG_u (by omega)] at hM' ⊢
              rw [hts]
              generalize spTaken (spF1 S1 (448 * l + 7 * g + un j) (un j) 1) (un j) (left - un j) = k at hM' ⊢
              rw [spF1_ss S1 (448 * l + 7 * g + un j) (un j) k, show left - (k + 1) * un j = left - un j - k * un j by rw [Nat.succ_mul]; omega]
              exact hM'
      refine ev_at hC (fun pc => pc == 6 || pc == 23) 9 6 (ls := [some (oR 7 0), some (oR 3 (p l)), some (vI g), some (vI n), some (vI left), some (vI j), x6]) ?_
      try simp only [↓cb_X7_fillGap_0, ↓cb_X7_fillGap_6, ↓cb_X7_fillGap_23, ↓cb_X7_fillGap_63, ↓cb_X7_fillGap_69, ↓te_aload, ↓te_bin, ↓te_callV, ↓te_const, ↓te_getst, ↓te_goto, ↓te_icmp, ↓te_if, ↓te_iinc, ↓te_iload, ↓te_istore, ↓te_ldU, ↓te_lenU, ↓te_vret, ↓evb_c, ↓evb_n, ↓evk_ap, ↓evm_cut, ↓evm_go, ↓evm_0, ↓jret_v, ↓jret_n, jget, jset, cond_true, cond_false, Nat.reduceBEq, jc1, List.take_succ_cons, List.take_zero, List.drop_succ_cons, List.drop_zero, List.reverse_cons, List.reverse_nil, List.nil_append, List.cons_append, List.length_cons, List.length_nil, Nat.zero_add, Nat.reduceAdd, beq_self_eq_true, true_and, and_true, Nat.reduceLeDiff, Nat.le_refl, Nat.zero_le, Bool.or_true, Bool.true_or, Bool.or_false, Bool.false_or, Bool.or_self]
      try simp (disch := omega) only [Nat.reduceEqDiff, Prod.mk.injEq, Option.some.injEq, true_and, and_true, exists_eq_left', exists_eq_right, exists_and_left, exists_const, true_or, or_true, ne_eq, not_true_eq_false, not_false_eq_true, reduceCtorEq, false_and, and_false, if_true, if_false, forall_const, true_implies, false_implies, implies_true, qI_wI, qI_wP, qP_wI, qP_wP, qN_wI, qN_wP, and_self, nI_add, pk_mul, nI_clamp, vp_in_nI, ng_1, ng_10, nI_eq32, cs_0, cs_1, cs_2, cs_3, cs_4, cs_5, cs_6, cs_7, cs_8, cs_9, cs_10, cs_11, cs_12, cs_13, cs_14, cs_15, cs_16, cs_17, cs_18, cs_19, cs_20, cs_21, cs_22, cs_23, cs_24, cs_25, cs_26, cs_27, cs_28, cs_29, cs_30, cs_31, cs_32, cs_33, cs_34, cs_35, cs_36, cs_37, cs_38, cs_39, cs_40, cs_41, cs_42, cs_43, cs_44, cs_45, cs_46, cs_47, cs_48, cs_49, cs_50, cs_51, cs_52, cs_53, cs_54, cs_55, cs_56, cs_57, cs_58, cs_59, cs_60, cs_61, cs_62, cs_63, cs_64, cs_97, cs_100, cs_122, cs_200, cs_300, cs_448, cs_1000, al_11, al_12, al_13, al_14, al_15, al_16, al_17, al_18, al_19, al_20, al_21, al_22, al_23, al_24, al_25, al_26, al_27, al_28, al_29, al_30, al_31, al_32, al_33, al_34, al_35, al_36, al_37, al_38, al_39, al_40, al_41, al_42, al_43, al_44, al_45, al_46, al_47, nI_leI, huj]
      refine ⟨fun q => absurd q (by omega), fun _ => ?_⟩
      first
        | exact inner _ left M1 S1 rfl c2 hM1 e14 e38 e5 hQ1
        | exact ⟨vp_in_nI (by omega) (by omega), inner _ left M1 S1 rfl c2 hM1 e14 e38 e5 hQ1⟩
  refine ev_at hC (fun pc => pc == 6) 9 0 (ls := [some (oR 7 0), some (oR 3 (p l)), some (vI g), some (vI n), none, none, none]) ?_
  try simp only [↓cb_X7_fillGap_0, ↓cb_X7_fillGap_6, ↓cb_X7_fillGap_23, ↓cb_X7_fillGap_63, ↓cb_X7_fillGap_69, ↓te_aload, ↓te_bin, ↓te_callV, ↓te_const, ↓te_getst, ↓te_goto, ↓te_icmp, ↓te_if, ↓te_iinc, ↓te_iload, ↓te_istore, ↓te_ldU, ↓te_lenU, ↓te_vret, ↓evb_c, ↓evb_n, ↓evk_ap, ↓evm_cut, ↓evm_go, ↓evm_0, ↓jret_v, ↓jret_n, jget, jset, cond_true, cond_false, Nat.reduceBEq, jc1, List.take_succ_cons, List.take_zero, List.drop_succ_cons, List.drop_zero, List.reverse_cons, List.reverse_nil, List.nil_append, List.cons_append, List.length_cons, List.length_nil, Nat.zero_add, Nat.reduceAdd, beq_self_eq_true, true_and, and_true, Nat.reduceLeDiff, Nat.le_refl, Nat.zero_le, Bool.or_true, Bool.true_or, Bool.or_false, Bool.false_or, Bool.or_self]
  try simp (disch := omega) only [Nat.reduceEqDiff, Prod.mk.injEq, Option.some.injEq, true_and, and_true, exists_eq_left', exists_eq_right, exists_and_left, exists_const, true_or, or_true, ne_eq, not_true_eq_false, not_false_eq_true, reduceCtorEq, false_and, and_false, if_true, if_false, forall_const, true_implies, false_implies, implies_true, qI_wI, qI_wP, qP_wI, qP_wP, qN_wI, qN_wP, and_self, nI_add, pk_mul, nI_clamp, vp_in_nI, ng_1, ng_10, nI_eq32, cs_0, cs_1, cs_2, cs_3, cs_4, cs_5, cs_6, cs_7, cs_8, cs_9, cs_10, cs_11, cs_12, cs_13, cs_14, cs_15, cs_16, cs_17, cs_18, cs_19, cs_20, cs_21, cs_22, cs_23, cs_24, cs_25, cs_26, cs_27, cs_28, cs_29, cs_30, cs_31, cs_32, cs_33, cs_34, cs_35, cs_36, cs_37, cs_38, cs_39, cs_40, cs_41, cs_42, cs_43, cs_44, cs_45, cs_46, cs_47, cs_48, cs_49, cs_50, cs_51, cs_52, cs_53, cs_54, cs_55, cs_56, cs_57, cs_58, cs_59, cs_60, cs_61, cs_62, cs_63, cs_64, cs_97, cs_100, cs_122, cs_200, cs_300, cs_448, cs_1000, al_11, al_12, al_13, al_14, al_15, al_16, al_17, al_18, al_19, al_20, al_21, al_22, al_23, al_24, al_25, al_26, al_27, al_28, al_29, al_30, al_31, al_32, al_33, al_34, al_35, al_36, al_37, al_38, al_39, al_40, al_41, al_42, al_43, al_44, al_45, al_46, al_47]
  exact key 5 0 n M S none rfl hn hM rfl (fun _ => rfl) h5 hQ
/-- a line's cells of spaces, told as nothing stands in them -/
theorem CM_zero {M : jx_M} {S S' : jS} {p : Nat → Nat} {l : Nat} (h : CM M S p) (hl : l < S 10 14) (h12 : S 10 14 ≤ 12) (hx : ∀ l', l' < S 10 14 → S 38 l' ≤ 60) (hz : CZ M (p l)) (hr : ∀ a b, ¬ a = 40 → S' a b = S a b) (h40 : ∀ g u, g ≤ S 38 l → 1 ≤ u → u < 7 → S' 40 (448 * l + 7 * g + u) = 0) (h40o : ∀ l' g u, l' < S 10 14 → ¬ l' = l → g ≤ S 38 l' → u < 7 → S' 40 (448 * l' + 7 * g + u) = S 40 (448 * l' + 7 * g + u)) : CM M S' p := by
  obtain ⟨hB, hT, hS, hF, hH, hP, hO, hK, hA, hQ, hL, hZ⟩ := h
  have r : ∀ r, sI M M r := fun _ _ _ => rfl
  have q : ∀ r, sP M M r := fun _ _ _ => rfl
  refine ⟨hB.fr (fun _ => rfl) (fun _ _ => rfl) (q _) (q _) (q _) (q _) rfl (hr 10 1 (by omega)) (hr 10 13 (by omega)) (hr 10 14 (by omega)) (hr 10 24 (by omega)), hT.fr (r _) (r _) (hr 10 12 (by omega)) (fun c _ => hr 33 c (by omega)), hS.fr (r _) (fun c => hr 32 c (by omega)), hF.fr (q _) (r _) (fun c _ => hr 43 c (by omega)) (fun c _ => hr 44 c (by omega)), hH.fr (r _) (q _) (hr 10 9 (by omega)) (fun c _ => hr 31 c (by omega)), hP.fr (r _) (r _) (hr 10 28 (by omega)) (fun c _ => hr 45 c (by omega)), hO.fr (q _) (r _) (hr 10 1 (by omega)) (fun a t _ _ => hr a t (by omega)), hK.fr (q _) (r _) (q _) (fun _ _ _ _ => ⟨rfl, rfl⟩) (hr 10 1 (by omega)) (fun c _ => hr 30 c (by omega)) (fun k i _ _ => hr 29 _ (by omega)) (fun t _ => hr 25 t (by omega)) (fun t _ => by rw [hr 27 t (by omega)]), hA, hQ, fun m hm => ?_, fun m hm hm2 => hZ m (by rw [← hr 10 14 (by omega)]; exact hm) hm2⟩
  rw [hr 10 14 (by omega)] at hm
  refine ⟨(hL m hm).1.fr (fun _ => rfl) rfl (fun _ => rfl) (fun _ => rfl) (fun _ => rfl) (fun _ _ => rfl) (fun a _ => hr a m (by omega)) (fun k _ => ⟨hr 36 _ (by omega), hr 37 _ (by omega)⟩) (fun g _ => hr 39 _ (by omega)), ?_⟩
  by_cases e : m = l
  · subst e
    refine ⟨fun g hg => ?_, fun j hj => ?_⟩
    · rw [hz.1 g hg, hr 38 m (by omega)]
      by_cases c : g ≤ S 38 m
      · rw [if_pos c, spUnits_6, h40 g 1 c (by omega) (by omega), h40 g 2 c (by omega) (by omega), h40 g 3 c (by omega) (by omega), h40 g 4 c (by omega) (by omega), h40 g 5 c (by omega) (by omega), h40 g 6 c (by omega) (by omega)]
        rfl
      · rw [if_neg c]
        rfl
    · rw [hz.2 j hj, hr 38 m (by omega), sumr_0 _ (fun g hg => h40 g (un j) (by omega) (un_ge hj) un_lt)]
      rfl
  · exact (hL m hm).2.fr (fun _ => rfl) (fun _ => rfl) (hr 38 m (by omega)) (fun g u hg hu => h40o m g u hm e hg hu)
theorem ceil_div {r n : Nat} (hn : 0 < n) : (r + n - 1) / n = if 0 < r % n then r / n + 1 else r / n := by
  have h1 := Nat.div_add_mod r n
  have h2 := Nat.mod_lt r hn
  by_cases c : 0 < r % n
  · rw [if_pos c]
    refine Nat.div_eq_of_lt_le ?_ ?_
    · rw [Nat.succ_mul, Nat.mul_comm]; omega
    · rw [Nat.succ_mul, Nat.succ_mul, Nat.mul_comm]; omega
  · rw [if_neg c]
    refine Nat.div_eq_of_lt_le ?_ ?_
    · rw [Nat.mul_comm]; omega
    · rw [Nat.succ_mul, Nat.mul_comm]; omega

