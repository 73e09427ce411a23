/-! THE CLASS: cast -/
def mInit (M : jx_M) (s a b c : Nat) : jx_M := wI (wI (wI (wP (wP (wP (wI (wI (wI M 6 s 3 (nI 0)) 6 s 4 (nI 0)) 6 s 5 (nI 0)) 6 s 6 none) 6 s 7 none) 6 s 8 none) 6 s 0 (nI a)) 6 s 1 (nI b)) 6 s 2 (nI c)
theorem mInit_I (M : jx_M) (s a b c r i k : Nat) : qI (mInit M s a b c) r i k = if r = 6 ∧ i = s ∧ k = 2 then nI c else if r = 6 ∧ i = s ∧ k = 1 then nI b else if r = 6 ∧ i = s ∧ k = 0 then nI a else if r = 6 ∧ i = s ∧ k = 5 then nI 0 else if r = 6 ∧ i = s ∧ k = 4 then nI 0 else if r = 6 ∧ i = s ∧ k = 3 then nI 0 else qI M r i k := by
  simp only [mInit, qI_wI, qI_wP]
theorem mInit_P (M : jx_M) (s a b c r i k : Nat) : qP (mInit M s a b c) r i k = if r = 6 ∧ i = s ∧ k = 8 then none else if r = 6 ∧ i = s ∧ k = 7 then none else if r = 6 ∧ i = s ∧ k = 6 then none else qP M r i k := by
  simp only [mInit, qP_wI, qP_wP]
theorem mInit_KP {M0 M : jx_M} {s a b c : Nat} (h : KP M0 M) : KP M0 (mInit M s a b c) := ((((((((h.wI (by omega)).wI (by omega)).wI (by omega)).wP (by omega)).wP (by omega)).wP (by omega)).wI (by omega)).wI (by omega)).wI (by omega)
set_option maxRecDepth 20000 in
set_option maxHeartbeats 20000000 in
theorem cc_sinit (G : jx_G) {M : jx_M} {Q : jx_O → jx_M → Prop} {s a b c : Nat} (hQ : Q (.inl none) (mInit M s a b c)) : Mt G m_X6_init [oR 6 s, vI a, vI b, vI c] M Q := by
  refine Mt.of (sc_X6_init G) (by decide +kernel) (jArgs.of rfl) (Nat.le_of_ble_eq_true rfl) (fun Wn hC => ?_)
  refine ev_at hC (fun pc => false) 9 0 (ls := [some (oR 6 s), some (vI a), some (vI b), some (vI c)]) ?_
  simp only [↓cb_X6_init_0, ↓te_aload, ↓te_const, ↓te_iload, ↓te_null, ↓te_oinit, ↓te_putI, ↓te_putP, ↓te_putZ, ↓te_vret, ↓evb_c, ↓evb_n, ↓evk_ap, ↓evm_cut, ↓evm_go, ↓evm_0, ↓jret_v, ↓jret_n, jget, jset, cond_true, cond_false, Nat.reduceBEq, jc1, List.take_succ_cons, List.take_zero, List.drop_succ_cons, List.drop_zero, List.reverse_cons, List.reverse_nil, List.nil_append, List.cons_append, List.length_cons, List.length_nil, Nat.zero_add, Nat.reduceAdd, beq_self_eq_true, true_and, and_true, Nat.reduceLeDiff, Nat.le_refl, Nat.zero_le, Bool.or_true, Bool.true_or, Bool.or_false, Bool.false_or, Bool.or_self]
  simp (disch := omega) only [Nat.reduceEqDiff, Prod.mk.injEq, Option.some.injEq, true_and, and_true, exists_eq_left', exists_eq_right, exists_and_left, exists_const, true_or, or_true, ne_eq, not_true_eq_false, not_false_eq_true, reduceCtorEq, false_and, and_false, if_true, if_false, forall_const, true_implies, false_implies, implies_true, qI_wI, qI_wP, qP_wI, qP_wP, qN_wI, qN_wP, and_self, nI_add, pk_mul, nI_clamp, vp_in_nI, ng_1, ng_10, nI_eq32, cs_0, cs_1, cs_2, cs_3, cs_4, cs_5, cs_6, cs_7, cs_8, cs_9, cs_10, cs_11, cs_12, cs_13, cs_14, cs_15, cs_16, cs_17, cs_18, cs_19, cs_20, cs_21, cs_22, cs_23, cs_24, cs_25, cs_26, cs_27, cs_28, cs_29, cs_30, cs_31, cs_32, cs_33, cs_34, cs_35, cs_36, cs_37, cs_38, cs_39, cs_40, cs_41, cs_42, cs_43, cs_44, cs_45, cs_46, cs_47, cs_48, cs_49, cs_50, cs_51, cs_52, cs_53, cs_54, cs_55, cs_56, cs_57, cs_58, cs_59, cs_60, cs_61, cs_62, cs_63, cs_64, cs_97, cs_100, cs_122, cs_200, cs_300, cs_448, cs_1000, al_11, al_12, al_13, al_14, al_15, al_16, al_17, al_18, al_19, al_20, al_21, al_22, al_23, al_24, al_25, al_26, al_27, al_28, al_29, al_30, al_31, al_32, al_33, al_34, al_35, al_36, al_37, al_38, al_39, al_40, al_41, al_42, al_43, al_44, al_45, al_46, al_47]
  exact hQ
theorem CM_new {M M' : jx_M} {S : jS} {p : Nat → Nat} {s f b : Nat} (h : CM M S p) (hW : Wf S) (hs : s = S 10 1) (h26 : S 26 s = 0) (hf : f < 2) (hb : b < 29) (hI : ∀ r i c, ¬ (r = 6 ∧ i = s) → ¬ (r = 9 ∧ i = 0 ∧ c = 2) → ¬ (r = 4 ∧ i = 29 * f + b ∧ c = 3) → qI M' r i c = qI M r i c) (h92 : qI M' 9 0 2 = nI (s + 1)) (h43 : qI M' 4 (29 * f + b) 3 = qI M 4 (29 * f + b) 3 + nI 1) (h6 : qI M' 6 s 0 = nI s ∧ qI M' 6 s 1 = nI f ∧ qI M' 6 s 2 = nI b ∧ qI M' 6 s 3 = nI 0 ∧ qI M' 6 s 4 = nI 0 ∧ qI M' 6 s 5 = nI 0) (hP : ∀ r i c, ¬ (r = 6 ∧ i = s) → ¬ (r = 12 ∧ i = 0 ∧ c = s) → qP M' r i c = qP M r i c) (h12 : qP M' 12 0 s = some s) (hN : qN M' 6 = s + 1) : CM M' (spNew S (29 * f + b)) p := by
  obtain ⟨hB, hT, hS, hF, hH, hPr, hO, hK, hA, hQ, hL, hZ⟩ := h
  subst hs
  have er : ∀ a c, ¬ (a = 25 ∨ a = 27 ∨ a = 28 ∨ (a = 10 ∧ c = 1)) → spNew S (29 * f + b) a c = S a c := fun a c hab => by
    unfold spNew
    rw [sw_at, if_neg (by omega), sw_at, if_neg (by omega), sw_at, if_neg (by omega), sw_at, if_neg (by omega)]
  have e1 : spNew S (29 * f + b) 10 1 = S 10 1 + 1 := by unfold spNew; rw [sw_at, if_pos ⟨rfl, rfl⟩]
  have e25 : ∀ t, spNew S (29 * f + b) 25 t = if t = S 10 1 then 29 * f + b else S 25 t := fun t => by unfold spNew; simp [sw_at]
  have e27 : ∀ t, spNew S (29 * f + b) 27 t = if t = S 10 1 then 0 else S 27 t := fun t => by unfold spNew; simp [sw_at]
  have e28 : ∀ t, spNew S (29 * f + b) 28 t = if t = S 10 1 then 0 else S 28 t := fun t => by unfold spNew; simp [sw_at]
  have iI : ∀ r, ¬ (r = 6 ∨ r = 9 ∨ r = 4) → sI M M' r := fun r hr i c => hI r i c (by omega) (by omega) (by omega)
  have iP : ∀ r, ¬ (r = 6 ∨ r = 12) → sP M M' r := fun r hr i c => hP r i c (by omega) (by omega)
  refine ⟨⟨?_, ?_, ⟨?_, ?_, ?_, ?_⟩, ?_⟩, hT.fr (iI 8 (by omega)) (iI 21 (by omega)) (er 10 12 (by omega)) (fun c _ => er 33 c (by omega)), hS.fr (iI 24 (by omega)) (fun c => er 32 c (by omega)), hF.fr (iP 14 (by omega)) (iI 1 (by omega)) (fun c _ => er 43 c (by omega)) (fun c _ => er 44 c (by omega)), hH.fr (iI 2 (by omega)) (iP 22 (by omega)) (er 10 9 (by omega)) (fun c _ => er 31 c (by omega)), hPr.fr (iI 5 (by omega)) (iI 23 (by omega)) (er 10 28 (by omega)) (fun c _ => er 45 c (by omega)), fun t ht => ?_, fun j hj => ?_, hA.fr (fun o k _ => iP 3 (by omega) o k), hQ.fr (iP 13 (by omega)), fun l hl => ?_, fun l hl hl2 => ?_⟩
  · simp only [fun c => iP 9 (by omega) 0 c]; exact hB.1
  · rw [iP 7 (by omega), iP 8 (by omega), iP 2 (by omega), iP 5 (by omega)]; exact hB.2.1
  · rw [h92, e1]
  · rw [hI 9 0 6 (by omega) (by omega) (by omega), er 10 13 (by omega)]; exact hB.2.2.1.2.1
  · rw [hI 9 0 8 (by omega) (by omega) (by omega), er 10 14 (by omega)]; exact hB.2.2.1.2.2.1
  · rw [hI 9 0 10 (by omega) (by omega) (by omega), er 10 24 (by omega)]; exact hB.2.2.1.2.2.2
  · rw [hN, e1]
  · rw [e1] at ht
    rw [e25, e27, e28, er 26 t (by omega)]
    by_cases e : t = S 10 1
    · rw [if_pos e, if_pos e, if_pos e, e]
      have d1 : (29 * f + b) / 29 = f := by omega
      have d2 : (29 * f + b) % 29 = b := by omega
      rw [d1, d2, h26]
      exact ⟨h12, h6⟩
    · obtain ⟨o1, o2, o3, o4, o5, o6, o7⟩ := hO t (by omega)
      rw [if_neg e, if_neg e, if_neg e, hP 12 0 t (by omega) (fun q => e q.2.2), hI 6 t 0 (fun q => e q.2) (by omega) (by omega), hI 6 t 1 (fun q => e q.2) (by omega) (by omega), hI 6 t 2 (fun q => e q.2) (by omega) (by omega), hI 6 t 3 (fun q => e q.2) (by omega) (by omega), hI 6 t 4 (fun q => e q.2) (by omega) (by omega), hI 6 t 5 (fun q => e q.2) (by omega) (by omega)]
      exact ⟨o1, o2, o3, o4, o5, o6, o7⟩
  · obtain ⟨⟨a1, a2, a3, a4, a5⟩, b0⟩ := hK j hj
    have et : ∀ i, topP (spNew S (29 * f + b)) j i = topP S j i := fun i => topP_fr (fun i2 _ => er 29 _ (by omega))
    have el : spLead (spNew S (29 * f + b)) j (S 10 1 + 1) = spLead S j (S 10 1) + jb (29 * f + b = j) := by
      have q1 : spLead (spNew S (29 * f + b)) j (S 10 1) = spLead S j (S 10 1) := spLead_fr (fun t ht => by rw [e25, if_neg (by omega)]) (fun t ht => by rw [e27, if_neg (by omega)])
      have q2 : spLead (spNew S (29 * f + b)) j (S 10 1 + 1) = spLead (spNew S (29 * f + b)) j (S 10 1) + jb (spNew S (29 * f + b) 25 (S 10 1) = j ∧ ¬ spNew S (29 * f + b) 27 (S 10 1) = 3) := sumr_s (S 10 1)
      rw [q2, q1, e25, e27, if_pos rfl, if_pos rfl]
      congr 1
      by_cases e : 29 * f + b = j
      · rw [jb_t e, jb_t ⟨e, by omega⟩]
      · rw [jb_f e, jb_f (fun q => e q.1)]
    rw [iP 11 (by omega), e1, el, et, er 30 j (by omega), iP 4 (by omega), hI 4 j 0 (by omega) (by omega) (by omega), hI 4 j 2 (by omega) (by omega) (by omega)]
    refine ⟨⟨a1, a2, a3, a4, ?_⟩, fun i hi => ?_⟩
    · by_cases e : j = 29 * f + b
      · rw [e, h43, ← e, a5, show jb (j = j) = 1 from jb_t rfl, nI_add]
      · rw [hI 4 j 3 (by omega) (by omega) (fun q => e q.2.1), a5, jb_f (fun q => e q.symm), Nat.add_zero]
    · have := hW.1.pileLt hj hi
      rw [er 29 _ (by omega), et, hP 6 _ 8 (by omega) (by omega), hP 6 _ 6 (by omega) (by omega)]
      exact b0 i hi
  · rw [er 10 14 (by omega)] at hl
    refine ⟨(hL l hl).1.fr (fun k => iI 3 (by omega) _ k) (iP 3 (by omega) _ _) (fun k => iP 16 (by omega) _ k) (fun k => iI 17 (by omega) _ k) (fun k => iI 18 (by omega) _ k) (fun k hk => ?_) (fun a ha => er a l (by omega)) (fun k _ => ⟨er 36 _ (by omega), er 37 _ (by omega)⟩) (fun g _ => er 39 _ (by omega)), (hL l hl).2.fr (fun k => iI 19 (by omega) _ k) (fun k => iI 20 (by omega) _ k) (er 38 l (by omega)) (fun g u _ _ => er 40 _ (by omega))⟩
    have := hW.inLine hl hk
    exact hP 6 _ 7 (by omega) (by omega)
  · rw [er 10 14 (by omega)] at hl
    exact (hZ l hl hl2).fr (fun k => iI 19 (by omega) _ k) (fun k => iI 20 (by omega) _ k)
/-- sorts that were never cast have no wear -/
def W0 (S : jS) : Prop := ∀ s, S 10 1 ≤ s → S 26 s = 0
theorem CX_castOne {M0 M : jx_M} {S : jS} {p : Nat → Nat} {f b : Nat} (hM : CX M0 M S p) (hW : Wf S) (h0 : W0 S) (hf : f < 2) (hb : b < 29) (hn : S 10 1 < 300) : CX M0 (mPut (wI (wI (wP (mInit (wNew M 6) (S 10 1) (S 10 1) f b) 12 0 (S 10 1) (some (S 10 1))) 9 0 2 (nI (S 10 1 + 1))) 4 (29 * f + b) 3 (qI M 4 (29 * f + b) 3 + nI 1)) (29 * f + b) (S 10 1)) (spCastOne S (29 * f + b)) p := by
  rw [spCastOne_new]
  have n6 := hM.1.1.2.2.2
  have hk58 : 29 * f + b < 58 := by omega
  have hWn := hW.1.new hk58 hn
  have hin : 0 < (fun w => lws S w (S 10 14) + w (S 10 1)) (ind (S 10 1)) := by show 0 < _ + ind _ _; rw [ind_self]; omega
  have er : ∀ a c, ¬ (a = 25 ∨ a = 27 ∨ a = 28 ∨ (a = 10 ∧ c = 1)) → spNew S (29 * f + b) a c = S a c := fun a c hab => by
    unfold spNew
    rw [sw_at, if_neg (by omega), sw_at, if_neg (by omega), sw_at, if_neg (by omega), sw_at, if_neg (by omega)]
  have e1 : spNew S (29 * f + b) 10 1 = S 10 1 + 1 := by unfold spNew; rw [sw_at, if_pos ⟨rfl, rfl⟩]
  have hcn : ∀ j, j < 58 → S 30 j ≤ S 10 1 := fun j hj => by have := hW.1.2.2.cnt hj; omega
  refine ⟨CM_put (CM_new hM.1 hW rfl (h0 _ (Nat.le_refl _)) hf hb (fun r i c c1 c2 c3 => ?_) ?_ ?_ ⟨?_, ?_, ?_, ?_, ?_, ?_⟩ (fun r i c c1 c2 => ?_) ?_ ?_) hk58 (by rw [e1]; omega) ?_ (fun j hj => ?_) (fun j i hj hi => hWn.2.2.noPile hin hj hi) ?_ ?_, mPut_KP ((((mInit_KP hM.2.wNew).wP (by omega)).wI (by omega)).wI (by omega))⟩
  · rw [qI_wI, if_neg c3, qI_wI, if_neg c2, qI_wP, mInit_I, if_neg (fun q => c1 ⟨q.1, q.2.1⟩), if_neg (fun q => c1 ⟨q.1, q.2.1⟩), if_neg (fun q => c1 ⟨q.1, q.2.1⟩), if_neg (fun q => c1 ⟨q.1, q.2.1⟩), if_neg (fun q => c1 ⟨q.1, q.2.1⟩), if_neg (fun q => c1 ⟨q.1, q.2.1⟩), qI_wNew, n6, if_neg c1]
  · rw [qI_wI, if_neg (by omega), qI_wI, if_pos ⟨rfl, rfl, rfl⟩]
  · rw [qI_wI, if_pos ⟨rfl, rfl, rfl⟩]
  · rw [qI_wI, if_neg (by omega), qI_wI, if_neg (by omega), qI_wP, mInit_I, if_neg (by omega), if_neg (by omega), if_pos ⟨rfl, rfl, rfl⟩]
  · rw [qI_wI, if_neg (by omega), qI_wI, if_neg (by omega), qI_wP, mInit_I, if_neg (by omega), if_pos ⟨rfl, rfl, rfl⟩]
  · rw [qI_wI, if_neg (by omega), qI_wI, if_neg (by omega), qI_wP, mInit_I, if_pos ⟨rfl, rfl, rfl⟩]
  · rw [qI_wI, if_neg (by omega), qI_wI, if_neg (by omega), qI_wP, mInit_I, if_neg (by omega), if_neg (by omega), if_neg (by omega), if_neg (by omega), if_neg (by omega), if_pos ⟨rfl, rfl, rfl⟩]
  · rw [qI_wI, if_neg (by omega), qI_wI, if_neg (by omega), qI_wP, mInit_I, if_neg (by omega), if_neg (by omega), if_neg (by omega), if_neg (by omega), if_pos ⟨rfl, rfl, rfl⟩]
  · rw [qI_wI, if_neg (by omega), qI_wI, if_neg (by omega), qI_wP, mInit_I, if_neg (by omega), if_neg (by omega), if_neg (by omega), if_pos ⟨rfl, rfl, rfl⟩]
  · rw [qP_wI, qP_wI, qP_wP, if_neg c2, mInit_P, if_neg (fun q => c1 ⟨q.1, q.2.1⟩), if_neg (fun q => c1 ⟨q.1, q.2.1⟩), if_neg (fun q => c1 ⟨q.1, q.2.1⟩), qP_wNew, n6, if_neg c1]
  · rw [qP_wI, qP_wI, qP_wP, if_pos ⟨rfl, rfl, rfl⟩]
  · show qN (wNew M 6) 6 = _
    rw [qN_wNew, if_pos rfl, n6]
  · rw [er 30 _ (by omega)]
    have := hcn _ hk58
    omega
  · rw [er 30 _ (by omega)]
    have := hcn _ hj
    omega
  · unfold spNew
    simp [sw_at]
  · unfold spNew
    simp [sw_at]
set_option maxRecDepth 20000 in
set_option maxHeartbeats 20000000 in
theorem cc_castOne (G : jx_G) {M0 M : jx_M} {S : jS} {p : Nat → Nat} {f b : Nat} {Q : jx_O → jx_M → Prop} (hM : CX M0 M S p) (hW : Wf S) (h0 : W0 S) (hf : f < 2) (hb : b < 29) (hn : S 10 1 < 300) (hQ : ∀ M', CX M0 M' (spCastOne S (29 * f + b)) p → Q (.inl none) M') : Mt G m_X9_castOne [v9, vI f, vI b, oR 4 (29 * f + b)] M Q := by
  refine Mt.of (sc_X9_castOne G) (by decide +kernel) (jArgs.of rfl) (Nat.le_of_ble_eq_true rfl) (fun Wn hC => ?_)
  have b1 := hM.1.1.1.2.1
  have c2 := hM.1.1.2.2.1.1
  have n6 := hM.1.1.2.2.2
  have f6 : fN 6 = 9 := rfl
  have d0 : ∀ c, qI (wNew M 6) 9 0 c = qI M 9 0 c := fun c => by rw [qI_wNew, if_neg (by omega)]
  have d00 : ∀ c, qP (wNew M 6) 9 0 c = qP M 9 0 c := fun c => by rw [qP_wNew, if_neg (by omega)]
  have g := hQ _ (CX_castOne hM hW h0 hf hb hn)
  have d1 : ∀ c, qI (mInit (wNew M 6) (S 10 1) (S 10 1) f b) 9 0 c = qI M 9 0 c := fun c => by
    rw [mInit_I, if_neg (by omega), if_neg (by omega), if_neg (by omega), if_neg (by omega), if_neg (by omega), if_neg (by omega), qI_wNew, if_neg (by omega)]
  have d2 : ∀ c, qP (mInit (wNew M 6) (S 10 1) (S 10 1) f b) 9 0 c = qP M 9 0 c := fun c => by
    rw [mInit_P, if_neg (by omega), if_neg (by omega), if_neg (by omega), qP_wNew, if_neg (by omega)]
  have d3 : ∀ c, qI (mInit (wNew M 6) (S 10 1) (S 10 1) f b) 4 (29 * f + b) c = qI M 4 (29 * f + b) c := fun c => by
    rw [mInit_I, if_neg (by omega), if_neg (by omega), if_neg (by omega), if_neg (by omega), if_neg (by omega), if_neg (by omega), qI_wNew, if_neg (by omega)]
  have k64 : Wn 64 [some v9, some (vI f), some (vI b), some (oR 4 (29 * f + b)), some (oR 6 (S 10 1))] [] (mPut (wI (wI (wP (mInit (wNew M 6) (S 10 1) (S 10 1) f b) 12 0 (S 10 1) (some (S 10 1))) 9 0 2 (nI (S 10 1 + 1))) 4 (29 * f + b) 3 (qI M 4 (29 * f + b) 3 + nI 1)) (29 * f + b) (S 10 1)) 1 9 := by
    refine ev_at hC (fun pc => false) 9 64 (ls := [some v9, some (vI f), some (vI b), some (oR 4 (29 * f + b)), some (oR 6 (S 10 1))]) ?_
    try simp only [↓cb_X9_castOne_0, ↓cb_X9_castOne_64, ↓te_alen, ↓te_aload, ↓te_astP, ↓te_astore, ↓te_bin, ↓te_callV, ↓te_const, ↓te_dup, ↓te_getI, ↓te_getP, ↓te_icmp, ↓te_iload, ↓te_new, ↓te_putI, ↓te_vret, ↓evb_c, ↓evb_n, ↓evk_ap, ↓evm_cut, ↓evm_go, ↓evm_0, ↓jret_v, ↓jret_n, jget, jset, cond_true, cond_false, Nat.reduceBEq, jc1, List.take_succ_cons, List.take_zero, List.drop_succ_cons, List.drop_zero, List.reverse_cons, List.reverse_nil, List.nil_append, List.cons_append, List.length_cons, List.length_nil, Nat.zero_add, Nat.reduceAdd, beq_self_eq_true, true_and, and_true, Nat.reduceLeDiff, Nat.le_refl, Nat.zero_le, Bool.or_true, Bool.true_or, Bool.or_false, Bool.false_or, Bool.or_self]
    exact g
  refine ev_at hC (fun pc => pc == 64) 9 0 (ls := [some v9, some (vI f), some (vI b), some (oR 4 (29 * f + b)), none]) ?_
  try simp only [↓cb_X9_castOne_0, ↓cb_X9_castOne_64, ↓te_alen, ↓te_aload, ↓te_astP, ↓te_astore, ↓te_bin, ↓te_callV, ↓te_const, ↓te_dup, ↓te_getI, ↓te_getP, ↓te_icmp, ↓te_iload, ↓te_new, ↓te_putI, ↓te_vret, ↓evb_c, ↓evb_n, ↓evk_ap, ↓evm_cut, ↓evm_go, ↓evm_0, ↓jret_v, ↓jret_n, jget, jset, cond_true, cond_false, Nat.reduceBEq, jc1, List.take_succ_cons, List.take_zero, List.drop_succ_cons, List.drop_zero, List.reverse_cons, List.reverse_nil, List.nil_append, List.cons_append, List.length_cons, List.length_nil, Nat.zero_add, Nat.reduceAdd, beq_self_eq_true, true_and, and_true, Nat.reduceLeDiff, Nat.le_refl, Nat.zero_le, Bool.or_true, Bool.true_or, Bool.or_false, Bool.false_or, Bool.or_self]
  try simp (disch := omega) only [Nat.reduceEqDiff, Prod.mk.injEq, Option.some.injEq, true_and, and_true, exists_eq_left', exists_eq_right, exists_and_left, exists_const, true_or, or_true, ne_eq, not_true_eq_false, not_false_eq_true, reduceCtorEq, false_and, and_false, if_true, if_false, forall_const, true_implies, false_implies, implies_true, qI_wI, qI_wP, qP_wI, qP_wP, qN_wI, qN_wP, and_self, nI_add, pk_mul, nI_clamp, vp_in_nI, ng_1, ng_10, nI_eq32, cs_0, cs_1, cs_2, cs_3, cs_4, cs_5, cs_6, cs_7, cs_8, cs_9, cs_10, cs_11, cs_12, cs_13, cs_14, cs_15, cs_16, cs_17, cs_18, cs_19, cs_20, cs_21, cs_22, cs_23, cs_24, cs_25, cs_26, cs_27, cs_28, cs_29, cs_30, cs_31, cs_32, cs_33, cs_34, cs_35, cs_36, cs_37, cs_38, cs_39, cs_40, cs_41, cs_42, cs_43, cs_44, cs_45, cs_46, cs_47, cs_48, cs_49, cs_50, cs_51, cs_52, cs_53, cs_54, cs_55, cs_56, cs_57, cs_58, cs_59, cs_60, cs_61, cs_62, cs_63, cs_64, cs_97, cs_100, cs_122, cs_200, cs_300, cs_448, cs_1000, al_11, al_12, al_13, al_14, al_15, al_16, al_17, al_18, al_19, al_20, al_21, al_22, al_23, al_24, al_25, al_26, al_27, al_28, al_29, al_30, al_31, al_32, al_33, al_34, al_35, al_36, al_37, al_38, al_39, al_40, al_41, al_42, al_43, al_44, al_45, al_46, al_47, b1, c2, d0, d00, n6, f6, nI_leI, Nat.add_zero, Nat.le_refl, Nat.reduceLeDiff]
  refine ⟨fun z => absurd z (by omega), fun _ => ?_⟩
  refine cc_sinit G ?_
  try simp only [↓cb_X9_castOne_0, ↓cb_X9_castOne_64, ↓te_alen, ↓te_aload, ↓te_astP, ↓te_astore, ↓te_bin, ↓te_callV, ↓te_const, ↓te_dup, ↓te_getI, ↓te_getP, ↓te_icmp, ↓te_iload, ↓te_new, ↓te_putI, ↓te_vret, ↓evb_c, ↓evb_n, ↓evk_ap, ↓evm_cut, ↓evm_go, ↓evm_0, ↓jret_v, ↓jret_n, jget, jset, cond_true, cond_false, Nat.reduceBEq, jc1, List.take_succ_cons, List.take_zero, List.drop_succ_cons, List.drop_zero, List.reverse_cons, List.reverse_nil, List.nil_append, List.cons_append, List.length_cons, List.length_nil, Nat.zero_add, Nat.reduceAdd, beq_self_eq_true, true_and, and_true, Nat.reduceLeDiff, Nat.le_refl, Nat.zero_le, Bool.or_true, Bool.true_or, Bool.or_false, Bool.false_or, Bool.or_self]
  try simp (disch := omega) only [Nat.reduceEqDiff, Prod.mk.injEq, Option.some.injEq, true_and, and_true, exists_eq_left', exists_eq_right, exists_and_left, exists_const, true_or, or_true, ne_eq, not_true_eq_false, not_false_eq_true, reduceCtorEq, false_and, and_false, if_true, if_false, forall_const, true_implies, false_implies, implies_true, qI_wI, qI_wP, qP_wI, qP_wP, qN_wI, qN_wP, and_self, nI_add, pk_mul, nI_clamp, vp_in_nI, ng_1, ng_10, nI_eq32, cs_0, cs_1, cs_2, cs_3, cs_4, cs_5, cs_6, cs_7, cs_8, cs_9, cs_10, cs_11, cs_12, cs_13, cs_14, cs_15, cs_16, cs_17, cs_18, cs_19, cs_20, cs_21, cs_22, cs_23, cs_24, cs_25, cs_26, cs_27, cs_28, cs_29, cs_30, cs_31, cs_32, cs_33, cs_34, cs_35, cs_36, cs_37, cs_38, cs_39, cs_40, cs_41, cs_42, cs_43, cs_44, cs_45, cs_46, cs_47, cs_48, cs_49, cs_50, cs_51, cs_52, cs_53, cs_54, cs_55, cs_56, cs_57, cs_58, cs_59, cs_60, cs_61, cs_62, cs_63, cs_64, cs_97, cs_100, cs_122, cs_200, cs_300, cs_448, cs_1000, al_11, al_12, al_13, al_14, al_15, al_16, al_17, al_18, al_19, al_20, al_21, al_22, al_23, al_24, al_25, al_26, al_27, al_28, al_29, al_30, al_31, al_32, al_33, al_34, al_35, al_36, al_37, al_38, al_39, al_40, al_41, al_42, al_43, al_44, al_45, al_46, al_47, b1, c2, d1, d2, d3, f6, Nat.add_zero, Nat.le_refl, Nat.reduceLeDiff]
  try refine ⟨vp_in_nI (by omega) (by omega), ?_⟩
  refine cc_put G ?_
  try simp only [↓cb_X9_castOne_0, ↓cb_X9_castOne_64, ↓te_alen, ↓te_aload, ↓te_astP, ↓te_astore, ↓te_bin, ↓te_callV, ↓te_const, ↓te_dup, ↓te_getI, ↓te_getP, ↓te_icmp, ↓te_iload, ↓te_new, ↓te_putI, ↓te_vret, ↓evb_c, ↓evb_n, ↓evk_ap, ↓evm_cut, ↓evm_go, ↓evm_0, ↓jret_v, ↓jret_n, jget, jset, cond_true, cond_false, Nat.reduceBEq, jc1, List.take_succ_cons, List.take_zero, List.drop_succ_cons, List.drop_zero, List.reverse_cons, List.reverse_nil, List.nil_append, List.cons_append, List.length_cons, List.length_nil, Nat.zero_add, Nat.reduceAdd, beq_self_eq_true, true_and, and_true, Nat.reduceLeDiff, Nat.le_refl, Nat.zero_le, Bool.or_true, Bool.true_or, Bool.or_false, Bool.false_or, Bool.or_self]
  try simp (disch := omega) only [Nat.reduceEqDiff, Prod.mk.injEq, Option.some.injEq, true_and, and_true, exists_eq_left', exists_eq_right, exists_and_left, exists_const, true_or, or_true, ne_eq, not_true_eq_false, not_false_eq_true, reduceCtorEq, false_and, and_false, if_true, if_false, forall_const, true_implies, false_implies, implies_true, qI_wI, qI_wP, qP_wI, qP_wP, qN_wI, qN_wP, and_self, nI_add, pk_mul, nI_clamp, vp_in_nI, ng_1, ng_10, nI_eq32, cs_0, cs_1, cs_2, cs_3, cs_4, cs_5, cs_6, cs_7, cs_8, cs_9, cs_10, cs_11, cs_12, cs_13, cs_14, cs_15, cs_16, cs_17, cs_18, cs_19, cs_20, cs_21, cs_22, cs_23, cs_24, cs_25, cs_26, cs_27, cs_28, cs_29, cs_30, cs_31, cs_32, cs_33, cs_34, cs_35, cs_36, cs_37, cs_38, cs_39, cs_40, cs_41, cs_42, cs_43, cs_44, cs_45, cs_46, cs_47, cs_48, cs_49, cs_50, cs_51, cs_52, cs_53, cs_54, cs_55, cs_56, cs_57, cs_58, cs_59, cs_60, cs_61, cs_62, cs_63, cs_64, cs_97, cs_100, cs_122, cs_200, cs_300, cs_448, cs_1000, al_11, al_12, al_13, al_14, al_15, al_16, al_17, al_18, al_19, al_20, al_21, al_22, al_23, al_24, al_25, al_26, al_27, al_28, al_29, al_30, al_31, al_32, al_33, al_34, al_35, al_36, al_37, al_38, al_39, al_40, al_41, al_42, al_43, al_44, al_45, al_46, al_47]
  exact k64
theorem castOne_1 (S : jS) (k : Nat) : spCastOne S k 10 1 = S 10 1 + 1 := by unfold spCastOne; rw [sw_at, if_pos ⟨rfl, rfl⟩]
theorem W0.castOne {S : jS} (h : W0 S) (k : Nat) : W0 (spCastOne S k) := fun s hs => by
  rw [castOne_1] at hs
  have e : spCastOne S k 26 s = S 26 s := by
    unfold spCastOne
    rw [sw_at, if_neg (by omega), spPut_row _ _ _ (by omega), sw_at, if_neg (by omega)]
  rw [e]
  exact h s (by omega)
theorem W0.cast {k : Nat} : ∀ (n : Nat) {S : jS}, W0 S → W0 (spCast k n S)
  | 0, _, h => h
  | n + 1, _, h => W0.cast n (h.castOne k)
theorem kp_cast (G : jx_G) (hst : (gl G).stackTraces = false) {M0 M : jx_M} {S : jS} {p : Nat → Nat} {Q : jx_O → jx_M → Prop} {x y z : Int32} (hW : Wf S) (h0 : W0 S) (hM : CX M0 M S p) (hQ : KQ M0 Q (fun k => k) S (sf_cast S x y z)) : Mx G m_X9_cast [v9, .inl x, .inl y, .inl z] M Q := by
  refine Mx.of hst (sc_X9_cast G) (by decide +kernel) (jArgs.of rfl) (Nat.le_of_ble_eq_true rfl) (fun Wn hC => ?_)
  unfold sf_cast at hQ
  have hn := hW.1.1.1.1
  have b1 := hM.1.1.1.2.1
  have c2 := hM.1.1.2.2.1.1
  refine ev_at hC (fun pc => pc == 23) 9 0 (ls := [some v9, some (.inl x), some (.inl y), some (.inl z), none, none]) ?_
  try simp only [↓cb_X9_cast_0, ↓cb_X9_cast_23, ↓cb_X9_cast_34, ↓cb_X9_cast_44, ↓cb_X9_cast_68, ↓cb_X9_cast_71, ↓cb_X9_cast_91, ↓te_alen, ↓te_aload, ↓te_astore, ↓te_bin, ↓te_callV, ↓te_const, ↓te_getI, ↓te_getP, ↓te_goto, ↓te_icmp, ↓te_ifnonnull, ↓te_iinc, ↓te_iload, ↓te_iret, ↓te_istore, ↓te_throw, ↓evb_c, ↓evb_n, ↓evk_ap, ↓evm_cut, ↓evm_go, ↓evm_0, ↓jret_v, ↓jret_n, jget, jset, cond_true, cond_false, Nat.reduceBEq, jc1, List.take_succ_cons, List.take_zero, List.drop_succ_cons, List.drop_zero, List.reverse_cons, List.reverse_nil, List.nil_append, List.cons_append, List.length_cons, List.length_nil, Nat.zero_add, Nat.reduceAdd, beq_self_eq_true, true_and, and_true, Nat.reduceLeDiff, Nat.le_refl, Nat.zero_le, Bool.or_true, Bool.true_or, Bool.or_false, Bool.false_or, Bool.or_self]
  try simp (disch := omega) only [Nat.reduceEqDiff, Prod.mk.injEq, Option.some.injEq, true_and, and_true, exists_eq_left', exists_eq_right, exists_and_left, exists_const, true_or, or_true, ne_eq, not_true_eq_false, not_false_eq_true, reduceCtorEq, false_and, and_false, if_true, if_false, forall_const, true_implies, false_implies, implies_true, qI_wI, qI_wP, qP_wI, qP_wP, qN_wI, qN_wP, and_self, nI_add, pk_mul, nI_clamp, vp_in_nI, ng_1, ng_10, nI_eq32, cs_0, cs_1, cs_2, cs_3, cs_4, cs_5, cs_6, cs_7, cs_8, cs_9, cs_10, cs_11, cs_12, cs_13, cs_14, cs_15, cs_16, cs_17, cs_18, cs_19, cs_20, cs_21, cs_22, cs_23, cs_24, cs_25, cs_26, cs_27, cs_28, cs_29, cs_30, cs_31, cs_32, cs_33, cs_34, cs_35, cs_36, cs_37, cs_38, cs_39, cs_40, cs_41, cs_42, cs_43, cs_44, cs_45, cs_46, cs_47, cs_48, cs_49, cs_50, cs_51, cs_52, cs_53, cs_54, cs_55, cs_56, cs_57, cs_58, cs_59, cs_60, cs_61, cs_62, cs_63, cs_64, cs_97, cs_100, cs_122, cs_200, cs_300, cs_448, cs_1000, al_11, al_12, al_13, al_14, al_15, al_16, al_17, al_18, al_19, al_20, al_21, al_22, al_23, al_24, al_25, al_26, al_27, al_28, al_29, al_30, al_31, al_32, al_33, al_34, al_35, al_36, al_37, al_38, al_39, al_40, al_41, al_42, al_43, al_44, al_45, al_46, al_47]
  refine cc_pileOf G hM.1 ?_
  unfold bxP
  by_cases h1 : isBx x y
  · rw [if_pos h1] at hQ ⊢
    obtain ⟨⟨h5, hx⟩, h6, hy⟩ := h1.at
    generalize jn x = f at *
    generalize jn y = b at *
    subst hx hy
    have k34 : ¬ inR z 1 40 → Wn 34 [some v9, some (vI f), some (vI b), some (.inl z), some (oR 4 (29 * f + b)), none] [] M 0 0 := by
      intro h
      rw [if_neg h] at hQ
      refine ev_at hC (fun pc => false) 9 34 (ls := [some v9, some (vI f), some (vI b), some (.inl z), some (oR 4 (29 * f + b)), none]) ?_
      try simp only [↓cb_X9_cast_0, ↓cb_X9_cast_23, ↓cb_X9_cast_34, ↓cb_X9_cast_44, ↓cb_X9_cast_68, ↓cb_X9_cast_71, ↓cb_X9_cast_91, ↓te_alen, ↓te_aload, ↓te_astore, ↓te_bin, ↓te_callV, ↓te_const, ↓te_getI, ↓te_getP, ↓te_goto, ↓te_icmp, ↓te_ifnonnull, ↓te_iinc, ↓te_iload, ↓te_iret, ↓te_istore, ↓te_throw, ↓evb_c, ↓evb_n, ↓evk_ap, ↓evm_cut, ↓evm_go, ↓evm_0, ↓jret_v, ↓jret_n, jget, jset, cond_true, cond_false, Nat.reduceBEq, jc1, List.take_succ_cons, List.take_zero, List.drop_succ_cons, List.drop_zero, List.reverse_cons, List.reverse_nil, List.nil_append, List.cons_append, List.length_cons, List.length_nil, Nat.zero_add, Nat.reduceAdd, beq_self_eq_true, true_and, and_true, Nat.reduceLeDiff, Nat.le_refl, Nat.zero_le, Bool.or_true, Bool.true_or, Bool.or_false, Bool.false_or, Bool.or_self]
      try simp (disch := omega) only [Nat.reduceEqDiff, Prod.mk.injEq, Option.some.injEq, true_and, and_true, exists_eq_left', exists_eq_right, exists_and_left, exists_const, true_or, or_true, ne_eq, not_true_eq_false, not_false_eq_true, reduceCtorEq, false_and, and_false, if_true, if_false, forall_const, true_implies, false_implies, implies_true, qI_wI, qI_wP, qP_wI, qP_wP, qN_wI, qN_wP, and_self, nI_add, pk_mul, nI_clamp, vp_in_nI, ng_1, ng_10, nI_eq32, cs_0, cs_1, cs_2, cs_3, cs_4, cs_5, cs_6, cs_7, cs_8, cs_9, cs_10, cs_11, cs_12, cs_13, cs_14, cs_15, cs_16, cs_17, cs_18, cs_19, cs_20, cs_21, cs_22, cs_23, cs_24, cs_25, cs_26, cs_27, cs_28, cs_29, cs_30, cs_31, cs_32, cs_33, cs_34, cs_35, cs_36, cs_37, cs_38, cs_39, cs_40, cs_41, cs_42, cs_43, cs_44, cs_45, cs_46, cs_47, cs_48, cs_49, cs_50, cs_51, cs_52, cs_53, cs_54, cs_55, cs_56, cs_57, cs_58, cs_59, cs_60, cs_61, cs_62, cs_63, cs_64, cs_97, cs_100, cs_122, cs_200, cs_300, cs_448, cs_1000, al_11, al_12, al_13, al_14, al_15, al_16, al_17, al_18, al_19, al_20, al_21, al_22, al_23, al_24, al_25, al_26, al_27, al_28, al_29, al_30, al_31, al_32, al_33, al_34, al_35, al_36, al_37, al_38, al_39, al_40, al_41, al_42, al_43, al_44, al_45, al_46, al_47]
      exact hQ.no (by omega) hM
    have k44 : inR z 1 40 → Wn 44 [some v9, some (vI f), some (vI b), some (.inl z), some (oR 4 (29 * f + b)), none] [] M 0 0 := by
      intro h
      rw [if_pos h] at hQ
      obtain ⟨g1, g2, hz⟩ := in_of1 (n := 40) (by omega) h
      generalize jn z = n at *
      subst hz
      have k68 : ¬ 300 < S 10 1 + n → Wn 68 [some v9, some (vI f), some (vI b), some (vI n), some (oR 4 (29 * f + b)), none] [] M 0 0 := by
        intro h3
        rw [if_neg h3] at hQ
        have key : ∀ (d i : Nat) (M1 : jx_M) (S1 : jS), i + d = n → CX M0 M1 S1 p → Wf S1 → W0 S1 → S1 10 1 = S 10 1 + i → spCast (29 * f + b) d S1 = spCast (29 * f + b) n S → Wn 71 [some v9, some (vI f), some (vI b), some (vI n), some (oR 4 (29 * f + b)), some (vI i)] [] M1 i (9 * i) := by
          intro d
          induction d with
          | zero =>
            intro i M1 S1 q1 hM1 hW1 h01 q2 q3
            have q4 : i = n := by omega
            subst q4
            have e : S1 = spCast (29 * f + b) i S := q3
            rw [← e, ← q2] at hQ
            have c21 := hM1.1.1.2.2.1.1
            have k91 : Wn 91 [some v9, some (vI f), some (vI b), some (vI i), some (oR 4 (29 * f + b)), some (vI i)] [] M1 i (9 * i) := by
              refine ev_at hC (fun pc => false) 9 91 (ls := [some v9, some (vI f), some (vI b), some (vI i), some (oR 4 (29 * f + b)), some (vI i)]) ?_
              try simp only [↓cb_X9_cast_0, ↓cb_X9_cast_23, ↓cb_X9_cast_34, ↓cb_X9_cast_44, ↓cb_X9_cast_68, ↓cb_X9_cast_71, ↓cb_X9_cast_91, ↓te_alen, ↓te_aload, ↓te_astore, ↓te_bin, ↓te_callV, ↓te_const, ↓te_getI, ↓te_getP, ↓te_goto, ↓te_icmp, ↓te_ifnonnull, ↓te_iinc, ↓te_iload, ↓te_iret, ↓te_istore, ↓te_throw, ↓evb_c, ↓evb_n, ↓evk_ap, ↓evm_cut, ↓evm_go, ↓evm_0, ↓jret_v, ↓jret_n, jget, jset, cond_true, cond_false, Nat.reduceBEq, jc1, List.take_succ_cons, List.take_zero, List.drop_succ_cons, List.drop_zero, List.reverse_cons, List.reverse_nil, List.nil_append, List.cons_append, List.length_cons, List.length_nil, Nat.zero_add, Nat.reduceAdd, beq_self_eq_true, true_and, and_true, Nat.reduceLeDiff, Nat.le_refl, Nat.zero_le, Bool.or_true, Bool.true_or, Bool.or_false, Bool.false_or, Bool.or_self]
              try simp (disch := omega) only [Nat.reduceEqDiff, Prod.mk.injEq, Option.some.injEq, true_and, and_true, exists_eq_left', exists_eq_right, exists_and_left, exists_const, true_or, or_true, ne_eq, not_true_eq_false, not_false_eq_true, reduceCtorEq, false_and, and_false, if_true, if_false, forall_const, true_implies, false_implies, implies_true, qI_wI, qI_wP, qP_wI, qP_wP, qN_wI, qN_wP, and_self, nI_add, pk_mul, nI_clamp, vp_in_nI, ng_1, ng_10, nI_eq32, cs_0, cs_1, cs_2, cs_3, cs_4, cs_5, cs_6, cs_7, cs_8, cs_9, cs_10, cs_11, cs_12, cs_13, cs_14, cs_15, cs_16, cs_17, cs_18, cs_19, cs_20, cs_21, cs_22, cs_23, cs_24, cs_25, cs_26, cs_27, cs_28, cs_29, cs_30, cs_31, cs_32, cs_33, cs_34, cs_35, cs_36, cs_37, cs_38, cs_39, cs_40, cs_41, cs_42, cs_43, cs_44, cs_45, cs_46, cs_47, cs_48, cs_49, cs_50, cs_51, cs_52, cs_53, cs_54, cs_55, cs_56, cs_57, cs_58, cs_59, cs_60, cs_61, cs_62, cs_63, cs_64, cs_97, cs_100, cs_122, cs_200, cs_300, cs_448, cs_1000, al_11, al_12, al_13, al_14, al_15, al_16, al_17, al_18, al_19, al_20, al_21, al_22, al_23, al_24, al_25, al_26, al_27, al_28, al_29, al_30, al_31, al_32, al_33, al_34, al_35, al_36, al_37, al_38, al_39, al_40, al_41, al_42, al_43, al_44, al_45, al_46, al_47, c21]
              have g := hQ.ok hM1
              first
                | exact g
                | exact ⟨by omega, by omega, g⟩
            refine ev_at hC (fun pc => pc == 71 || pc == 91) 9 71 (ls := [some v9, some (vI f), some (vI b), some (vI i), some (oR 4 (29 * f + b)), some (vI i)]) ?_
            try simp only [↓cb_X9_cast_0, ↓cb_X9_cast_23, ↓cb_X9_cast_34, ↓cb_X9_cast_44, ↓cb_X9_cast_68, ↓cb_X9_cast_71, ↓cb_X9_cast_91, ↓te_alen, ↓te_aload, ↓te_astore, ↓te_bin, ↓te_callV, ↓te_const, ↓te_getI, ↓te_getP, ↓te_goto, ↓te_icmp, ↓te_ifnonnull, ↓te_iinc, ↓te_iload, ↓te_iret, ↓te_istore, ↓te_throw, ↓evb_c, ↓evb_n, ↓evk_ap, ↓evm_cut, ↓evm_go, ↓evm_0, ↓jret_v, ↓jret_n, jget, jset, cond_true, cond_false, Nat.reduceBEq, jc1, List.take_succ_cons, List.take_zero, List.drop_succ_cons, List.drop_zero, List.reverse_cons, List.reverse_nil, List.nil_append, List.cons_append, List.length_cons, List.length_nil, Nat.zero_add, Nat.reduceAdd, beq_self_eq_true, true_and, and_true, Nat.reduceLeDiff, Nat.le_refl, Nat.zero_le, Bool.or_true, Bool.true_or, Bool.or_false, Bool.false_or, Bool.or_self]
            try simp (disch := omega) only [Nat.reduceEqDiff, Prod.mk.injEq, Option.some.injEq, true_and, and_true, exists_eq_left', exists_eq_right, exists_and_left, exists_const, true_or, or_true, ne_eq, not_true_eq_false, not_false_eq_true, reduceCtorEq, false_and, and_false, if_true, if_false, forall_const, true_implies, false_implies, implies_true, qI_wI, qI_wP, qP_wI, qP_wP, qN_wI, qN_wP, and_self, nI_add, pk_mul, nI_clamp, vp_in_nI, ng_1, ng_10, nI_eq32, cs_0, cs_1, cs_2, cs_3, cs_4, cs_5, cs_6, cs_7, cs_8, cs_9, cs_10, cs_11, cs_12, cs_13, cs_14, cs_15, cs_16, cs_17, cs_18, cs_19, cs_20, cs_21, cs_22, cs_23, cs_24, cs_25, cs_26, cs_27, cs_28, cs_29, cs_30, cs_31, cs_32, cs_33, cs_34, cs_35, cs_36, cs_37, cs_38, cs_39, cs_40, cs_41, cs_42, cs_43, cs_44, cs_45, cs_46, cs_47, cs_48, cs_49, cs_50, cs_51, cs_52, cs_53, cs_54, cs_55, cs_56, cs_57, cs_58, cs_59, cs_60, cs_61, cs_62, cs_63, cs_64, cs_97, cs_100, cs_122, cs_200, cs_300, cs_448, cs_1000, al_11, al_12, al_13, al_14, al_15, al_16, al_17, al_18, al_19, al_20, al_21, al_22, al_23, al_24, al_25, al_26, al_27, al_28, al_29, al_30, al_31, al_32, al_33, al_34, al_35, al_36, al_37, al_38, al_39, al_40, al_41, al_42, al_43, al_44, al_45, al_46, al_47, nI_leI]
            first
              | exact k91
              | exact ⟨fun _ => k91, fun z => absurd (Nat.le_refl _) z⟩
          | succ d ih =>
            intro i M1 S1 q1 hM1 hW1 h01 q2 q3
            refine ev_at hC (fun pc => pc == 71 || pc == 91) 9 71 (ls := [some v9, some (vI f), some (vI b), some (vI n), some (oR 4 (29 * f + b)), some (vI i)]) ?_
            try simp only [↓cb_X9_cast_0, ↓cb_X9_cast_23, ↓cb_X9_cast_34, ↓cb_X9_cast_44, ↓cb_X9_cast_68, ↓cb_X9_cast_71, ↓cb_X9_cast_91, ↓te_alen, ↓te_aload, ↓te_astore, ↓te_bin, ↓te_callV, ↓te_const, ↓te_getI, ↓te_getP, ↓te_goto, ↓te_icmp, ↓te_ifnonnull, ↓te_iinc, ↓te_iload, ↓te_iret, ↓te_istore, ↓te_throw, ↓evb_c, ↓evb_n, ↓evk_ap, ↓evm_cut, ↓evm_go, ↓evm_0, ↓jret_v, ↓jret_n, jget, jset, cond_true, cond_false, Nat.reduceBEq, jc1, List.take_succ_cons, List.take_zero, List.drop_succ_cons, List.drop_zero, List.reverse_cons, List.reverse_nil, List.nil_append, List.cons_append, List.length_cons, List.length_nil, Nat.zero_add, Nat.reduceAdd, beq_self_eq_true, true_and, and_true, Nat.reduceLeDiff, Nat.le_refl, Nat.zero_le, Bool.or_true, Bool.true_or, Bool.or_false, Bool.false_or, Bool.or_self]
            try simp (disch := omega) only [Nat.reduceEqDiff, Prod.mk.injEq, Option.some.injEq, true_and, and_true, exists_eq_left', exists_eq_right, exists_and_left, exists_const, true_or, or_true, ne_eq, not_true_eq_false, not_false_eq_true, reduceCtorEq, false_and, and_false, if_true, if_false, forall_const, true_implies, false_implies, implies_true, qI_wI, qI_wP, qP_wI, qP_wP, qN_wI, qN_wP, and_self, nI_add, pk_mul, nI_clamp, vp_in_nI, ng_1, ng_10, nI_eq32, cs_0, cs_1, cs_2, cs_3, cs_4, cs_5, cs_6, cs_7, cs_8, cs_9, cs_10, cs_11, cs_12, cs_13, cs_14, cs_15, cs_16, cs_17, cs_18, cs_19, cs_20, cs_21, cs_22, cs_23, cs_24, cs_25, cs_26, cs_27, cs_28, cs_29, cs_30, cs_31, cs_32, cs_33, cs_34, cs_35, cs_36, cs_37, cs_38, cs_39, cs_40, cs_41, cs_42, cs_43, cs_44, cs_45, cs_46, cs_47, cs_48, cs_49, cs_50, cs_51, cs_52, cs_53, cs_54, cs_55, cs_56, cs_57, cs_58, cs_59, cs_60, cs_61, cs_62, cs_63, cs_64, cs_97, cs_100, cs_122, cs_200, cs_300, cs_448, cs_1000, al_11, al_12, al_13, al_14, al_15, al_16, al_17, al_18, al_19, al_20, al_21, al_22, al_23, al_24, al_25, al_26, al_27, al_28, al_29, al_30, al_31, al_32, al_33, al_34, al_35, al_36, al_37, al_38, al_39, al_40, al_41, al_42, al_43, al_44, al_45, al_46, al_47, nI_leI]
            refine ⟨fun z => absurd z (by omega), fun _ => ⟨by omega, by omega, ?_⟩⟩
            refine cc_castOne G hM1 hW1 h01 (by omega) (by omega) (by omega) (fun M2 hM2 => ?_)
            try simp only [↓cb_X9_cast_0, ↓cb_X9_cast_23, ↓cb_X9_cast_34, ↓cb_X9_cast_44, ↓cb_X9_cast_68, ↓cb_X9_cast_71, ↓cb_X9_cast_91, ↓te_alen, ↓te_aload, ↓te_astore, ↓te_bin, ↓te_callV, ↓te_const, ↓te_getI, ↓te_getP, ↓te_goto, ↓te_icmp, ↓te_ifnonnull, ↓te_iinc, ↓te_iload, ↓te_iret, ↓te_istore, ↓te_throw, ↓evb_c, ↓evb_n, ↓evk_ap, ↓evm_cut, ↓evm_go, ↓evm_0, ↓jret_v, ↓jret_n, jget, jset, cond_true, cond_false, Nat.reduceBEq, jc1, List.take_succ_cons, List.take_zero, List.drop_succ_cons, List.drop_zero, List.reverse_cons, List.reverse_nil, List.nil_append, List.cons_append, List.length_cons, List.length_nil, Nat.zero_add, Nat.reduceAdd, beq_self_eq_true, true_and, and_true, Nat.reduceLeDiff, Nat.le_refl, Nat.zero_le, Bool.or_true, Bool.true_or, Bool.or_false, Bool.false_or, Bool.or_self]
            try simp (disch := omega) only [Nat.reduceEqDiff, Prod.mk.injEq, Option.some.injEq, true_and, and_true, exists_eq_left', exists_eq_right, exists_and_left, exists_const, true_or, or_true, ne_eq, not_true_eq_false, not_false_eq_true, reduceCtorEq, false_and, and_false, if_true, if_false, forall_const, true_implies, false_implies, implies_true, qI_wI, qI_wP, qP_wI, qP_wP, qN_wI, qN_wP, and_self, nI_add, pk_mul, nI_clamp, vp_in_nI, ng_1, ng_10, nI_eq32, cs_0, cs_1, cs_2, cs_3, cs_4, cs_5, cs_6, cs_7, cs_8, cs_9, cs_10, cs_11, cs_12, cs_13, cs_14, cs_15, cs_16, cs_17, cs_18, cs_19, cs_20, cs_21, cs_22, cs_23, cs_24, cs_25, cs_26, cs_27, cs_28, cs_29, cs_30, cs_31, cs_32, cs_33, cs_34, cs_35, cs_36, cs_37, cs_38, cs_39, cs_40, cs_41, cs_42, cs_43, cs_44, cs_45, cs_46, cs_47, cs_48, cs_49, cs_50, cs_51, cs_52, cs_53, cs_54, cs_55, cs_56, cs_57, cs_58, cs_59, cs_60, cs_61, cs_62, cs_63, cs_64, cs_97, cs_100, cs_122, cs_200, cs_300, cs_448, cs_1000, al_11, al_12, al_13, al_14, al_15, al_16, al_17, al_18, al_19, al_20, al_21, al_22, al_23, al_24, al_25, al_26, al_27, al_28, al_29, al_30, al_31, al_32, al_33, al_34, al_35, al_36, al_37, al_38, al_39, al_40, al_41, al_42, al_43, al_44, al_45, al_46, al_47]
            exact ih (i + 1) M2 _ (by omega) hM2 (hW1.castOne (by omega) (by omega)) (h01.castOne _) (by rw [castOne_1]; omega) q3
        refine ev_at hC (fun pc => pc == 71) 9 68 (ls := [some v9, some (vI f), some (vI b), some (vI n), some (oR 4 (29 * f + b)), none]) ?_
        try simp only [↓cb_X9_cast_0, ↓cb_X9_cast_23, ↓cb_X9_cast_34, ↓cb_X9_cast_44, ↓cb_X9_cast_68, ↓cb_X9_cast_71, ↓cb_X9_cast_91, ↓te_alen, ↓te_aload, ↓te_astore, ↓te_bin, ↓te_callV, ↓te_const, ↓te_getI, ↓te_getP, ↓te_goto, ↓te_icmp, ↓te_ifnonnull, ↓te_iinc, ↓te_iload, ↓te_iret, ↓te_istore, ↓te_throw, ↓evb_c, ↓evb_n, ↓evk_ap, ↓evm_cut, ↓evm_go, ↓evm_0, ↓jret_v, ↓jret_n, jget, jset, cond_true, cond_false, Nat.reduceBEq, jc1, List.take_succ_cons, List.take_zero, List.drop_succ_cons, List.drop_zero, List.reverse_cons, List.reverse_nil, List.nil_append, List.cons_append, List.length_cons, List.length_nil, Nat.zero_add, Nat.reduceAdd, beq_self_eq_true, true_and, and_true, Nat.reduceLeDiff, Nat.le_refl, Nat.zero_le, Bool.or_true, Bool.true_or, Bool.or_false, Bool.false_or, Bool.or_self]
        try simp (disch := omega) only [Nat.reduceEqDiff, Prod.mk.injEq, Option.some.injEq, true_and, and_true, exists_eq_left', exists_eq_right, exists_and_left, exists_const, true_or, or_true, ne_eq, not_true_eq_false, not_false_eq_true, reduceCtorEq, false_and, and_false, if_true, if_false, forall_const, true_implies, false_implies, implies_true, qI_wI, qI_wP, qP_wI, qP_wP, qN_wI, qN_wP, and_self, nI_add, pk_mul, nI_clamp, vp_in_nI, ng_1, ng_10, nI_eq32, cs_0, cs_1, cs_2, cs_3, cs_4, cs_5, cs_6, cs_7, cs_8, cs_9, cs_10, cs_11, cs_12, cs_13, cs_14, cs_15, cs_16, cs_17, cs_18, cs_19, cs_20, cs_21, cs_22, cs_23, cs_24, cs_25, cs_26, cs_27, cs_28, cs_29, cs_30, cs_31, cs_32, cs_33, cs_34, cs_35, cs_36, cs_37, cs_38, cs_39, cs_40, cs_41, cs_42, cs_43, cs_44, cs_45, cs_46, cs_47, cs_48, cs_49, cs_50, cs_51, cs_52, cs_53, cs_54, cs_55, cs_56, cs_57, cs_58, cs_59, cs_60, cs_61, cs_62, cs_63, cs_64, cs_97, cs_100, cs_122, cs_200, cs_300, cs_448, cs_1000, al_11, al_12, al_13, al_14, al_15, al_16, al_17, al_18, al_19, al_20, al_21, al_22, al_23, al_24, al_25, al_26, al_27, al_28, al_29, al_30, al_31, al_32, al_33, al_34, al_35, al_36, al_37, al_38, al_39, al_40, al_41, al_42, al_43, al_44, al_45, al_46, al_47]
        exact key n 0 M S (Nat.zero_add _) hM hW h0 rfl rfl
      refine ev_at hC (fun pc => pc == 68) 9 44 (ls := [some v9, some (vI f), some (vI b), some (vI n), some (oR 4 (29 * f + b)), none]) ?_
      try simp only [↓cb_X9_cast_0, ↓cb_X9_cast_23, ↓cb_X9_cast_34, ↓cb_X9_cast_44, ↓cb_X9_cast_68, ↓cb_X9_cast_71, ↓cb_X9_cast_91, ↓te_alen, ↓te_aload, ↓te_astore, ↓te_bin, ↓te_callV, ↓te_const, ↓te_getI, ↓te_getP, ↓te_goto, ↓te_icmp, ↓te_ifnonnull, ↓te_iinc, ↓te_iload, ↓te_iret, ↓te_istore, ↓te_throw, ↓evb_c, ↓evb_n, ↓evk_ap, ↓evm_cut, ↓evm_go, ↓evm_0, ↓jret_v, ↓jret_n, jget, jset, cond_true, cond_false, Nat.reduceBEq, jc1, List.take_succ_cons, List.take_zero, List.drop_succ_cons, List.drop_zero, List.reverse_cons, List.reverse_nil, List.nil_append, List.cons_append, List.length_cons, List.length_nil, Nat.zero_add, Nat.reduceAdd, beq_self_eq_true, true_and, and_true, Nat.reduceLeDiff, Nat.le_refl, Nat.zero_le, Bool.or_true, Bool.true_or, Bool.or_false, Bool.false_or, Bool.or_self]
      try simp (disch := omega) only [Nat.reduceEqDiff, Prod.mk.injEq, Option.some.injEq, true_and, and_true, exists_eq_left', exists_eq_right, exists_and_left, exists_const, true_or, or_true, ne_eq, not_true_eq_false, not_false_eq_true, reduceCtorEq, false_and, and_false, if_true, if_false, forall_const, true_implies, false_implies, implies_true, qI_wI, qI_wP, qP_wI, qP_wP, qN_wI, qN_wP, and_self, nI_add, pk_mul, nI_clamp, vp_in_nI, ng_1, ng_10, nI_eq32, cs_0, cs_1, cs_2, cs_3, cs_4, cs_5, cs_6, cs_7, cs_8, cs_9, cs_10, cs_11, cs_12, cs_13, cs_14, cs_15, cs_16, cs_17, cs_18, cs_19, cs_20, cs_21, cs_22, cs_23, cs_24, cs_25, cs_26, cs_27, cs_28, cs_29, cs_30, cs_31, cs_32, cs_33, cs_34, cs_35, cs_36, cs_37, cs_38, cs_39, cs_40, cs_41, cs_42, cs_43, cs_44, cs_45, cs_46, cs_47, cs_48, cs_49, cs_50, cs_51, cs_52, cs_53, cs_54, cs_55, cs_56, cs_57, cs_58, cs_59, cs_60, cs_61, cs_62, cs_63, cs_64, cs_97, cs_100, cs_122, cs_200, cs_300, cs_448, cs_1000, al_11, al_12, al_13, al_14, al_15, al_16, al_17, al_18, al_19, al_20, al_21, al_22, al_23, al_24, al_25, al_26, al_27, al_28, al_29, al_30, al_31, al_32, al_33, al_34, al_35, al_36, al_37, al_38, al_39, al_40, al_41, al_42, al_43, al_44, al_45, al_46, al_47, b1, c2, nI_leI]
      refine ⟨fun q => k68 (by omega), fun q => ?_⟩
      rw [if_pos (by omega)] at hQ
      exact hQ.no (by omega) hM
    have k23 : Wn 23 [some v9, some (vI f), some (vI b), some (.inl z), some (oR 4 (29 * f + b)), none] [] M 0 0 := by
      refine ev_at hC (fun pc => pc == 34 || pc == 44) 9 23 (ls := [some v9, some (vI f), some (vI b), some (.inl z), some (oR 4 (29 * f + b)), none]) ?_
      try simp only [↓cb_X9_cast_0, ↓cb_X9_cast_23, ↓cb_X9_cast_34, ↓cb_X9_cast_44, ↓cb_X9_cast_68, ↓cb_X9_cast_71, ↓cb_X9_cast_91, ↓te_alen, ↓te_aload, ↓te_astore, ↓te_bin, ↓te_callV, ↓te_const, ↓te_getI, ↓te_getP, ↓te_goto, ↓te_icmp, ↓te_ifnonnull, ↓te_iinc, ↓te_iload, ↓te_iret, ↓te_istore, ↓te_throw, ↓evb_c, ↓evb_n, ↓evk_ap, ↓evm_cut, ↓evm_go, ↓evm_0, ↓jret_v, ↓jret_n, jget, jset, cond_true, cond_false, Nat.reduceBEq, jc1, List.take_succ_cons, List.take_zero, List.drop_succ_cons, List.drop_zero, List.reverse_cons, List.reverse_nil, List.nil_append, List.cons_append, List.length_cons, List.length_nil, Nat.zero_add, Nat.reduceAdd, beq_self_eq_true, true_and, and_true, Nat.reduceLeDiff, Nat.le_refl, Nat.zero_le, Bool.or_true, Bool.true_or, Bool.or_false, Bool.false_or, Bool.or_self]
      refine ⟨fun q => k34 (fun c => absurd c.1 (Int32.not_le.mpr q)), fun q => ⟨fun q2 => k44 ⟨Int32.not_lt.mp q, q2⟩, fun q2 => k34 (fun c => q2 c.2)⟩⟩
    try simp only [↓cb_X9_cast_0, ↓cb_X9_cast_23, ↓cb_X9_cast_34, ↓cb_X9_cast_44, ↓cb_X9_cast_68, ↓cb_X9_cast_71, ↓cb_X9_cast_91, ↓te_alen, ↓te_aload, ↓te_astore, ↓te_bin, ↓te_callV, ↓te_const, ↓te_getI, ↓te_getP, ↓te_goto, ↓te_icmp, ↓te_ifnonnull, ↓te_iinc, ↓te_iload, ↓te_iret, ↓te_istore, ↓te_throw, ↓evb_c, ↓evb_n, ↓evk_ap, ↓evm_cut, ↓evm_go, ↓evm_0, ↓jret_v, ↓jret_n, jget, jset, cond_true, cond_false, Nat.reduceBEq, jc1, List.take_succ_cons, List.take_zero, List.drop_succ_cons, List.drop_zero, List.reverse_cons, List.reverse_nil, List.nil_append, List.cons_append, List.length_cons, List.length_nil, Nat.zero_add, Nat.reduceAdd, beq_self_eq_true, true_and, and_true, Nat.reduceLeDiff, Nat.le_refl, Nat.zero_le, Bool.or_true, Bool.true_or, Bool.or_false, Bool.false_or, Bool.or_self]
    try simp (disch := omega) only [Nat.reduceEqDiff, Prod.mk.injEq, Option.some.injEq, true_and, and_true, exists_eq_left', exists_eq_right, exists_and_left, exists_const, true_or, or_true, ne_eq, not_true_eq_false, not_false_eq_true, reduceCtorEq, false_and, and_false, if_true, if_false, forall_const, true_implies, false_implies, implies_true, qI_wI, qI_wP, qP_wI, qP_wP, qN_wI, qN_wP, and_self, nI_add, pk_mul, nI_clamp, vp_in_nI, ng_1, ng_10, nI_eq32, cs_0, cs_1, cs_2, cs_3, cs_4, cs_5, cs_6, cs_7, cs_8, cs_9, cs_10, cs_11, cs_12, cs_13, cs_14, cs_15, cs_16, cs_17, cs_18, cs_19, cs_20, cs_21, cs_22, cs_23, cs_24, cs_25, cs_26, cs_27, cs_28, cs_29, cs_30, cs_31, cs_32, cs_33, cs_34, cs_35, cs_36, cs_37, cs_38, cs_39, cs_40, cs_41, cs_42, cs_43, cs_44, cs_45, cs_46, cs_47, cs_48, cs_49, cs_50, cs_51, cs_52, cs_53, cs_54, cs_55, cs_56, cs_57, cs_58, cs_59, cs_60, cs_61, cs_62, cs_63, cs_64, cs_97, cs_100, cs_122, cs_200, cs_300, cs_448, cs_1000, al_11, al_12, al_13, al_14, al_15, al_16, al_17, al_18, al_19, al_20, al_21, al_22, al_23, al_24, al_25, al_26, al_27, al_28, al_29, al_30, al_31, al_32, al_33, al_34, al_35, al_36, al_37, al_38, al_39, al_40, al_41, al_42, al_43, al_44, al_45, al_46, al_47]
    exact k23
  · rw [if_neg h1] at hQ ⊢
    try simp only [↓cb_X9_cast_0, ↓cb_X9_cast_23, ↓cb_X9_cast_34, ↓cb_X9_cast_44, ↓cb_X9_cast_68, ↓cb_X9_cast_71, ↓cb_X9_cast_91, ↓te_alen, ↓te_aload, ↓te_astore, ↓te_bin, ↓te_callV, ↓te_const, ↓te_getI, ↓te_getP, ↓te_goto, ↓te_icmp, ↓te_ifnonnull, ↓te_iinc, ↓te_iload, ↓te_iret, ↓te_istore, ↓te_throw, ↓evb_c, ↓evb_n, ↓evk_ap, ↓evm_cut, ↓evm_go, ↓evm_0, ↓jret_v, ↓jret_n, jget, jset, cond_true, cond_false, Nat.reduceBEq, jc1, List.take_succ_cons, List.take_zero, List.drop_succ_cons, List.drop_zero, List.reverse_cons, List.reverse_nil, List.nil_append, List.cons_append, List.length_cons, List.length_nil, Nat.zero_add, Nat.reduceAdd, beq_self_eq_true, true_and, and_true, Nat.reduceLeDiff, Nat.le_refl, Nat.zero_le, Bool.or_true, Bool.true_or, Bool.or_false, Bool.false_or, Bool.or_self]
    try simp (disch := omega) only [Nat.reduceEqDiff, Prod.mk.injEq, Option.some.injEq, true_and, and_true, exists_eq_left', exists_eq_right, exists_and_left, exists_const, true_or, or_true, ne_eq, not_true_eq_false, not_false_eq_true, reduceCtorEq, false_and, and_false, if_true, if_false, forall_const, true_implies, false_implies, implies_true, qI_wI, qI_wP, qP_wI, qP_wP, qN_wI, qN_wP, and_self, nI_add, pk_mul, nI_clamp, vp_in_nI, ng_1, ng_10, nI_eq32, cs_0, cs_1, cs_2, cs_3, cs_4, cs_5, cs_6, cs_7, cs_8, cs_9, cs_10, cs_11, cs_12, cs_13, cs_14, cs_15, cs_16, cs_17, cs_18, cs_19, cs_20, cs_21, cs_22, cs_23, cs_24, cs_25, cs_26, cs_27, cs_28, cs_29, cs_30, cs_31, cs_32, cs_33, cs_34, cs_35, cs_36, cs_37, cs_38, cs_39, cs_40, cs_41, cs_42, cs_43, cs_44, cs_45, cs_46, cs_47, cs_48, cs_49, cs_50, cs_51, cs_52, cs_53, cs_54, cs_55, cs_56, cs_57, cs_58, cs_59, cs_60, cs_61, cs_62, cs_63, cs_64, cs_97, cs_100, cs_122, cs_200, cs_300, cs_448, cs_1000, al_11, al_12, al_13, al_14, al_15, al_16, al_17, al_18, al_19, al_20, al_21, al_22, al_23, al_24, al_25, al_26, al_27, al_28, al_29, al_30, al_31, al_32, al_33, al_34, al_35, al_36, al_37, al_38, al_39, al_40, al_41, al_42, al_43, al_44, al_45, al_46, al_47]
    exact hQ.no (by omega) hM

