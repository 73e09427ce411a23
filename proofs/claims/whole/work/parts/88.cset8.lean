/-! THE CLASS: set -/
theorem CX_note {M0 M : jx_M} {S : jS} {p : Nat → Nat} {a b c d : Nat} (hM : CX M0 M S p) : CX M0 (mNote M a b c d) S p := by
  obtain ⟨⟨hB, hT, hS, hF, hH, hPr, hO, hK, hL⟩, hk⟩ := hM
  have iI : ∀ r, ¬ r = 0 → sI M (mNote M a b c d) r := fun r hr i k => by
    unfold mNote
    rw [qI_wI, if_neg (fun q => hr q.1), qI_wI, if_neg (fun q => hr q.1), qI_wI, if_neg (fun q => hr q.1), qI_wI, if_neg (fun q => hr q.1)]
  have iP : ∀ r, sP M (mNote M a b c d) r := fun r i k => rfl
  exact ⟨⟨hB.fr (fun _ => rfl) (fun k _ => iI 9 (by omega) 0 k) (iP 7) (iP 8) (iP 2) (iP 5) rfl rfl rfl rfl rfl, hT.fr (iI 8 (by omega)) (iI 21 (by omega)) rfl (fun _ _ => rfl), hS.fr (iI 24 (by omega)) (fun _ => rfl), hF.fr (iP 14) (iI 1 (by omega)) (fun _ _ => rfl) (fun _ _ => rfl), hH.fr (iI 2 (by omega)) (iP 22) rfl (fun _ _ => rfl), hPr.fr (iI 5 (by omega)) (iI 23 (by omega)) rfl (fun _ _ => rfl), hO.fr (iP 12) (iI 6 (by omega)) rfl (fun _ _ _ _ => rfl), hK.fr (iP 11) (iI 4 (by omega)) (iP 4) (fun _ _ _ _ => ⟨rfl, rfl⟩) rfl (fun _ _ => rfl) (fun _ _ _ _ => rfl) (fun _ _ => rfl) (fun _ _ => Iff.rfl), hL.fr (iI 3 (by omega)) (iP 3) (iP 13) (iP 16) (iI 17 (by omega)) (iI 18 (by omega)) (iI 19 (by omega)) (iI 20 (by omega)) (fun _ => rfl) rfl (fun _ _ _ => rfl)⟩, (((hk.wI (by omega)).wI (by omega)).wI (by omega)).wI (by omega)⟩
def mBeg (M : jx_M) (o f la : Nat) : jx_M := wP (wI (wI (wI (wI M 3 o 5 (nI f)) 3 o 6 (nI 0)) 3 o 7 (nI 0)) 3 o 8 (nI la)) 3 o 9 none
set_option maxRecDepth 20000 in
set_option maxHeartbeats 20000000 in
theorem cc_begin (G : jx_G) {M : jx_M} {Q : jx_O → jx_M → Prop} {o f la : Nat} (hla : la < 2) (hQ : Q (.inl none) (mBeg M o f la)) : Mt G m_X3_begin [oR 3 o, vI f, vI la] M Q := by
  refine Mt.of (sc_X3_begin G) (by decide +kernel) (jArgs.of rfl) (Nat.le_of_ble_eq_true rfl) (fun Wn hC => ?_)
  have e1 : nI la = nI 0 ∨ nI la = nI 1 := by rcases (show la = 0 ∨ la = 1 by omega) with q | q <;> subst q; exact Or.inl rfl; exact Or.inr rfl
  refine ev_at hC (fun pc => false) 9 0 (ls := [some (oR 3 o), some (vI f), some (vI la)]) ?_
  try simp only [↓cb_X3_begin_0, ↓te_aload, ↓te_const, ↓te_iload, ↓te_null, ↓te_putI, ↓te_putP, ↓te_putZ, ↓te_vret, ↓evb_c, ↓evb_n, ↓evk_ap, ↓evm_cut, ↓evm_go, ↓evm_0, ↓jret_v, ↓jret_n, jget, jset, cond_true, cond_false, Nat.reduceBEq, jc1, List.take_succ_cons, List.take_zero, List.drop_succ_cons, List.drop_zero, List.reverse_cons, List.reverse_nil, List.nil_append, List.cons_append, List.length_cons, List.length_nil, Nat.zero_add, Nat.reduceAdd, beq_self_eq_true, true_and, and_true, Nat.reduceLeDiff, Nat.le_refl, Nat.zero_le, Bool.or_true, Bool.true_or, Bool.or_false, Bool.false_or, Bool.or_self]
  try simp (disch := omega) only [Nat.reduceEqDiff, Prod.mk.injEq, Option.some.injEq, true_and, and_true, exists_eq_left', exists_eq_right, exists_and_left, exists_const, true_or, or_true, ne_eq, not_true_eq_false, not_false_eq_true, reduceCtorEq, false_and, and_false, if_true, if_false, forall_const, true_implies, false_implies, implies_true, qI_wI, qI_wP, qP_wI, qP_wP, qN_wI, qN_wP, and_self, nI_add, pk_mul, nI_clamp, vp_in_nI, ng_1, ng_10, nI_eq32, cs_0, cs_1, cs_2, cs_3, cs_4, cs_5, cs_6, cs_7, cs_8, cs_9, cs_10, cs_11, cs_12, cs_13, cs_14, cs_15, cs_16, cs_17, cs_18, cs_19, cs_20, cs_21, cs_22, cs_23, cs_24, cs_25, cs_26, cs_27, cs_28, cs_29, cs_30, cs_31, cs_32, cs_33, cs_34, cs_35, cs_36, cs_37, cs_38, cs_39, cs_40, cs_41, cs_42, cs_43, cs_44, cs_45, cs_46, cs_47, cs_48, cs_49, cs_50, cs_51, cs_52, cs_53, cs_54, cs_55, cs_56, cs_57, cs_58, cs_59, cs_60, cs_61, cs_62, cs_63, cs_64, cs_97, cs_100, cs_122, cs_200, cs_300, cs_448, cs_1000, al_11, al_12, al_13, al_14, al_15, al_16, al_17, al_18, al_19, al_20, al_21, al_22, al_23, al_24, al_25, al_26, al_27, al_28, al_29, al_30, al_31, al_32, al_33, al_34, al_35, al_36, al_37, al_38, al_39, al_40, al_41, al_42, al_43, al_44, al_45, al_46, al_47]
  first
    | exact hQ
    | exact ⟨e1, hQ⟩
    | exact ⟨by omega, hQ⟩
theorem spLast_lt (S : jS) (p f : Nat) : spLast S p f < 2 := by
  unfold spLast
  split
  · omega
  · unfold jb
    split <;> omega
/-- as a line begins -/
theorem IV_beg {M0 M : jx_M} {S : jS} {p : Nat → Nat} {f la : Nat} (hWf : Wf S) (hM : CX M0 M S p) (h12 : S 10 14 < 12) : IV M0 (mBeg M (p (S 10 14)) f la) S p (fun s => (qP M 6 s 6).getD 0) (S 10 14) f la (mBeg M (p (S 10 14)) f la) (spBeg S f) (spBlanks S 0) := by
  have hS := WS_beg hWf (f := f)
  have er : ∀ x y, ¬ (x = 46 ∨ (x = 10 ∧ (y = 0 ∨ 29 ≤ y)) ∨ ((x = 35 ∨ x = 38) ∧ y = S 10 14)) → spBeg S f x y = S x y := fun x y hxy => spBeg_row hxy
  have e35 : spBeg S f 35 (S 10 14) = 0 := by unfold spBeg; rw [sw_at, if_neg (by omega), sw_at, if_pos ⟨rfl, rfl⟩]
  have e38 : spBeg S f 38 (S 10 14) = 0 := by unfold spBeg; rw [sw_at, if_pos ⟨rfl, rfl⟩]
  have ev : vw (S 10 14) (spBeg S f) = spBeg S f := by unfold vw; rw [e35]; rfl
  have hM2 : CX M0 (mBeg M (p (S 10 14)) f la) S p := by
    refine ⟨hM.1.off (l := S 10 14) (Nat.le_refl _) h12 (fun r i c hc => ?_) (fun r i c hc => ?_) rfl, (((((hM.2.wI (by omega)).wI (by omega)).wI (by omega)).wI (by omega)).wP (by omega))⟩
    · unfold mBeg
      rw [qI_wP, qI_wI, if_neg (by omega), qI_wI, if_neg (by omega), qI_wI, if_neg (by omega), qI_wI, if_neg (by omega)]
    · unfold mBeg
      rw [qP_wP, if_neg (by omega), qP_wI, qP_wI, qP_wI, qP_wI]
  have hsl : SL S (spBeg S f) (S 10 14) := fun a b hab => er a b (by omega)
  refine ⟨⟨?_, hS⟩, ⟨?_, ?_, ?_, ?_, ?_⟩, fun j hj => by rw [e35] at hj; omega, fun g hg => by rw [e38] at hg; omega, ⟨fun q => by omega, fun q => Or.inl e38⟩, ⟨fun s => rfl, fun c => rfl⟩, fun a x hax => ?_⟩
  · rw [ev]
    exact ⟨hM2.1.sl hsl (Nat.le_refl _) (fun m hm => by have := (hWf.2.2.1 m hm).1; omega), hM2.2⟩
  · unfold mBeg
    rw [qI_wP, qI_wI, if_neg (by omega), qI_wI, if_neg (by omega), qI_wI, if_neg (by omega), qI_wI, if_pos ⟨rfl, rfl, rfl⟩]
  · unfold mBeg
    rw [qI_wP, qI_wI, if_neg (by omega), qI_wI, if_neg (by omega), qI_wI, if_pos ⟨rfl, rfl, rfl⟩, e35]
  · unfold mBeg
    rw [qI_wP, qI_wI, if_neg (by omega), qI_wI, if_pos ⟨rfl, rfl, rfl⟩, e38]
  · unfold mBeg
    rw [qI_wP, qI_wI, if_pos ⟨rfl, rfl, rfl⟩]
  · unfold mBeg
    rw [qP_wP, if_pos ⟨rfl, rfl, rfl⟩]
  · rw [e35]
    show vw (S 10 14) (spBeg S f) a x = _
    rw [ev]
    exact er a x (by omega)
theorem kp_set (G : jx_G) (hst : (gl G).stackTraces = false) {M0 M : jx_M} {S : jS} {p : Nat → Nat} {Q : jx_O → jx_M → Prop} {x : Int32} {bt : Nat} (hW : Wf S) (hbt : bt < 2) (hM : CX M0 M S p)
    (hQ1 : sf_setOk S x bt → ∀ M' p', CX M0 M' (spSetEnd (spSetR S (jn x) bt).2 (S 10 14) (jn x) (spTo S 0 (jn x))) p' → Q (.inl (some (.inl (sf_setR S x bt).2))) M')
    (hQ2 : ¬ sf_setOk S x bt → (sf_setR S x bt).1 = 0 → ∀ M', CX M0 M' S p → Q (.inl (some (.inl (sf_setR S x bt).2))) M')
    (hQ3 : ¬ (sf_setR S x bt).1 = 0 → ∀ M', CX M0 M' S p → Q (.inr (2 * (sf_setR S x bt).1 - 1)) M') : Mx G m_X9_set [v9, .inl x, vI bt] M Q := by
  refine Mx.of hst (sc_X9_set G) (by decide +kernel) (jArgs.of rfl) (Nat.le_of_ble_eq_true rfl) (fun Wn hC => ?_)
  have hj := jNo_v
  have hn := hW.1.1.1
  have hT := hW.1.1.2.1
  have hT60 := hT.1
  refine ev_at hC (fun pc => pc == 17) 9 0 (ls := [some v9, some (.inl x), some (vI bt), none, none]) ?_
  try simp only [↓cb_X9_set_0, ↓cb_X9_set_17, ↓cb_X9_set_56, ↓cb_X9_set_66, ↓cb_X9_set_113, ↓te_aldP, ↓te_alen, ↓te_aload, ↓te_astore, ↓te_bin, ↓te_call, ↓te_callV, ↓te_const, ↓te_dup, ↓te_getI, ↓te_getP, ↓te_icmp, ↓te_if, ↓te_iload, ↓te_iret, ↓te_istore, ↓te_putI, ↓te_throw, ↓evb_c, ↓evb_n, ↓evk_ap, ↓evm_cut, ↓evm_go, ↓evm_0, ↓jret_v, ↓jret_n, jget, jset, cond_true, cond_false, Nat.reduceBEq, jc1, List.take_succ_cons, List.take_zero, List.drop_succ_cons, List.drop_zero, List.reverse_cons, List.reverse_nil, List.nil_append, List.cons_append, List.length_cons, List.length_nil, Nat.zero_add, Nat.reduceAdd, beq_self_eq_true, true_and, and_true, Nat.reduceLeDiff, Nat.le_refl, Nat.zero_le, Bool.or_true, Bool.true_or, Bool.or_false, Bool.false_or, Bool.or_self]
  refine cc_isCase G ?_
  by_cases h1 : inR x 0 1
  · rw [jb_t h1]
    obtain ⟨h5, hx⟩ := in_of (n := 1) (by omega) h1
    have r1 : sf_setR S x bt = if spNoSet S then (2, 0) else if (spSetR S (jn x) bt).1 = 0 then (0, nI (S 10 14)) else (0, nI 4294967286 - nI ((spSetR S (jn x) bt).1 - 1)) := by unfold sf_setR; rw [if_pos h1]
    have b4 := hM.1.1.1.2.2.2.1
    have b5 := hM.1.1.1.2.2.2.2.1
    have b6 := hM.1.1.2.2.1.2.1
    have b8 := hM.1.1.2.1.2.1
    have hTX : TXM M S := ⟨hM.1.2.1, hT, b8⟩
    have k17 : Wn 17 [some v9, some (.inl x), some (vI bt), none, none] [] M 0 0 := by
      generalize hf : jn x = f at *
      subst hx
      have hbad : spNoSet S → ∀ M2, CX M0 M2 S p → Wn 56 [some v9, some (vI f), some (vI bt), none, none] [] M2 0 0 := by
        intro q M2 hM2
        rw [if_pos q] at r1
        have g := hQ3 (by rw [r1]; omega) M2 hM2
        rw [r1] at g
        refine ev_at hC (fun pc => false) 9 56 (ls := [some v9, some (vI f), some (vI bt), none, none]) ?_
        try simp only [↓cb_X9_set_0, ↓cb_X9_set_17, ↓cb_X9_set_56, ↓cb_X9_set_66, ↓cb_X9_set_113, ↓te_aldP, ↓te_alen, ↓te_aload, ↓te_astore, ↓te_bin, ↓te_call, ↓te_callV, ↓te_const, ↓te_dup, ↓te_getI, ↓te_getP, ↓te_icmp, ↓te_if, ↓te_iload, ↓te_iret, ↓te_istore, ↓te_putI, ↓te_throw, ↓evb_c, ↓evb_n, ↓evk_ap, ↓evm_cut, ↓evm_go, ↓evm_0, ↓jret_v, ↓jret_n, jget, jset, cond_true, cond_false, Nat.reduceBEq, jc1, List.take_succ_cons, List.take_zero, List.drop_succ_cons, List.drop_zero, List.reverse_cons, List.reverse_nil, List.nil_append, List.cons_append, List.length_cons, List.length_nil, Nat.zero_add, Nat.reduceAdd, beq_self_eq_true, true_and, and_true, Nat.reduceLeDiff, Nat.le_refl, Nat.zero_le, Bool.or_true, Bool.true_or, Bool.or_false, Bool.false_or, Bool.or_self]
        try simp (disch := omega) only [Nat.reduceEqDiff, Prod.mk.injEq, Option.some.injEq, true_and, and_true, exists_eq_left', exists_eq_right, exists_and_left, exists_const, true_or, or_true, ne_eq, not_true_eq_false, not_false_eq_true, reduceCtorEq, false_and, and_false, if_true, if_false, forall_const, true_implies, false_implies, implies_true, qI_wI, qI_wP, qP_wI, qP_wP, qN_wI, qN_wP, and_self, nI_add, pk_mul, nI_clamp, vp_in_nI, ng_1, ng_10, nI_eq32, cs_0, cs_1, cs_2, cs_3, cs_4, cs_5, cs_6, cs_7, cs_8, cs_9, cs_10, cs_11, cs_12, cs_13, cs_14, cs_15, cs_16, cs_17, cs_18, cs_19, cs_20, cs_21, cs_22, cs_23, cs_24, cs_25, cs_26, cs_27, cs_28, cs_29, cs_30, cs_31, cs_32, cs_33, cs_34, cs_35, cs_36, cs_37, cs_38, cs_39, cs_40, cs_41, cs_42, cs_43, cs_44, cs_45, cs_46, cs_47, cs_48, cs_49, cs_50, cs_51, cs_52, cs_53, cs_54, cs_55, cs_56, cs_57, cs_58, cs_59, cs_60, cs_61, cs_62, cs_63, cs_64, cs_97, cs_100, cs_122, cs_200, cs_300, cs_448, cs_1000, al_11, al_12, al_13, al_14, al_15, al_16, al_17, al_18, al_19, al_20, al_21, al_22, al_23, al_24, al_25, al_26, al_27, al_28, al_29, al_30, al_31, al_32, al_33, al_34, al_35, al_36, al_37, al_38, al_39, al_40, al_41, al_42, al_43, al_44, al_45, al_46, al_47]
        exact g
      refine ev_at hC (fun pc => pc == 56 || pc == 66) 9 17 (ls := [some v9, some (vI f), some (vI bt), none, none]) ?_
      try simp only [↓cb_X9_set_0, ↓cb_X9_set_17, ↓cb_X9_set_56, ↓cb_X9_set_66, ↓cb_X9_set_113, ↓te_aldP, ↓te_alen, ↓te_aload, ↓te_astore, ↓te_bin, ↓te_call, ↓te_callV, ↓te_const, ↓te_dup, ↓te_getI, ↓te_getP, ↓te_icmp, ↓te_if, ↓te_iload, ↓te_iret, ↓te_istore, ↓te_putI, ↓te_throw, ↓evb_c, ↓evb_n, ↓evk_ap, ↓evm_cut, ↓evm_go, ↓evm_0, ↓jret_v, ↓jret_n, jget, jset, cond_true, cond_false, Nat.reduceBEq, jc1, List.take_succ_cons, List.take_zero, List.drop_succ_cons, List.drop_zero, List.reverse_cons, List.reverse_nil, List.nil_append, List.cons_append, List.length_cons, List.length_nil, Nat.zero_add, Nat.reduceAdd, beq_self_eq_true, true_and, and_true, Nat.reduceLeDiff, Nat.le_refl, Nat.zero_le, Bool.or_true, Bool.true_or, Bool.or_false, Bool.false_or, Bool.or_self]
      try simp (disch := omega) only [Nat.reduceEqDiff, Prod.mk.injEq, Option.some.injEq, true_and, and_true, exists_eq_left', exists_eq_right, exists_and_left, exists_const, true_or, or_true, ne_eq, not_true_eq_false, not_false_eq_true, reduceCtorEq, false_and, and_false, if_true, if_false, forall_const, true_implies, false_implies, implies_true, qI_wI, qI_wP, qP_wI, qP_wP, qN_wI, qN_wP, and_self, nI_add, pk_mul, nI_clamp, vp_in_nI, ng_1, ng_10, nI_eq32, cs_0, cs_1, cs_2, cs_3, cs_4, cs_5, cs_6, cs_7, cs_8, cs_9, cs_10, cs_11, cs_12, cs_13, cs_14, cs_15, cs_16, cs_17, cs_18, cs_19, cs_20, cs_21, cs_22, cs_23, cs_24, cs_25, cs_26, cs_27, cs_28, cs_29, cs_30, cs_31, cs_32, cs_33, cs_34, cs_35, cs_36, cs_37, cs_38, cs_39, cs_40, cs_41, cs_42, cs_43, cs_44, cs_45, cs_46, cs_47, cs_48, cs_49, cs_50, cs_51, cs_52, cs_53, cs_54, cs_55, cs_56, cs_57, cs_58, cs_59, cs_60, cs_61, cs_62, cs_63, cs_64, cs_97, cs_100, cs_122, cs_200, cs_300, cs_448, cs_1000, al_11, al_12, al_13, al_14, al_15, al_16, al_17, al_18, al_19, al_20, al_21, al_22, al_23, al_24, al_25, al_26, al_27, al_28, al_29, al_30, al_31, al_32, al_33, al_34, al_35, al_36, al_37, al_38, al_39, al_40, al_41, al_42, al_43, al_44, al_45, al_46, al_47, b4, b5, b6]
      refine cc_cutAt G hTX (Nat.zero_le _) (by omega) hn.2.2.2.2.1 ?_
      have hM1 : CX M0 (mNote M (spBlanks S 0) (spTo S 0 f) (spSplit S 0 f) (spLast S 0 f)) S p := CX_note hM
      have d0 : qI (mNote M (spBlanks S 0) (spTo S 0 f) (spSplit S 0 f) (spLast S 0 f)) 0 0 0 = nI (spBlanks S 0) := by
        unfold mNote
        rw [qI_wI, if_neg (by omega), qI_wI, if_neg (by omega), qI_wI, if_neg (by omega), qI_wI, if_pos ⟨rfl, rfl, rfl⟩]
      have d1 : qI (mNote M (spBlanks S 0) (spTo S 0 f) (spSplit S 0 f) (spLast S 0 f)) 0 0 1 = nI (spTo S 0 f) := by
        unfold mNote
        rw [qI_wI, if_neg (by omega), qI_wI, if_neg (by omega), qI_wI, if_pos ⟨rfl, rfl, rfl⟩]
      have d2 : qI (mNote M (spBlanks S 0) (spTo S 0 f) (spSplit S 0 f) (spLast S 0 f)) 0 0 2 = nI (spSplit S 0 f) := by
        unfold mNote
        rw [qI_wI, if_neg (by omega), qI_wI, if_pos ⟨rfl, rfl, rfl⟩]
      have d3 : qI (mNote M (spBlanks S 0) (spTo S 0 f) (spSplit S 0 f) (spLast S 0 f)) 0 0 3 = nI (spLast S 0 f) := by
        unfold mNote
        rw [qI_wI, if_pos ⟨rfl, rfl, rfl⟩]
      generalize mNote M (spBlanks S 0) (spTo S 0 f) (spSplit S 0 f) (spLast S 0 f) = M1 at *
      have b51 := hM1.1.1.1.2.2.2.2.1
      have b81 := hM1.1.1.2.2.1.2.2.1
      have b71 := hM1.1.1.1.2.2.2.2.2.1
      have hfr60 := spBlanks_le S (k := 0) (Nat.zero_le _)
      try simp only [↓cb_X9_set_0, ↓cb_X9_set_17, ↓cb_X9_set_56, ↓cb_X9_set_66, ↓cb_X9_set_113, ↓te_aldP, ↓te_alen, ↓te_aload, ↓te_astore, ↓te_bin, ↓te_call, ↓te_callV, ↓te_const, ↓te_dup, ↓te_getI, ↓te_getP, ↓te_icmp, ↓te_if, ↓te_iload, ↓te_iret, ↓te_istore, ↓te_putI, ↓te_throw, ↓evb_c, ↓evb_n, ↓evk_ap, ↓evm_cut, ↓evm_go, ↓evm_0, ↓jret_v, ↓jret_n, jget, jset, cond_true, cond_false, Nat.reduceBEq, jc1, List.take_succ_cons, List.take_zero, List.drop_succ_cons, List.drop_zero, List.reverse_cons, List.reverse_nil, List.nil_append, List.cons_append, List.length_cons, List.length_nil, Nat.zero_add, Nat.reduceAdd, beq_self_eq_true, true_and, and_true, Nat.reduceLeDiff, Nat.le_refl, Nat.zero_le, Bool.or_true, Bool.true_or, Bool.or_false, Bool.false_or, Bool.or_self]
      try simp (disch := omega) only [Nat.reduceEqDiff, Prod.mk.injEq, Option.some.injEq, true_and, and_true, exists_eq_left', exists_eq_right, exists_and_left, exists_const, true_or, or_true, ne_eq, not_true_eq_false, not_false_eq_true, reduceCtorEq, false_and, and_false, if_true, if_false, forall_const, true_implies, false_implies, implies_true, qI_wI, qI_wP, qP_wI, qP_wP, qN_wI, qN_wP, and_self, nI_add, pk_mul, nI_clamp, vp_in_nI, ng_1, ng_10, nI_eq32, cs_0, cs_1, cs_2, cs_3, cs_4, cs_5, cs_6, cs_7, cs_8, cs_9, cs_10, cs_11, cs_12, cs_13, cs_14, cs_15, cs_16, cs_17, cs_18, cs_19, cs_20, cs_21, cs_22, cs_23, cs_24, cs_25, cs_26, cs_27, cs_28, cs_29, cs_30, cs_31, cs_32, cs_33, cs_34, cs_35, cs_36, cs_37, cs_38, cs_39, cs_40, cs_41, cs_42, cs_43, cs_44, cs_45, cs_46, cs_47, cs_48, cs_49, cs_50, cs_51, cs_52, cs_53, cs_54, cs_55, cs_56, cs_57, cs_58, cs_59, cs_60, cs_61, cs_62, cs_63, cs_64, cs_97, cs_100, cs_122, cs_200, cs_300, cs_448, cs_1000, al_11, al_12, al_13, al_14, al_15, al_16, al_17, al_18, al_19, al_20, al_21, al_22, al_23, al_24, al_25, al_26, al_27, al_28, al_29, al_30, al_31, al_32, al_33, al_34, al_35, al_36, al_37, al_38, al_39, al_40, al_41, al_42, al_43, al_44, al_45, al_46, al_47, b51]
      by_cases hne : spBlanks S 0 = spWord S (spBlanks S 0)
      · have hto : spTo S 0 f = spBlanks S 0 := by unfold spTo; rw [if_pos hne]; exact hne.symm
        refine cc_isEmpty G (f := spBlanks S 0) (t := spTo S 0 f) (by omega) (by omega) d0 d1 ?_
        rw [jb_t (by omega)]
        have g := hbad (Or.inl hne) M1 hM1
        try simp only [↓cb_X9_set_0, ↓cb_X9_set_17, ↓cb_X9_set_56, ↓cb_X9_set_66, ↓cb_X9_set_113, ↓te_aldP, ↓te_alen, ↓te_aload, ↓te_astore, ↓te_bin, ↓te_call, ↓te_callV, ↓te_const, ↓te_dup, ↓te_getI, ↓te_getP, ↓te_icmp, ↓te_if, ↓te_iload, ↓te_iret, ↓te_istore, ↓te_putI, ↓te_throw, ↓evb_c, ↓evb_n, ↓evk_ap, ↓evm_cut, ↓evm_go, ↓evm_0, ↓jret_v, ↓jret_n, jget, jset, cond_true, cond_false, Nat.reduceBEq, jc1, List.take_succ_cons, List.take_zero, List.drop_succ_cons, List.drop_zero, List.reverse_cons, List.reverse_nil, List.nil_append, List.cons_append, List.length_cons, List.length_nil, Nat.zero_add, Nat.reduceAdd, beq_self_eq_true, true_and, and_true, Nat.reduceLeDiff, Nat.le_refl, Nat.zero_le, Bool.or_true, Bool.true_or, Bool.or_false, Bool.false_or, Bool.or_self]
        try simp (disch := omega) only [Nat.reduceEqDiff, Prod.mk.injEq, Option.some.injEq, true_and, and_true, exists_eq_left', exists_eq_right, exists_and_left, exists_const, true_or, or_true, ne_eq, not_true_eq_false, not_false_eq_true, reduceCtorEq, false_and, and_false, if_true, if_false, forall_const, true_implies, false_implies, implies_true, qI_wI, qI_wP, qP_wI, qP_wP, qN_wI, qN_wP, and_self, nI_add, pk_mul, nI_clamp, vp_in_nI, ng_1, ng_10, nI_eq32, cs_0, cs_1, cs_2, cs_3, cs_4, cs_5, cs_6, cs_7, cs_8, cs_9, cs_10, cs_11, cs_12, cs_13, cs_14, cs_15, cs_16, cs_17, cs_18, cs_19, cs_20, cs_21, cs_22, cs_23, cs_24, cs_25, cs_26, cs_27, cs_28, cs_29, cs_30, cs_31, cs_32, cs_33, cs_34, cs_35, cs_36, cs_37, cs_38, cs_39, cs_40, cs_41, cs_42, cs_43, cs_44, cs_45, cs_46, cs_47, cs_48, cs_49, cs_50, cs_51, cs_52, cs_53, cs_54, cs_55, cs_56, cs_57, cs_58, cs_59, cs_60, cs_61, cs_62, cs_63, cs_64, cs_97, cs_100, cs_122, cs_200, cs_300, cs_448, cs_1000, al_11, al_12, al_13, al_14, al_15, al_16, al_17, al_18, al_19, al_20, al_21, al_22, al_23, al_24, al_25, al_26, al_27, al_28, al_29, al_30, al_31, al_32, al_33, al_34, al_35, al_36, al_37, al_38, al_39, al_40, al_41, al_42, al_43, al_44, al_45, al_46, al_47]
        first
          | exact g
          | exact ⟨fun _ => g, fun z => absurd (by omega) z⟩
      · obtain ⟨f1, f2, f3⟩ := spTo_facts (f := f) hW (by omega) hne
        refine cc_isEmpty G (f := spBlanks S 0) (t := spTo S 0 f) (by omega) (by omega) d0 d1 ?_
        rw [jb_f (by omega)]
        by_cases h12 : S 10 14 = 12
        · have g := hbad (Or.inr h12) M1 hM1
          try simp only [↓cb_X9_set_0, ↓cb_X9_set_17, ↓cb_X9_set_56, ↓cb_X9_set_66, ↓cb_X9_set_113, ↓te_aldP, ↓te_alen, ↓te_aload, ↓te_astore, ↓te_bin, ↓te_call, ↓te_callV, ↓te_const, ↓te_dup, ↓te_getI, ↓te_getP, ↓te_icmp, ↓te_if, ↓te_iload, ↓te_iret, ↓te_istore, ↓te_putI, ↓te_throw, ↓evb_c, ↓evb_n, ↓evk_ap, ↓evm_cut, ↓evm_go, ↓evm_0, ↓jret_v, ↓jret_n, jget, jset, cond_true, cond_false, Nat.reduceBEq, jc1, List.take_succ_cons, List.take_zero, List.drop_succ_cons, List.drop_zero, List.reverse_cons, List.reverse_nil, List.nil_append, List.cons_append, List.length_cons, List.length_nil, Nat.zero_add, Nat.reduceAdd, beq_self_eq_true, true_and, and_true, Nat.reduceLeDiff, Nat.le_refl, Nat.zero_le, Bool.or_true, Bool.true_or, Bool.or_false, Bool.false_or, Bool.or_self]
          try simp (disch := omega) only [Nat.reduceEqDiff, Prod.mk.injEq, Option.some.injEq, true_and, and_true, exists_eq_left', exists_eq_right, exists_and_left, exists_const, true_or, or_true, ne_eq, not_true_eq_false, not_false_eq_true, reduceCtorEq, false_and, and_false, if_true, if_false, forall_const, true_implies, false_implies, implies_true, qI_wI, qI_wP, qP_wI, qP_wP, qN_wI, qN_wP, and_self, nI_add, pk_mul, nI_clamp, vp_in_nI, ng_1, ng_10, nI_eq32, cs_0, cs_1, cs_2, cs_3, cs_4, cs_5, cs_6, cs_7, cs_8, cs_9, cs_10, cs_11, cs_12, cs_13, cs_14, cs_15, cs_16, cs_17, cs_18, cs_19, cs_20, cs_21, cs_22, cs_23, cs_24, cs_25, cs_26, cs_27, cs_28, cs_29, cs_30, cs_31, cs_32, cs_33, cs_34, cs_35, cs_36, cs_37, cs_38, cs_39, cs_40, cs_41, cs_42, cs_43, cs_44, cs_45, cs_46, cs_47, cs_48, cs_49, cs_50, cs_51, cs_52, cs_53, cs_54, cs_55, cs_56, cs_57, cs_58, cs_59, cs_60, cs_61, cs_62, cs_63, cs_64, cs_97, cs_100, cs_122, cs_200, cs_300, cs_448, cs_1000, al_11, al_12, al_13, al_14, al_15, al_16, al_17, al_18, al_19, al_20, al_21, al_22, al_23, al_24, al_25, al_26, al_27, al_28, al_29, al_30, al_31, al_32, al_33, al_34, al_35, al_36, al_37, al_38, al_39, al_40, al_41, al_42, al_43, al_44, al_45, al_46, al_47, b71, b81, nI_ltI]
          first
            | exact ⟨fun z => absurd z (by omega), fun _ => g⟩
            | exact ⟨fun z => absurd rfl z, fun _ => ⟨fun z => absurd z (by omega), fun _ => g⟩⟩
        · have hn12 : S 10 14 < 12 := by omega
          have hno : ¬ spNoSet S := by rintro (q | q); exact hne q; exact h12 q
          rw [if_neg hno] at r1
          have k66 : Wn 66 [some v9, some (vI f), some (vI bt), none, none] [] M1 0 0 := by
            have c13 := (hM1.1.2.2.2.2.2.2.2.2.2.1.1 (S 10 14) hn12).2
            have hIV := IV_beg (f := f) (la := spLast S 0 f) hW hM1 hn12
            have hK0 := hM1.1.2.2.2.2.2.2.2.1
            have ho := (hM1.1.2.2.2.2.2.2.2.2.2.1.1 (S 10 14) hn12).1
            have hpl : ∀ k i, k < 58 → i < S 30 k → (qP M1 6 (S 29 (300 * k + i)) 6).getD 0 = k := fun k i hk hi => by rw [((hK0 k hk).2 i hi).2]; rfl
            have d5 : ∀ c, qI (mBeg M1 (p (S 10 14)) f (spLast S 0 f)) 0 0 c = qI M1 0 0 c := fun c => by
              unfold mBeg
              rw [qI_wP, qI_wI, if_neg (by omega), qI_wI, if_neg (by omega), qI_wI, if_neg (by omega), qI_wI, if_neg (by omega)]
            have d6 : ∀ s, qP (mBeg M1 (p (S 10 14)) f (spLast S 0 f)) 6 s 6 = qP M1 6 s 6 := fun s => by
              unfold mBeg
              rw [qP_wP, if_neg (by omega), qP_wI, qP_wI, qP_wI, qP_wI]
            have hsE : spEndN S f = spTo S 0 f + spSplit S 0 f := rfl
            have hsR : spSetR S f bt = spSet (S 10 14) f bt (spTo S 0 f) (spTo S 0 f + spSplit S 0 f - spBlanks S 0) (spBlanks S 0) (spBeg S f) := rfl
            refine ev_at hC (fun pc => pc == 113) 9 66 (ls := [some v9, some (vI f), some (vI bt), none, none]) ?_
            try simp only [↓cb_X9_set_0, ↓cb_X9_set_17, ↓cb_X9_set_56, ↓cb_X9_set_66, ↓cb_X9_set_113, ↓te_aldP, ↓te_alen, ↓te_aload, ↓te_astore, ↓te_bin, ↓te_call, ↓te_callV, ↓te_const, ↓te_dup, ↓te_getI, ↓te_getP, ↓te_icmp, ↓te_if, ↓te_iload, ↓te_iret, ↓te_istore, ↓te_putI, ↓te_throw, ↓evb_c, ↓evb_n, ↓evk_ap, ↓evm_cut, ↓evm_go, ↓evm_0, ↓jret_v, ↓jret_n, jget, jset, cond_true, cond_false, Nat.reduceBEq, jc1, List.take_succ_cons, List.take_zero, List.drop_succ_cons, List.drop_zero, List.reverse_cons, List.reverse_nil, List.nil_append, List.cons_append, List.length_cons, List.length_nil, Nat.zero_add, Nat.reduceAdd, beq_self_eq_true, true_and, and_true, Nat.reduceLeDiff, Nat.le_refl, Nat.zero_le, Bool.or_true, Bool.true_or, Bool.or_false, Bool.false_or, Bool.or_self]
            try simp (disch := omega) only [Nat.reduceEqDiff, Prod.mk.injEq, Option.some.injEq, true_and, and_true, exists_eq_left', exists_eq_right, exists_and_left, exists_const, true_or, or_true, ne_eq, not_true_eq_false, not_false_eq_true, reduceCtorEq, false_and, and_false, if_true, if_false, forall_const, true_implies, false_implies, implies_true, qI_wI, qI_wP, qP_wI, qP_wP, qN_wI, qN_wP, and_self, nI_add, pk_mul, nI_clamp, vp_in_nI, ng_1, ng_10, nI_eq32, cs_0, cs_1, cs_2, cs_3, cs_4, cs_5, cs_6, cs_7, cs_8, cs_9, cs_10, cs_11, cs_12, cs_13, cs_14, cs_15, cs_16, cs_17, cs_18, cs_19, cs_20, cs_21, cs_22, cs_23, cs_24, cs_25, cs_26, cs_27, cs_28, cs_29, cs_30, cs_31, cs_32, cs_33, cs_34, cs_35, cs_36, cs_37, cs_38, cs_39, cs_40, cs_41, cs_42, cs_43, cs_44, cs_45, cs_46, cs_47, cs_48, cs_49, cs_50, cs_51, cs_52, cs_53, cs_54, cs_55, cs_56, cs_57, cs_58, cs_59, cs_60, cs_61, cs_62, cs_63, cs_64, cs_97, cs_100, cs_122, cs_200, cs_300, cs_448, cs_1000, al_11, al_12, al_13, al_14, al_15, al_16, al_17, al_18, al_19, al_20, al_21, al_22, al_23, al_24, al_25, al_26, al_27, al_28, al_29, al_30, al_31, al_32, al_33, al_34, al_35, al_36, al_37, al_38, al_39, al_40, al_41, al_42, al_43, al_44, al_45, al_46, al_47, b71, b81, b51, c13, d3]
            refine cc_begin G (spLast_lt S 0 f) ?_
            have ht3 : spSplit S 0 f = 0 ∨ (spSplit S 0 f = 1 ∧ spTo S 0 f < S 10 12 ∧ ¬ S 33 (spTo S 0 f) = 32) := by
              rcases f3 with q | ⟨q1, q2, q3, -⟩
              · exact Or.inl q
              · exact Or.inr ⟨q1, q2, q3⟩
            have hen : spTo S 0 f + spSplit S 0 f ≤ spBlanks S 0 + 60 := by omega
            have hok : (spSetR S f bt).1 = 0 → sf_setOk S (nI f) bt := fun q => ⟨h1, hno, by rw [hf]; exact q⟩
            have hnok : ¬ (spSetR S f bt).1 = 0 → ¬ sf_setOk S (nI f) bt := fun q z => q (by have := z.2.2; rw [hf] at this; exact this)
            have k113 : (spSetR S f bt).1 = 0 → ∀ M2, IV M0 (mBeg M1 (p (S 10 14)) f (spLast S 0 f)) S p (fun s => (qP M1 6 s 6).getD 0) (S 10 14) f (spLast S 0 f) M2 (spSetR S f bt).2 (spTo S 0 f + spSplit S 0 f) → Wn 113 [some v9, some (vI f), some (vI bt), some (oR 3 (p (S 10 14))), some (vI jNo)] [] M2 0 0 := by
              intro hr M2 hI
              have hQs := hQ1 (hok hr)
              rw [r1, if_pos hr] at hQs
              generalize hTT : (spSetR S f bt).2 = T at *
              obtain ⟨t33, t12, tF, tP, tT, t35, t38, t46, t29, t98⟩ := hI.1.2.facts hW hen
              have c4 := hI.1.1.1.1.1.2.2.2.1
              have c5 := hI.1.1.1.1.1.2.2.2.2.1
              have c8 := hI.1.1.1.1.2.1.2.1
              have c98 := hI.1.1.1.1.2.2.1.2.2.1
              have e14 : vw (S 10 14) T 10 14 = S 10 14 := by rw [vw_row (by omega)]; exact hI.1.2.2.2.1 10 14 (by omega)
              rw [e14] at c98
              have d01 : qI M2 0 0 1 = nI (spTo S 0 f) := (hI.2.2.2.2.2.1.2 1).trans ((d5 1).trans d1)
              have hTX2 : TXM M2 S := ⟨hI.1.1.1.2.1.fr (fun _ _ => rfl) (fun _ _ => rfl) (by rw [vw_row (by omega), t12]) (fun k _ => by rw [vw_row (by omega), t33]), hT, c8⟩
              have hla := spLast_end (n := S 10 14) (f := f) (t := spTo S 0 f) t33 t12 rfl f2 ht3
              have e38 : spEndC T (S 10 14) f (spTo S 0 f) 38 (S 10 14) = T 38 (S 10 14) := spEndC_row (by omega)
              have eC14 : spEndC T (S 10 14) f (spTo S 0 f) 10 14 = S 10 14 + 1 := by unfold spEndC; rw [sw_at, if_pos ⟨rfl, rfl⟩]
              refine ev_at hC (fun pc => false) 9 113 (ls := [some v9, some (vI f), some (vI bt), some (oR 3 (p (S 10 14))), some (vI jNo)]) ?_
              try simp only [↓cb_X9_set_0, ↓cb_X9_set_17, ↓cb_X9_set_56, ↓cb_X9_set_66, ↓cb_X9_set_113, ↓te_aldP, ↓te_alen, ↓te_aload, ↓te_astore, ↓te_bin, ↓te_call, ↓te_callV, ↓te_const, ↓te_dup, ↓te_getI, ↓te_getP, ↓te_icmp, ↓te_if, ↓te_iload, ↓te_iret, ↓te_istore, ↓te_putI, ↓te_throw, ↓evb_c, ↓evb_n, ↓evk_ap, ↓evm_cut, ↓evm_go, ↓evm_0, ↓jret_v, ↓jret_n, jget, jset, cond_true, cond_false, Nat.reduceBEq, jc1, List.take_succ_cons, List.take_zero, List.drop_succ_cons, List.drop_zero, List.reverse_cons, List.reverse_nil, List.nil_append, List.cons_append, List.length_cons, List.length_nil, Nat.zero_add, Nat.reduceAdd, beq_self_eq_true, true_and, and_true, Nat.reduceLeDiff, Nat.le_refl, Nat.zero_le, Bool.or_true, Bool.true_or, Bool.or_false, Bool.false_or, Bool.or_self]
              try simp (disch := omega) only [Nat.reduceEqDiff, Prod.mk.injEq, Option.some.injEq, true_and, and_true, exists_eq_left', exists_eq_right, exists_and_left, exists_const, true_or, or_true, ne_eq, not_true_eq_false, not_false_eq_true, reduceCtorEq, false_and, and_false, if_true, if_false, forall_const, true_implies, false_implies, implies_true, qI_wI, qI_wP, qP_wI, qP_wP, qN_wI, qN_wP, and_self, nI_add, pk_mul, nI_clamp, vp_in_nI, ng_1, ng_10, nI_eq32, cs_0, cs_1, cs_2, cs_3, cs_4, cs_5, cs_6, cs_7, cs_8, cs_9, cs_10, cs_11, cs_12, cs_13, cs_14, cs_15, cs_16, cs_17, cs_18, cs_19, cs_20, cs_21, cs_22, cs_23, cs_24, cs_25, cs_26, cs_27, cs_28, cs_29, cs_30, cs_31, cs_32, cs_33, cs_34, cs_35, cs_36, cs_37, cs_38, cs_39, cs_40, cs_41, cs_42, cs_43, cs_44, cs_45, cs_46, cs_47, cs_48, cs_49, cs_50, cs_51, cs_52, cs_53, cs_54, cs_55, cs_56, cs_57, cs_58, cs_59, cs_60, cs_61, cs_62, cs_63, cs_64, cs_97, cs_100, cs_122, cs_200, cs_300, cs_448, cs_1000, al_11, al_12, al_13, al_14, al_15, al_16, al_17, al_18, al_19, al_20, al_21, al_22, al_23, al_24, al_25, al_26, al_27, al_28, al_29, al_30, al_31, al_32, al_33, al_34, al_35, al_36, al_37, al_38, al_39, al_40, al_41, al_42, al_43, al_44, al_45, al_46, al_47, c4, c5, d01]
              refine cc_takeOffT G hTX2 f2 (fun M3 y1 y2 y3 y4 => ?_)
              have z8 : qI M3 9 0 8 = nI (S 10 14) := by rw [y1, if_neg (by omega), if_neg (by omega)]; exact c98
              have hM4 : CX M0 (wI M3 9 0 8 (nI (S 10 14 + 1))) (spZero (spEndC T (S 10 14) f (spTo S 0 f)) (S 10 14) (448 * S 10 14 + 7 * spEndC T (S 10 14) f (spTo S 0 f) 38 (S 10 14) + 7)) p := by
                rw [e38]
                refine CX_setend hW hI rfl hn12 hen hla.symm (fun r i c => ?_) y2 y3 y4
                rw [qI_wI, y1]
              have hWz : Wf (spZero (spEndC T (S 10 14) f (spTo S 0 f)) (S 10 14) (448 * S 10 14 + 7 * spEndC T (S 10 14) f (spTo S 0 f) 38 (S 10 14) + 7)) := by
                rw [e38]
                exact Wf_endC hW hI.1.2 hen rfl hn12 (by omega)
              try simp only [↓cb_X9_set_0, ↓cb_X9_set_17, ↓cb_X9_set_56, ↓cb_X9_set_66, ↓cb_X9_set_113, ↓te_aldP, ↓te_alen, ↓te_aload, ↓te_astore, ↓te_bin, ↓te_call, ↓te_callV, ↓te_const, ↓te_dup, ↓te_getI, ↓te_getP, ↓te_icmp, ↓te_if, ↓te_iload, ↓te_iret, ↓te_istore, ↓te_putI, ↓te_throw, ↓evb_c, ↓evb_n, ↓evk_ap, ↓evm_cut, ↓evm_go, ↓evm_0, ↓jret_v, ↓jret_n, jget, jset, cond_true, cond_false, Nat.reduceBEq, jc1, List.take_succ_cons, List.take_zero, List.drop_succ_cons, List.drop_zero, List.reverse_cons, List.reverse_nil, List.nil_append, List.cons_append, List.length_cons, List.length_nil, Nat.zero_add, Nat.reduceAdd, beq_self_eq_true, true_and, and_true, Nat.reduceLeDiff, Nat.le_refl, Nat.zero_le, Bool.or_true, Bool.true_or, Bool.or_false, Bool.false_or, Bool.or_self]
              try simp (disch := omega) only [Nat.reduceEqDiff, Prod.mk.injEq, Option.some.injEq, true_and, and_true, exists_eq_left', exists_eq_right, exists_and_left, exists_const, true_or, or_true, ne_eq, not_true_eq_false, not_false_eq_true, reduceCtorEq, false_and, and_false, if_true, if_false, forall_const, true_implies, false_implies, implies_true, qI_wI, qI_wP, qP_wI, qP_wP, qN_wI, qN_wP, and_self, nI_add, pk_mul, nI_clamp, vp_in_nI, ng_1, ng_10, nI_eq32, cs_0, cs_1, cs_2, cs_3, cs_4, cs_5, cs_6, cs_7, cs_8, cs_9, cs_10, cs_11, cs_12, cs_13, cs_14, cs_15, cs_16, cs_17, cs_18, cs_19, cs_20, cs_21, cs_22, cs_23, cs_24, cs_25, cs_26, cs_27, cs_28, cs_29, cs_30, cs_31, cs_32, cs_33, cs_34, cs_35, cs_36, cs_37, cs_38, cs_39, cs_40, cs_41, cs_42, cs_43, cs_44, cs_45, cs_46, cs_47, cs_48, cs_49, cs_50, cs_51, cs_52, cs_53, cs_54, cs_55, cs_56, cs_57, cs_58, cs_59, cs_60, cs_61, cs_62, cs_63, cs_64, cs_97, cs_100, cs_122, cs_200, cs_300, cs_448, cs_1000, al_11, al_12, al_13, al_14, al_15, al_16, al_17, al_18, al_19, al_20, al_21, al_22, al_23, al_24, al_25, al_26, al_27, al_28, al_29, al_30, al_31, al_32, al_33, al_34, al_35, al_36, al_37, al_38, al_39, al_40, al_41, al_42, al_43, al_44, al_45, al_46, al_47, z8]
              refine cc_fill G hM4 hWz (by rw [eC14]; omega) (fun M5 hM5 => ?_)
              have e5 := hM5.1.1.2.2.1.2.2.1
              rw [spFill_row _ _ (by omega) (by omega), eC14] at e5
              try simp only [↓cb_X9_set_0, ↓cb_X9_set_17, ↓cb_X9_set_56, ↓cb_X9_set_66, ↓cb_X9_set_113, ↓te_aldP, ↓te_alen, ↓te_aload, ↓te_astore, ↓te_bin, ↓te_call, ↓te_callV, ↓te_const, ↓te_dup, ↓te_getI, ↓te_getP, ↓te_icmp, ↓te_if, ↓te_iload, ↓te_iret, ↓te_istore, ↓te_putI, ↓te_throw, ↓evb_c, ↓evb_n, ↓evk_ap, ↓evm_cut, ↓evm_go, ↓evm_0, ↓jret_v, ↓jret_n, jget, jset, cond_true, cond_false, Nat.reduceBEq, jc1, List.take_succ_cons, List.take_zero, List.drop_succ_cons, List.drop_zero, List.reverse_cons, List.reverse_nil, List.nil_append, List.cons_append, List.length_cons, List.length_nil, Nat.zero_add, Nat.reduceAdd, beq_self_eq_true, true_and, and_true, Nat.reduceLeDiff, Nat.le_refl, Nat.zero_le, Bool.or_true, Bool.true_or, Bool.or_false, Bool.false_or, Bool.or_self]
              try simp (disch := omega) only [Nat.reduceEqDiff, Prod.mk.injEq, Option.some.injEq, true_and, and_true, exists_eq_left', exists_eq_right, exists_and_left, exists_const, true_or, or_true, ne_eq, not_true_eq_false, not_false_eq_true, reduceCtorEq, false_and, and_false, if_true, if_false, forall_const, true_implies, false_implies, implies_true, qI_wI, qI_wP, qP_wI, qP_wP, qN_wI, qN_wP, and_self, nI_add, pk_mul, nI_clamp, vp_in_nI, ng_1, ng_10, nI_eq32, cs_0, cs_1, cs_2, cs_3, cs_4, cs_5, cs_6, cs_7, cs_8, cs_9, cs_10, cs_11, cs_12, cs_13, cs_14, cs_15, cs_16, cs_17, cs_18, cs_19, cs_20, cs_21, cs_22, cs_23, cs_24, cs_25, cs_26, cs_27, cs_28, cs_29, cs_30, cs_31, cs_32, cs_33, cs_34, cs_35, cs_36, cs_37, cs_38, cs_39, cs_40, cs_41, cs_42, cs_43, cs_44, cs_45, cs_46, cs_47, cs_48, cs_49, cs_50, cs_51, cs_52, cs_53, cs_54, cs_55, cs_56, cs_57, cs_58, cs_59, cs_60, cs_61, cs_62, cs_63, cs_64, cs_97, cs_100, cs_122, cs_200, cs_300, cs_448, cs_1000, al_11, al_12, al_13, al_14, al_15, al_16, al_17, al_18, al_19, al_20, al_21, al_22, al_23, al_24, al_25, al_26, al_27, al_28, al_29, al_30, al_31, al_32, al_33, al_34, al_35, al_36, al_37, al_38, al_39, al_40, al_41, al_42, al_43, al_44, al_45, al_46, al_47, e5, pk_sub, Nat.add_sub_cancel]
              exact hQs M5 p hM5
            try simp only [↓cb_X9_set_0, ↓cb_X9_set_17, ↓cb_X9_set_56, ↓cb_X9_set_66, ↓cb_X9_set_113, ↓te_aldP, ↓te_alen, ↓te_aload, ↓te_astore, ↓te_bin, ↓te_call, ↓te_callV, ↓te_const, ↓te_dup, ↓te_getI, ↓te_getP, ↓te_icmp, ↓te_if, ↓te_iload, ↓te_iret, ↓te_istore, ↓te_putI, ↓te_throw, ↓evb_c, ↓evb_n, ↓evk_ap, ↓evm_cut, ↓evm_go, ↓evm_0, ↓jret_v, ↓jret_n, jget, jset, cond_true, cond_false, Nat.reduceBEq, jc1, List.take_succ_cons, List.take_zero, List.drop_succ_cons, List.drop_zero, List.reverse_cons, List.reverse_nil, List.nil_append, List.cons_append, List.length_cons, List.length_nil, Nat.zero_add, Nat.reduceAdd, beq_self_eq_true, true_and, and_true, Nat.reduceLeDiff, Nat.le_refl, Nat.zero_le, Bool.or_true, Bool.true_or, Bool.or_false, Bool.false_or, Bool.or_self]
            try simp (disch := omega) only [Nat.reduceEqDiff, Prod.mk.injEq, Option.some.injEq, true_and, and_true, exists_eq_left', exists_eq_right, exists_and_left, exists_const, true_or, or_true, ne_eq, not_true_eq_false, not_false_eq_true, reduceCtorEq, false_and, and_false, if_true, if_false, forall_const, true_implies, false_implies, implies_true, qI_wI, qI_wP, qP_wI, qP_wP, qN_wI, qN_wP, and_self, nI_add, pk_mul, nI_clamp, vp_in_nI, ng_1, ng_10, nI_eq32, cs_0, cs_1, cs_2, cs_3, cs_4, cs_5, cs_6, cs_7, cs_8, cs_9, cs_10, cs_11, cs_12, cs_13, cs_14, cs_15, cs_16, cs_17, cs_18, cs_19, cs_20, cs_21, cs_22, cs_23, cs_24, cs_25, cs_26, cs_27, cs_28, cs_29, cs_30, cs_31, cs_32, cs_33, cs_34, cs_35, cs_36, cs_37, cs_38, cs_39, cs_40, cs_41, cs_42, cs_43, cs_44, cs_45, cs_46, cs_47, cs_48, cs_49, cs_50, cs_51, cs_52, cs_53, cs_54, cs_55, cs_56, cs_57, cs_58, cs_59, cs_60, cs_61, cs_62, cs_63, cs_64, cs_97, cs_100, cs_122, cs_200, cs_300, cs_448, cs_1000, al_11, al_12, al_13, al_14, al_15, al_16, al_17, al_18, al_19, al_20, al_21, al_22, al_23, al_24, al_25, al_26, al_27, al_28, al_29, al_30, al_31, al_32, al_33, al_34, al_35, al_36, al_37, al_38, al_39, al_40, al_41, al_42, al_43, al_44, al_45, al_46, al_47]
            refine cc_takeSorts G (t := spTo S 0 f) (e := spSplit S 0 f) hW hIV rfl hn12 (by omega) hbt hpl f1 f2 ht3 ((d5 0).trans d0) ((d5 1).trans d1) ((d5 2).trans d2) (fun hr M2 hI => ?_) (fun hr hr29 M2 kk hkk hI => ?_)
            · have g := k113 hr M2 hI
              try simp only [↓cb_X9_set_0, ↓cb_X9_set_17, ↓cb_X9_set_56, ↓cb_X9_set_66, ↓cb_X9_set_113, ↓te_aldP, ↓te_alen, ↓te_aload, ↓te_astore, ↓te_bin, ↓te_call, ↓te_callV, ↓te_const, ↓te_dup, ↓te_getI, ↓te_getP, ↓te_icmp, ↓te_if, ↓te_iload, ↓te_iret, ↓te_istore, ↓te_putI, ↓te_throw, ↓evb_c, ↓evb_n, ↓evk_ap, ↓evm_cut, ↓evm_go, ↓evm_0, ↓jret_v, ↓jret_n, jget, jset, cond_true, cond_false, Nat.reduceBEq, jc1, List.take_succ_cons, List.take_zero, List.drop_succ_cons, List.drop_zero, List.reverse_cons, List.reverse_nil, List.nil_append, List.cons_append, List.length_cons, List.length_nil, Nat.zero_add, Nat.reduceAdd, beq_self_eq_true, true_and, and_true, Nat.reduceLeDiff, Nat.le_refl, Nat.zero_le, Bool.or_true, Bool.true_or, Bool.or_false, Bool.false_or, Bool.or_self]
              try simp (disch := omega) only [Nat.reduceEqDiff, Prod.mk.injEq, Option.some.injEq, true_and, and_true, exists_eq_left', exists_eq_right, exists_and_left, exists_const, true_or, or_true, ne_eq, not_true_eq_false, not_false_eq_true, reduceCtorEq, false_and, and_false, if_true, if_false, forall_const, true_implies, false_implies, implies_true, qI_wI, qI_wP, qP_wI, qP_wP, qN_wI, qN_wP, and_self, nI_add, pk_mul, nI_clamp, vp_in_nI, ng_1, ng_10, nI_eq32, cs_0, cs_1, cs_2, cs_3, cs_4, cs_5, cs_6, cs_7, cs_8, cs_9, cs_10, cs_11, cs_12, cs_13, cs_14, cs_15, cs_16, cs_17, cs_18, cs_19, cs_20, cs_21, cs_22, cs_23, cs_24, cs_25, cs_26, cs_27, cs_28, cs_29, cs_30, cs_31, cs_32, cs_33, cs_34, cs_35, cs_36, cs_37, cs_38, cs_39, cs_40, cs_41, cs_42, cs_43, cs_44, cs_45, cs_46, cs_47, cs_48, cs_49, cs_50, cs_51, cs_52, cs_53, cs_54, cs_55, cs_56, cs_57, cs_58, cs_59, cs_60, cs_61, cs_62, cs_63, cs_64, cs_97, cs_100, cs_122, cs_200, cs_300, cs_448, cs_1000, al_11, al_12, al_13, al_14, al_15, al_16, al_17, al_18, al_19, al_20, al_21, al_22, al_23, al_24, al_25, al_26, al_27, al_28, al_29, al_30, al_31, al_32, al_33, al_34, al_35, al_36, al_37, al_38, al_39, al_40, al_41, al_42, al_43, al_44, al_45, al_46, al_47]
              first
                | exact g
                | exact ⟨fun _ => g, fun z => absurd rfl z⟩
            · rw [← hsR] at hr hr29 hI
              have hQs := hQ2 (hnok hr) (by rw [r1, if_neg hr])
              rw [r1, if_neg hr] at hQs
              rw [← hsR]
              generalize hTT : (spSetR S f bt).2 = T at *
              generalize hrr : (spSetR S f bt).1 = rr at *
              obtain ⟨t33, t12, tF, tP, tT, t35, t38, t46, t29, t98⟩ := hI.1.2.facts hW hkk
              obtain ⟨⟨hMv, hS⟩, ⟨a1, a2, a3, a4, a5⟩, hjj, hgg, -, ⟨hl6, -⟩, hbk⟩ := hI
              have hr3 := hS.2.2.1
              have e14 : vw (S 10 14) T 10 14 = S 10 14 := by rw [vw_row (by omega)]; exact hr3 10 14 (by omega)
              have hsrc : ∀ j, j < T 35 (S 10 14) → ∃ k i, k < 58 ∧ i < S 30 k ∧ S 29 (300 * k + i) = T 36 (64 * S 10 14 + j) := by
                intro j hj2
                have q1 := sumr_ge (f := fun k => ind (T 36 (64 * S 10 14 + j)) (T 36 (64 * S 10 14 + k))) hj2
                simp only [ind_self] at q1
                have q2 : lw T (ind (T 36 (64 * S 10 14 + j))) (S 10 14) (T 35 (S 10 14)) = sumr (fun k => ind (T 36 (64 * S 10 14 + j)) (T 36 (64 * S 10 14 + k))) 0 (T 35 (S 10 14)) := rfl
                have q3 : pws T (ind (T 36 (64 * S 10 14 + j))) + hws T (ind (T 36 (64 * S 10 14 + j))) + (lws S (ind (T 36 (64 * S 10 14 + j))) (S 10 14) + lw T (ind (T 36 (64 * S 10 14 + j))) (S 10 14) (T 35 (S 10 14))) ≤ 1 := hS.1.2.2.le1 (T 36 (64 * S 10 14 + j))
                have q4 := hS.1.2.2.live (s := T 36 (64 * S 10 14 + j)) (by show 0 < _ + _ + (lws S (ind (T 36 (64 * S 10 14 + j))) (S 10 14) + lw T (ind (T 36 (64 * S 10 14 + j))) (S 10 14) (T 35 (S 10 14))); omega)
                rw [hr3 10 1 (by omega), hr3 27 _ (by omega)] at q4
                have q5 : pws S (ind (T 36 (64 * S 10 14 + j))) + hws S (ind (T 36 (64 * S 10 14 + j))) + lws S (ind (T 36 (64 * S 10 14 + j))) (S 10 14) = if T 36 (64 * S 10 14 + j) < S 10 1 ∧ ¬ S 27 (T 36 (64 * S 10 14 + j)) = 3 then 1 else 0 := hW.1.2.2.one _
                rw [if_pos q4] at q5
                have q6 : hws T (ind (T 36 (64 * S 10 14 + j))) = hws S (ind (T 36 (64 * S 10 14 + j))) := by
                  unfold hws
                  rw [hr3 10 9 (by omega)]
                  exact sumr_eq _ (fun i _ => by rw [hr3 31 i (by omega)])
                exact hW.1.2.2.inPile (by omega)
              have h66 : ∀ j, j < T 35 (S 10 14) → qP M2 6 (T 36 (64 * S 10 14 + j)) 6 = some ((qP M1 6 (T 36 (64 * S 10 14 + j)) 6).getD 0) ∧ (qP M1 6 (T 36 (64 * S 10 14 + j)) 6).getD 0 < 58 := by
                intro j hj2
                obtain ⟨k, i, q1, q2, q3⟩ := hsrc j hj2
                have q4 := ((hK0 k q1).2 i q2).2
                rw [q3] at q4
                rw [hl6, d6, q4]
                exact ⟨rfl, q1⟩
              try simp only [↓cb_X9_set_0, ↓cb_X9_set_17, ↓cb_X9_set_56, ↓cb_X9_set_66, ↓cb_X9_set_113, ↓te_aldP, ↓te_alen, ↓te_aload, ↓te_astore, ↓te_bin, ↓te_call, ↓te_callV, ↓te_const, ↓te_dup, ↓te_getI, ↓te_getP, ↓te_icmp, ↓te_if, ↓te_iload, ↓te_iret, ↓te_istore, ↓te_putI, ↓te_throw, ↓evb_c, ↓evb_n, ↓evk_ap, ↓evm_cut, ↓evm_go, ↓evm_0, ↓jret_v, ↓jret_n, jget, jset, cond_true, cond_false, Nat.reduceBEq, jc1, List.take_succ_cons, List.take_zero, List.drop_succ_cons, List.drop_zero, List.reverse_cons, List.reverse_nil, List.nil_append, List.cons_append, List.length_cons, List.length_nil, Nat.zero_add, Nat.reduceAdd, beq_self_eq_true, true_and, and_true, Nat.reduceLeDiff, Nat.le_refl, Nat.zero_le, Bool.or_true, Bool.true_or, Bool.or_false, Bool.false_or, Bool.or_self]
              try simp (disch := omega) only [Nat.reduceEqDiff, Prod.mk.injEq, Option.some.injEq, true_and, and_true, exists_eq_left', exists_eq_right, exists_and_left, exists_const, true_or, or_true, ne_eq, not_true_eq_false, not_false_eq_true, reduceCtorEq, false_and, and_false, if_true, if_false, forall_const, true_implies, false_implies, implies_true, qI_wI, qI_wP, qP_wI, qP_wP, qN_wI, qN_wP, and_self, nI_add, pk_mul, nI_clamp, vp_in_nI, ng_1, ng_10, nI_eq32, cs_0, cs_1, cs_2, cs_3, cs_4, cs_5, cs_6, cs_7, cs_8, cs_9, cs_10, cs_11, cs_12, cs_13, cs_14, cs_15, cs_16, cs_17, cs_18, cs_19, cs_20, cs_21, cs_22, cs_23, cs_24, cs_25, cs_26, cs_27, cs_28, cs_29, cs_30, cs_31, cs_32, cs_33, cs_34, cs_35, cs_36, cs_37, cs_38, cs_39, cs_40, cs_41, cs_42, cs_43, cs_44, cs_45, cs_46, cs_47, cs_48, cs_49, cs_50, cs_51, cs_52, cs_53, cs_54, cs_55, cs_56, cs_57, cs_58, cs_59, cs_60, cs_61, cs_62, cs_63, cs_64, cs_97, cs_100, cs_122, cs_200, cs_300, cs_448, cs_1000, al_11, al_12, al_13, al_14, al_15, al_16, al_17, al_18, al_19, al_20, al_21, al_22, al_23, al_24, al_25, al_26, al_27, al_28, al_29, al_30, al_31, al_32, al_33, al_34, al_35, al_36, al_37, al_38, al_39, al_40, al_41, al_42, al_43, al_44, al_45, al_46, al_47]
              have tail : ∀ K, (∀ M3, CX M0 M3 S p → K (.inl none) M3) → Mt G m_X9_takeBack [v9, oR 3 (p (S 10 14))] M2 K := by
                intro K hK
                refine cc_takeBackL G (sq := fun j => T 36 (64 * S 10 14 + j)) (pl := fun s => (qP M1 6 s 6).getD 0) (X := fun w => lws S w (S 10 14)) (m := T 35 (S 10 14)) hMv ho t35 a2 (fun j hj2 => (hjj j hj2).1) (fun j hj2 => (h66 j hj2).1) (fun j hj2 => (h66 j hj2).2) hS.mk (fun M3 hM3 => hK M3 ⟨?_, hM3.2⟩)
                refine hM3.1.sl (l := S 10 14) (fun a b hab => ?_) ?_ (fun m hm => ?_)
                · by_cases c : a = 27 ∨ a = 28 ∨ a = 29 ∨ a = 30
                  · exact (hbk a b c).symm
                  · rw [bkS_row c, vw_row (by omega)]
                    exact (hr3 a b (by omega)).symm
                · rw [bkS_row (by omega), e14]; exact Nat.le_refl _
                · rw [bkS_row (by omega), e14] at hm
                  rw [bkS_row (by omega), bkS_row (by omega), vw_row (by omega), vw_row (by omega), hr3 35 m (by omega), hr3 38 m (by omega)]
                  have := (hW.2.2.1 m hm).1
                  omega
              have fin : ∀ M3, CX M0 M3 S p → Q (.inl (some (.inl (nI 4294967286 - nI (rr - 1))))) M3 := fun M3 h3 => hQs M3 h3
              first
                | refine tail _ (fun M3 h3 => ?_)
                | refine ⟨fun z => absurd z (by omega), fun _ => tail _ (fun M3 h3 => ?_)⟩
              try simp only [↓cb_X9_set_0, ↓cb_X9_set_17, ↓cb_X9_set_56, ↓cb_X9_set_66, ↓cb_X9_set_113, ↓te_aldP, ↓te_alen, ↓te_aload, ↓te_astore, ↓te_bin, ↓te_call, ↓te_callV, ↓te_const, ↓te_dup, ↓te_getI, ↓te_getP, ↓te_icmp, ↓te_if, ↓te_iload, ↓te_iret, ↓te_istore, ↓te_putI, ↓te_throw, ↓evb_c, ↓evb_n, ↓evk_ap, ↓evm_cut, ↓evm_go, ↓evm_0, ↓jret_v, ↓jret_n, jget, jset, cond_true, cond_false, Nat.reduceBEq, jc1, List.take_succ_cons, List.take_zero, List.drop_succ_cons, List.drop_zero, List.reverse_cons, List.reverse_nil, List.nil_append, List.cons_append, List.length_cons, List.length_nil, Nat.zero_add, Nat.reduceAdd, beq_self_eq_true, true_and, and_true, Nat.reduceLeDiff, Nat.le_refl, Nat.zero_le, Bool.or_true, Bool.true_or, Bool.or_false, Bool.false_or, Bool.or_self]
              try simp (disch := omega) only [Nat.reduceEqDiff, Prod.mk.injEq, Option.some.injEq, true_and, and_true, exists_eq_left', exists_eq_right, exists_and_left, exists_const, true_or, or_true, ne_eq, not_true_eq_false, not_false_eq_true, reduceCtorEq, false_and, and_false, if_true, if_false, forall_const, true_implies, false_implies, implies_true, qI_wI, qI_wP, qP_wI, qP_wP, qN_wI, qN_wP, and_self, nI_add, pk_mul, nI_clamp, vp_in_nI, ng_1, ng_10, nI_eq32, cs_0, cs_1, cs_2, cs_3, cs_4, cs_5, cs_6, cs_7, cs_8, cs_9, cs_10, cs_11, cs_12, cs_13, cs_14, cs_15, cs_16, cs_17, cs_18, cs_19, cs_20, cs_21, cs_22, cs_23, cs_24, cs_25, cs_26, cs_27, cs_28, cs_29, cs_30, cs_31, cs_32, cs_33, cs_34, cs_35, cs_36, cs_37, cs_38, cs_39, cs_40, cs_41, cs_42, cs_43, cs_44, cs_45, cs_46, cs_47, cs_48, cs_49, cs_50, cs_51, cs_52, cs_53, cs_54, cs_55, cs_56, cs_57, cs_58, cs_59, cs_60, cs_61, cs_62, cs_63, cs_64, cs_97, cs_100, cs_122, cs_200, cs_300, cs_448, cs_1000, al_11, al_12, al_13, al_14, al_15, al_16, al_17, al_18, al_19, al_20, al_21, al_22, al_23, al_24, al_25, al_26, al_27, al_28, al_29, al_30, al_31, al_32, al_33, al_34, al_35, al_36, al_37, al_38, al_39, al_40, al_41, al_42, al_43, al_44, al_45, al_46, al_47]
              exact fin M3 h3
          try simp only [↓cb_X9_set_0, ↓cb_X9_set_17, ↓cb_X9_set_56, ↓cb_X9_set_66, ↓cb_X9_set_113, ↓te_aldP, ↓te_alen, ↓te_aload, ↓te_astore, ↓te_bin, ↓te_call, ↓te_callV, ↓te_const, ↓te_dup, ↓te_getI, ↓te_getP, ↓te_icmp, ↓te_if, ↓te_iload, ↓te_iret, ↓te_istore, ↓te_putI, ↓te_throw, ↓evb_c, ↓evb_n, ↓evk_ap, ↓evm_cut, ↓evm_go, ↓evm_0, ↓jret_v, ↓jret_n, jget, jset, cond_true, cond_false, Nat.reduceBEq, jc1, List.take_succ_cons, List.take_zero, List.drop_succ_cons, List.drop_zero, List.reverse_cons, List.reverse_nil, List.nil_append, List.cons_append, List.length_cons, List.length_nil, Nat.zero_add, Nat.reduceAdd, beq_self_eq_true, true_and, and_true, Nat.reduceLeDiff, Nat.le_refl, Nat.zero_le, Bool.or_true, Bool.true_or, Bool.or_false, Bool.false_or, Bool.or_self]
          try simp (disch := omega) only [Nat.reduceEqDiff, Prod.mk.injEq, Option.some.injEq, true_and, and_true, exists_eq_left', exists_eq_right, exists_and_left, exists_const, true_or, or_true, ne_eq, not_true_eq_false, not_false_eq_true, reduceCtorEq, false_and, and_false, if_true, if_false, forall_const, true_implies, false_implies, implies_true, qI_wI, qI_wP, qP_wI, qP_wP, qN_wI, qN_wP, and_self, nI_add, pk_mul, nI_clamp, vp_in_nI, ng_1, ng_10, nI_eq32, cs_0, cs_1, cs_2, cs_3, cs_4, cs_5, cs_6, cs_7, cs_8, cs_9, cs_10, cs_11, cs_12, cs_13, cs_14, cs_15, cs_16, cs_17, cs_18, cs_19, cs_20, cs_21, cs_22, cs_23, cs_24, cs_25, cs_26, cs_27, cs_28, cs_29, cs_30, cs_31, cs_32, cs_33, cs_34, cs_35, cs_36, cs_37, cs_38, cs_39, cs_40, cs_41, cs_42, cs_43, cs_44, cs_45, cs_46, cs_47, cs_48, cs_49, cs_50, cs_51, cs_52, cs_53, cs_54, cs_55, cs_56, cs_57, cs_58, cs_59, cs_60, cs_61, cs_62, cs_63, cs_64, cs_97, cs_100, cs_122, cs_200, cs_300, cs_448, cs_1000, al_11, al_12, al_13, al_14, al_15, al_16, al_17, al_18, al_19, al_20, al_21, al_22, al_23, al_24, al_25, al_26, al_27, al_28, al_29, al_30, al_31, al_32, al_33, al_34, al_35, al_36, al_37, al_38, al_39, al_40, al_41, al_42, al_43, al_44, al_45, al_46, al_47, b71, b81, nI_ltI]
          first
            | exact ⟨fun _ => k66, fun z => absurd (by omega) z⟩
            | exact ⟨fun z => absurd rfl z, fun _ => ⟨fun _ => k66, fun z => absurd (by omega) z⟩⟩
    try simp only [↓cb_X9_set_0, ↓cb_X9_set_17, ↓cb_X9_set_56, ↓cb_X9_set_66, ↓cb_X9_set_113, ↓te_aldP, ↓te_alen, ↓te_aload, ↓te_astore, ↓te_bin, ↓te_call, ↓te_callV, ↓te_const, ↓te_dup, ↓te_getI, ↓te_getP, ↓te_icmp, ↓te_if, ↓te_iload, ↓te_iret, ↓te_istore, ↓te_putI, ↓te_throw, ↓evb_c, ↓evb_n, ↓evk_ap, ↓evm_cut, ↓evm_go, ↓evm_0, ↓jret_v, ↓jret_n, jget, jset, cond_true, cond_false, Nat.reduceBEq, jc1, List.take_succ_cons, List.take_zero, List.drop_succ_cons, List.drop_zero, List.reverse_cons, List.reverse_nil, List.nil_append, List.cons_append, List.length_cons, List.length_nil, Nat.zero_add, Nat.reduceAdd, beq_self_eq_true, true_and, and_true, Nat.reduceLeDiff, Nat.le_refl, Nat.zero_le, Bool.or_true, Bool.true_or, Bool.or_false, Bool.false_or, Bool.or_self]
    try simp (disch := omega) only [Nat.reduceEqDiff, Prod.mk.injEq, Option.some.injEq, true_and, and_true, exists_eq_left', exists_eq_right, exists_and_left, exists_const, true_or, or_true, ne_eq, not_true_eq_false, not_false_eq_true, reduceCtorEq, false_and, and_false, if_true, if_false, forall_const, true_implies, false_implies, implies_true, qI_wI, qI_wP, qP_wI, qP_wP, qN_wI, qN_wP, and_self, nI_add, pk_mul, nI_clamp, vp_in_nI, ng_1, ng_10, nI_eq32, cs_0, cs_1, cs_2, cs_3, cs_4, cs_5, cs_6, cs_7, cs_8, cs_9, cs_10, cs_11, cs_12, cs_13, cs_14, cs_15, cs_16, cs_17, cs_18, cs_19, cs_20, cs_21, cs_22, cs_23, cs_24, cs_25, cs_26, cs_27, cs_28, cs_29, cs_30, cs_31, cs_32, cs_33, cs_34, cs_35, cs_36, cs_37, cs_38, cs_39, cs_40, cs_41, cs_42, cs_43, cs_44, cs_45, cs_46, cs_47, cs_48, cs_49, cs_50, cs_51, cs_52, cs_53, cs_54, cs_55, cs_56, cs_57, cs_58, cs_59, cs_60, cs_61, cs_62, cs_63, cs_64, cs_97, cs_100, cs_122, cs_200, cs_300, cs_448, cs_1000, al_11, al_12, al_13, al_14, al_15, al_16, al_17, al_18, al_19, al_20, al_21, al_22, al_23, al_24, al_25, al_26, al_27, al_28, al_29, al_30, al_31, al_32, al_33, al_34, al_35, al_36, al_37, al_38, al_39, al_40, al_41, al_42, al_43, al_44, al_45, al_46, al_47]
    first
      | exact k17
      | exact ⟨fun _ => k17, fun z => absurd (by omega) z⟩
  · have r1 : sf_setR S x bt = (1, 0) := by unfold sf_setR; rw [if_neg h1]
    rw [jb_f h1]
    have g := hQ3 (by rw [r1]; omega) M hM
    rw [r1] at g
    try simp only [↓cb_X9_set_0, ↓cb_X9_set_17, ↓cb_X9_set_56, ↓cb_X9_set_66, ↓cb_X9_set_113, ↓te_aldP, ↓te_alen, ↓te_aload, ↓te_astore, ↓te_bin, ↓te_call, ↓te_callV, ↓te_const, ↓te_dup, ↓te_getI, ↓te_getP, ↓te_icmp, ↓te_if, ↓te_iload, ↓te_iret, ↓te_istore, ↓te_putI, ↓te_throw, ↓evb_c, ↓evb_n, ↓evk_ap, ↓evm_cut, ↓evm_go, ↓evm_0, ↓jret_v, ↓jret_n, jget, jset, cond_true, cond_false, Nat.reduceBEq, jc1, List.take_succ_cons, List.take_zero, List.drop_succ_cons, List.drop_zero, List.reverse_cons, List.reverse_nil, List.nil_append, List.cons_append, List.length_cons, List.length_nil, Nat.zero_add, Nat.reduceAdd, beq_self_eq_true, true_and, and_true, Nat.reduceLeDiff, Nat.le_refl, Nat.zero_le, Bool.or_true, Bool.true_or, Bool.or_false, Bool.false_or, Bool.or_self]
    try simp (disch := omega) only [Nat.reduceEqDiff, Prod.mk.injEq, Option.some.injEq, true_and, and_true, exists_eq_left', exists_eq_right, exists_and_left, exists_const, true_or, or_true, ne_eq, not_true_eq_false, not_false_eq_true, reduceCtorEq, false_and, and_false, if_true, if_false, forall_const, true_implies, false_implies, implies_true, qI_wI, qI_wP, qP_wI, qP_wP, qN_wI, qN_wP, and_self, nI_add, pk_mul, nI_clamp, vp_in_nI, ng_1, ng_10, nI_eq32, cs_0, cs_1, cs_2, cs_3, cs_4, cs_5, cs_6, cs_7, cs_8, cs_9, cs_10, cs_11, cs_12, cs_13, cs_14, cs_15, cs_16, cs_17, cs_18, cs_19, cs_20, cs_21, cs_22, cs_23, cs_24, cs_25, cs_26, cs_27, cs_28, cs_29, cs_30, cs_31, cs_32, cs_33, cs_34, cs_35, cs_36, cs_37, cs_38, cs_39, cs_40, cs_41, cs_42, cs_43, cs_44, cs_45, cs_46, cs_47, cs_48, cs_49, cs_50, cs_51, cs_52, cs_53, cs_54, cs_55, cs_56, cs_57, cs_58, cs_59, cs_60, cs_61, cs_62, cs_63, cs_64, cs_97, cs_100, cs_122, cs_200, cs_300, cs_448, cs_1000, al_11, al_12, al_13, al_14, al_15, al_16, al_17, al_18, al_19, al_20, al_21, al_22, al_23, al_24, al_25, al_26, al_27, al_28, al_29, al_30, al_31, al_32, al_33, al_34, al_35, al_36, al_37, al_38, al_39, al_40, al_41, al_42, al_43, al_44, al_45, al_46, al_47]
    first
      | exact g
      | exact ⟨fun z => absurd rfl z, fun _ => g⟩
