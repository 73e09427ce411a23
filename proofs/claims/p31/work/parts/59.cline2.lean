/-! THE CLASS: a line's spaces back; a line taken away -/
set_option maxRecDepth 20000 in
set_option maxHeartbeats 20000000 in
theorem cc_takeBack (G : jx_G) {M0 M : jx_M} {S : jS} {p : Nat → Nat} {l : Nat} {Q : jx_O → jx_M → Prop} (hM : CX M0 M S p) (hl : l < S 10 14) (hl12 : S 10 14 ≤ 12) (hx : ∀ l', l' < S 10 14 → S 38 l' ≤ 60) (hQ : ∀ M', CX M0 M' (spEmpty S l) p → CZ M' (p l) → Q (.inl none) M') : Mt G m_X7_takeBackFrom [oR 7 0, oR 3 (p l)] M Q := by
  refine Mt.of (sc_X7_takeBackFrom G) (by decide +kernel) (jArgs.of rfl) (Nat.le_of_ble_eq_true rfl) (fun Wn hC => ?_)
  have h7 := hM.1.1.2.1.1
  have hA := hM.1.2.2.2.2.2.2.2.2.1
  have ho := (hM.1.2.2.2.2.2.2.2.2.2.1.1 l (by omega)).1
  have key : ∀ (d j : Nat) (M1 : jx_M), j + d = 5 → (∀ r i c, qI M1 r i c = if r = 24 ∧ i = 0 ∧ c < j then qI M 24 0 c + qI M 20 (p l) c else qI M r i c) → (∀ r i c, qP M1 r i c = qP M r i c) → (∀ k, qJ M1 k = qJ M k) → (∀ r, qN M1 r = qN M r) → Wn 2 [some (oR 7 0), some (oR 3 (p l)), some (vI j)] [] M1 0 0 := by
    intro d
    induction d with
    | zero =>
      intro j M1 g1 h1 h2 h3 h4
      have g2 : j = 5 := by omega
      subst g2
      have b7 : qP M1 7 0 0 = some 0 := by rw [h2]; exact h7
      have bA : CA M1 := hA.fr (fun o k _ => h2 3 o k)
      have k27 : Wn 27 [some (oR 7 0), some (oR 3 (p l)), some (vI 5)] [] M1 0 0 := by
        refine ev_at hC (fun pc => false) 9 27 (ls := [some (oR 7 0), some (oR 3 (p l)), some (vI 5)]) ?_
        try simp only [↓cb_X7_takeBackFrom_0, ↓cb_X7_takeBackFrom_2, ↓cb_X7_takeBackFrom_27, ↓te_alen, ↓te_aload, ↓te_callV, ↓te_const, ↓te_getP, ↓te_goto, ↓te_icmp, ↓te_iinc, ↓te_iload, ↓te_istore, ↓te_vret, ↓evb_c, ↓evb_n, ↓evk_ap, ↓evm_cut, ↓evm_go, ↓evm_0, ↓jret_v, ↓jret_n, jget, jset, cond_true, cond_false, Nat.reduceBEq, jc1, List.take_succ_cons, List.take_zero, List.drop_succ_cons, List.drop_zero, List.reverse_cons, List.reverse_nil, List.nil_append, List.cons_append, List.length_cons, List.length_nil, Nat.zero_add, Nat.reduceAdd, beq_self_eq_true, true_and, and_true, Nat.reduceLeDiff, Nat.le_refl, Nat.zero_le, Bool.or_true, Bool.true_or, Bool.or_false, Bool.false_or, Bool.or_self]
        try simp (disch := omega) only [Nat.reduceEqDiff, Prod.mk.injEq, Option.some.injEq, true_and, and_true, exists_eq_left', exists_eq_right, exists_and_left, exists_const, true_or, or_true, ne_eq, not_true_eq_false, not_false_eq_true, reduceCtorEq, false_and, and_false, if_true, if_false, forall_const, true_implies, false_implies, implies_true, qI_wI, qI_wP, qP_wI, qP_wP, qN_wI, qN_wP, and_self, nI_add, pk_mul, nI_clamp, vp_in_nI, ng_1, ng_10, nI_eq32, cs_0, cs_1, cs_2, cs_3, cs_4, cs_5, cs_6, cs_7, cs_8, cs_9, cs_10, cs_11, cs_12, cs_13, cs_14, cs_15, cs_16, cs_17, cs_18, cs_19, cs_20, cs_21, cs_22, cs_23, cs_24, cs_25, cs_26, cs_27, cs_28, cs_29, cs_30, cs_31, cs_32, cs_33, cs_34, cs_35, cs_36, cs_37, cs_38, cs_39, cs_40, cs_41, cs_42, cs_43, cs_44, cs_45, cs_46, cs_47, cs_48, cs_49, cs_50, cs_51, cs_52, cs_53, cs_54, cs_55, cs_56, cs_57, cs_58, cs_59, cs_60, cs_61, cs_62, cs_63, cs_64, cs_97, cs_100, cs_122, cs_200, cs_300, cs_448, cs_1000, al_11, al_12, al_13, al_14, al_15, al_16, al_17, al_18, al_19, al_20, al_21, al_22, al_23, al_24, al_25, al_26, al_27, al_28, al_29, al_30, al_31, al_32, al_33, al_34, al_35, al_36, al_37, al_38, al_39, al_40, al_41, al_42, al_43, al_44, al_45, al_46, al_47]
        refine cc_dropSpaces G bA ho (fun M2 e1 e2 e3 e4 => ?_)
        try simp only [↓cb_X7_takeBackFrom_0, ↓cb_X7_takeBackFrom_2, ↓cb_X7_takeBackFrom_27, ↓te_alen, ↓te_aload, ↓te_callV, ↓te_const, ↓te_getP, ↓te_goto, ↓te_icmp, ↓te_iinc, ↓te_iload, ↓te_istore, ↓te_vret, ↓evb_c, ↓evb_n, ↓evk_ap, ↓evm_cut, ↓evm_go, ↓evm_0, ↓jret_v, ↓jret_n, jget, jset, cond_true, cond_false, Nat.reduceBEq, jc1, List.take_succ_cons, List.take_zero, List.drop_succ_cons, List.drop_zero, List.reverse_cons, List.reverse_nil, List.nil_append, List.cons_append, List.length_cons, List.length_nil, Nat.zero_add, Nat.reduceAdd, beq_self_eq_true, true_and, and_true, Nat.reduceLeDiff, Nat.le_refl, Nat.zero_le, Bool.or_true, Bool.true_or, Bool.or_false, Bool.false_or, Bool.or_self]
        have hz : CZ M2 (p l) := ⟨fun g hg => by rw [e1, if_pos ⟨rfl, rfl, hg⟩], fun j hj => by rw [e1, if_neg (by omega), if_pos ⟨rfl, rfl, hj⟩]⟩
        have hI : ∀ r i c, ¬ (r = 24 ∨ ((r = 19 ∨ r = 20) ∧ i = p l)) → qI M2 r i c = qI M r i c := fun r i c hr => by rw [e1, if_neg (by omega), if_neg (by omega), h1, if_neg (by omega)]
        have hP : ∀ r i c, qP M2 r i c = qP M r i c := fun r i c => (e2 r i c).trans (h2 r i c)
        have hN : ∀ r, qN M2 r = qN M r := fun r => (e4 r).trans (h4 r)
        refine hQ M2 ⟨CM_empty hM.1 hl hl12 hx hI hP (hN 6) hz (fun j hj => by rw [e1, if_neg (by omega), if_neg (by omega), h1, if_pos ⟨rfl, rfl, hj⟩]), fun r i k hr => ⟨?_, ?_⟩, fun k => ?_, fun r hr => ?_⟩ hz
        · rw [hI r i k (by omega)]; exact (hM.2.1 r i k hr).1
        · rw [hP]; exact (hM.2.1 r i k hr).2
        · rw [e3, h3]; exact hM.2.2.1 k
        · rw [hN]; exact hM.2.2.2 r hr
      refine ev_at hC (fun pc => pc == 2 || pc == 27) 9 2 (ls := [some (oR 7 0), some (oR 3 (p l)), some (vI 5)]) ?_
      try simp only [↓cb_X7_takeBackFrom_0, ↓cb_X7_takeBackFrom_2, ↓cb_X7_takeBackFrom_27, ↓te_alen, ↓te_aload, ↓te_callV, ↓te_const, ↓te_getP, ↓te_goto, ↓te_icmp, ↓te_iinc, ↓te_iload, ↓te_istore, ↓te_vret, ↓evb_c, ↓evb_n, ↓evk_ap, ↓evm_cut, ↓evm_go, ↓evm_0, ↓jret_v, ↓jret_n, jget, jset, cond_true, cond_false, Nat.reduceBEq, jc1, List.take_succ_cons, List.take_zero, List.drop_succ_cons, List.drop_zero, List.reverse_cons, List.reverse_nil, List.nil_append, List.cons_append, List.length_cons, List.length_nil, Nat.zero_add, Nat.reduceAdd, beq_self_eq_true, true_and, and_true, Nat.reduceLeDiff, Nat.le_refl, Nat.zero_le, Bool.or_true, Bool.true_or, Bool.or_false, Bool.false_or, Bool.or_self]
      try simp (disch := omega) only [Nat.reduceEqDiff, Prod.mk.injEq, Option.some.injEq, true_and, and_true, exists_eq_left', exists_eq_right, exists_and_left, exists_const, true_or, or_true, ne_eq, not_true_eq_false, not_false_eq_true, reduceCtorEq, false_and, and_false, if_true, if_false, forall_const, true_implies, false_implies, implies_true, qI_wI, qI_wP, qP_wI, qP_wP, qN_wI, qN_wP, and_self, nI_add, pk_mul, nI_clamp, vp_in_nI, ng_1, ng_10, nI_eq32, cs_0, cs_1, cs_2, cs_3, cs_4, cs_5, cs_6, cs_7, cs_8, cs_9, cs_10, cs_11, cs_12, cs_13, cs_14, cs_15, cs_16, cs_17, cs_18, cs_19, cs_20, cs_21, cs_22, cs_23, cs_24, cs_25, cs_26, cs_27, cs_28, cs_29, cs_30, cs_31, cs_32, cs_33, cs_34, cs_35, cs_36, cs_37, cs_38, cs_39, cs_40, cs_41, cs_42, cs_43, cs_44, cs_45, cs_46, cs_47, cs_48, cs_49, cs_50, cs_51, cs_52, cs_53, cs_54, cs_55, cs_56, cs_57, cs_58, cs_59, cs_60, cs_61, cs_62, cs_63, cs_64, cs_97, cs_100, cs_122, cs_200, cs_300, cs_448, cs_1000, al_11, al_12, al_13, al_14, al_15, al_16, al_17, al_18, al_19, al_20, al_21, al_22, al_23, al_24, al_25, al_26, al_27, al_28, al_29, al_30, al_31, al_32, al_33, al_34, al_35, al_36, al_37, al_38, al_39, al_40, al_41, al_42, al_43, al_44, al_45, al_46, al_47, b7, nI_leI, Nat.reduceLeDiff]
      first
        | exact k27
        | exact ⟨fun _ => k27, fun z => absurd (Nat.le_refl 5) z⟩
    | succ d ih =>
      intro j M1 g1 h1 h2 h3 h4
      have b7 : qP M1 7 0 0 = some 0 := by rw [h2]; exact h7
      have bA : CA M1 := hA.fr (fun o k _ => h2 3 o k)
      refine ev_at hC (fun pc => pc == 2 || pc == 27) 9 2 (ls := [some (oR 7 0), some (oR 3 (p l)), some (vI j)]) ?_
      try simp only [↓cb_X7_takeBackFrom_0, ↓cb_X7_takeBackFrom_2, ↓cb_X7_takeBackFrom_27, ↓te_alen, ↓te_aload, ↓te_callV, ↓te_const, ↓te_getP, ↓te_goto, ↓te_icmp, ↓te_iinc, ↓te_iload, ↓te_istore, ↓te_vret, ↓evb_c, ↓evb_n, ↓evk_ap, ↓evm_cut, ↓evm_go, ↓evm_0, ↓jret_v, ↓jret_n, jget, jset, cond_true, cond_false, Nat.reduceBEq, jc1, List.take_succ_cons, List.take_zero, List.drop_succ_cons, List.drop_zero, List.reverse_cons, List.reverse_nil, List.nil_append, List.cons_append, List.length_cons, List.length_nil, Nat.zero_add, Nat.reduceAdd, beq_self_eq_true, true_and, and_true, Nat.reduceLeDiff, Nat.le_refl, Nat.zero_le, Bool.or_true, Bool.true_or, Bool.or_false, Bool.false_or, Bool.or_self]
      try simp (disch := omega) only [Nat.reduceEqDiff, Prod.mk.injEq, Option.some.injEq, true_and, and_true, exists_eq_left', exists_eq_right, exists_and_left, exists_const, true_or, or_true, ne_eq, not_true_eq_false, not_false_eq_true, reduceCtorEq, false_and, and_false, if_true, if_false, forall_const, true_implies, false_implies, implies_true, qI_wI, qI_wP, qP_wI, qP_wP, qN_wI, qN_wP, and_self, nI_add, pk_mul, nI_clamp, vp_in_nI, ng_1, ng_10, nI_eq32, cs_0, cs_1, cs_2, cs_3, cs_4, cs_5, cs_6, cs_7, cs_8, cs_9, cs_10, cs_11, cs_12, cs_13, cs_14, cs_15, cs_16, cs_17, cs_18, cs_19, cs_20, cs_21, cs_22, cs_23, cs_24, cs_25, cs_26, cs_27, cs_28, cs_29, cs_30, cs_31, cs_32, cs_33, cs_34, cs_35, cs_36, cs_37, cs_38, cs_39, cs_40, cs_41, cs_42, cs_43, cs_44, cs_45, cs_46, cs_47, cs_48, cs_49, cs_50, cs_51, cs_52, cs_53, cs_54, cs_55, cs_56, cs_57, cs_58, cs_59, cs_60, cs_61, cs_62, cs_63, cs_64, cs_97, cs_100, cs_122, cs_200, cs_300, cs_448, cs_1000, al_11, al_12, al_13, al_14, al_15, al_16, al_17, al_18, al_19, al_20, al_21, al_22, al_23, al_24, al_25, al_26, al_27, al_28, al_29, al_30, al_31, al_32, al_33, al_34, al_35, al_36, al_37, al_38, al_39, al_40, al_41, al_42, al_43, al_44, al_45, al_46, al_47, b7, nI_leI]
      refine ⟨fun z => absurd z (by omega), fun _ => ?_⟩
      refine cc_spOf G bA ho (by omega) ?_
      try simp only [↓cb_X7_takeBackFrom_0, ↓cb_X7_takeBackFrom_2, ↓cb_X7_takeBackFrom_27, ↓te_alen, ↓te_aload, ↓te_callV, ↓te_const, ↓te_getP, ↓te_goto, ↓te_icmp, ↓te_iinc, ↓te_iload, ↓te_istore, ↓te_vret, ↓evb_c, ↓evb_n, ↓evk_ap, ↓evm_cut, ↓evm_go, ↓evm_0, ↓jret_v, ↓jret_n, jget, jset, cond_true, cond_false, Nat.reduceBEq, jc1, List.take_succ_cons, List.take_zero, List.drop_succ_cons, List.drop_zero, List.reverse_cons, List.reverse_nil, List.nil_append, List.cons_append, List.length_cons, List.length_nil, Nat.zero_add, Nat.reduceAdd, beq_self_eq_true, true_and, and_true, Nat.reduceLeDiff, Nat.le_refl, Nat.zero_le, Bool.or_true, Bool.true_or, Bool.or_false, Bool.false_or, Bool.or_self]
      try simp (disch := omega) only [Nat.reduceEqDiff, Prod.mk.injEq, Option.some.injEq, true_and, and_true, exists_eq_left', exists_eq_right, exists_and_left, exists_const, true_or, or_true, ne_eq, not_true_eq_false, not_false_eq_true, reduceCtorEq, false_and, and_false, if_true, if_false, forall_const, true_implies, false_implies, implies_true, qI_wI, qI_wP, qP_wI, qP_wP, qN_wI, qN_wP, and_self, nI_add, pk_mul, nI_clamp, vp_in_nI, ng_1, ng_10, nI_eq32, cs_0, cs_1, cs_2, cs_3, cs_4, cs_5, cs_6, cs_7, cs_8, cs_9, cs_10, cs_11, cs_12, cs_13, cs_14, cs_15, cs_16, cs_17, cs_18, cs_19, cs_20, cs_21, cs_22, cs_23, cs_24, cs_25, cs_26, cs_27, cs_28, cs_29, cs_30, cs_31, cs_32, cs_33, cs_34, cs_35, cs_36, cs_37, cs_38, cs_39, cs_40, cs_41, cs_42, cs_43, cs_44, cs_45, cs_46, cs_47, cs_48, cs_49, cs_50, cs_51, cs_52, cs_53, cs_54, cs_55, cs_56, cs_57, cs_58, cs_59, cs_60, cs_61, cs_62, cs_63, cs_64, cs_97, cs_100, cs_122, cs_200, cs_300, cs_448, cs_1000, al_11, al_12, al_13, al_14, al_15, al_16, al_17, al_18, al_19, al_20, al_21, al_22, al_23, al_24, al_25, al_26, al_27, al_28, al_29, al_30, al_31, al_32, al_33, al_34, al_35, al_36, al_37, al_38, al_39, al_40, al_41, al_42, al_43, al_44, al_45, al_46, al_47]
      refine cc_add G b7 (by omega) ?_
      try simp only [↓cb_X7_takeBackFrom_0, ↓cb_X7_takeBackFrom_2, ↓cb_X7_takeBackFrom_27, ↓te_alen, ↓te_aload, ↓te_callV, ↓te_const, ↓te_getP, ↓te_goto, ↓te_icmp, ↓te_iinc, ↓te_iload, ↓te_istore, ↓te_vret, ↓evb_c, ↓evb_n, ↓evk_ap, ↓evm_cut, ↓evm_go, ↓evm_0, ↓jret_v, ↓jret_n, jget, jset, cond_true, cond_false, Nat.reduceBEq, jc1, List.take_succ_cons, List.take_zero, List.drop_succ_cons, List.drop_zero, List.reverse_cons, List.reverse_nil, List.nil_append, List.cons_append, List.length_cons, List.length_nil, Nat.zero_add, Nat.reduceAdd, beq_self_eq_true, true_and, and_true, Nat.reduceLeDiff, Nat.le_refl, Nat.zero_le, Bool.or_true, Bool.true_or, Bool.or_false, Bool.false_or, Bool.or_self]
      try simp (disch := omega) only [Nat.reduceEqDiff, Prod.mk.injEq, Option.some.injEq, true_and, and_true, exists_eq_left', exists_eq_right, exists_and_left, exists_const, true_or, or_true, ne_eq, not_true_eq_false, not_false_eq_true, reduceCtorEq, false_and, and_false, if_true, if_false, forall_const, true_implies, false_implies, implies_true, qI_wI, qI_wP, qP_wI, qP_wP, qN_wI, qN_wP, and_self, nI_add, pk_mul, nI_clamp, vp_in_nI, ng_1, ng_10, nI_eq32, cs_0, cs_1, cs_2, cs_3, cs_4, cs_5, cs_6, cs_7, cs_8, cs_9, cs_10, cs_11, cs_12, cs_13, cs_14, cs_15, cs_16, cs_17, cs_18, cs_19, cs_20, cs_21, cs_22, cs_23, cs_24, cs_25, cs_26, cs_27, cs_28, cs_29, cs_30, cs_31, cs_32, cs_33, cs_34, cs_35, cs_36, cs_37, cs_38, cs_39, cs_40, cs_41, cs_42, cs_43, cs_44, cs_45, cs_46, cs_47, cs_48, cs_49, cs_50, cs_51, cs_52, cs_53, cs_54, cs_55, cs_56, cs_57, cs_58, cs_59, cs_60, cs_61, cs_62, cs_63, cs_64, cs_97, cs_100, cs_122, cs_200, cs_300, cs_448, cs_1000, al_11, al_12, al_13, al_14, al_15, al_16, al_17, al_18, al_19, al_20, al_21, al_22, al_23, al_24, al_25, al_26, al_27, al_28, al_29, al_30, al_31, al_32, al_33, al_34, al_35, al_36, al_37, al_38, al_39, al_40, al_41, al_42, al_43, al_44, al_45, al_46, al_47]
      refine ih (j + 1) _ (by omega) (fun r i c => ?_) h2 h3 h4
      have z24 : qI M1 24 0 j = qI M 24 0 j := by rw [h1, if_neg (by omega)]
      have z20 : qI M1 20 (p l) j = qI M 20 (p l) j := by rw [h1, if_neg (by omega)]
      rw [qI_wI, z24, z20]
      by_cases e : r = 24 ∧ i = 0 ∧ c = j
      · rw [if_pos e, if_pos (by omega), e.2.2]
      · rw [if_neg e, h1]
        by_cases e2 : r = 24 ∧ i = 0 ∧ c < j
        · rw [if_pos e2, if_pos (by omega)]
        · rw [if_neg e2, if_neg (by omega)]
  refine ev_at hC (fun pc => pc == 2) 9 0 (ls := [some (oR 7 0), some (oR 3 (p l)), none]) ?_
  try simp only [↓cb_X7_takeBackFrom_0, ↓cb_X7_takeBackFrom_2, ↓cb_X7_takeBackFrom_27, ↓te_alen, ↓te_aload, ↓te_callV, ↓te_const, ↓te_getP, ↓te_goto, ↓te_icmp, ↓te_iinc, ↓te_iload, ↓te_istore, ↓te_vret, ↓evb_c, ↓evb_n, ↓evk_ap, ↓evm_cut, ↓evm_go, ↓evm_0, ↓jret_v, ↓jret_n, jget, jset, cond_true, cond_false, Nat.reduceBEq, jc1, List.take_succ_cons, List.take_zero, List.drop_succ_cons, List.drop_zero, List.reverse_cons, List.reverse_nil, List.nil_append, List.cons_append, List.length_cons, List.length_nil, Nat.zero_add, Nat.reduceAdd, beq_self_eq_true, true_and, and_true, Nat.reduceLeDiff, Nat.le_refl, Nat.zero_le, Bool.or_true, Bool.true_or, Bool.or_false, Bool.false_or, Bool.or_self]
  try simp (disch := omega) only [Nat.reduceEqDiff, Prod.mk.injEq, Option.some.injEq, true_and, and_true, exists_eq_left', exists_eq_right, exists_and_left, exists_const, true_or, or_true, ne_eq, not_true_eq_false, not_false_eq_true, reduceCtorEq, false_and, and_false, if_true, if_false, forall_const, true_implies, false_implies, implies_true, qI_wI, qI_wP, qP_wI, qP_wP, qN_wI, qN_wP, and_self, nI_add, pk_mul, nI_clamp, vp_in_nI, ng_1, ng_10, nI_eq32, cs_0, cs_1, cs_2, cs_3, cs_4, cs_5, cs_6, cs_7, cs_8, cs_9, cs_10, cs_11, cs_12, cs_13, cs_14, cs_15, cs_16, cs_17, cs_18, cs_19, cs_20, cs_21, cs_22, cs_23, cs_24, cs_25, cs_26, cs_27, cs_28, cs_29, cs_30, cs_31, cs_32, cs_33, cs_34, cs_35, cs_36, cs_37, cs_38, cs_39, cs_40, cs_41, cs_42, cs_43, cs_44, cs_45, cs_46, cs_47, cs_48, cs_49, cs_50, cs_51, cs_52, cs_53, cs_54, cs_55, cs_56, cs_57, cs_58, cs_59, cs_60, cs_61, cs_62, cs_63, cs_64, cs_97, cs_100, cs_122, cs_200, cs_300, cs_448, cs_1000, al_11, al_12, al_13, al_14, al_15, al_16, al_17, al_18, al_19, al_20, al_21, al_22, al_23, al_24, al_25, al_26, al_27, al_28, al_29, al_30, al_31, al_32, al_33, al_34, al_35, al_36, al_37, al_38, al_39, al_40, al_41, al_42, al_43, al_44, al_45, al_46, al_47]
  exact key 5 0 M rfl (fun r i c => by rw [if_neg (by omega)]) (fun _ _ _ => rfl) (fun _ => rfl) (fun _ => rfl)
def pDrop (p : Nat → Nat) (l n : Nat) : Nat → Nat := fun j => if j < n - 1 then p (up l j) else if j = n - 1 then p l else p j
theorem CM_drop {M M' : jx_M} {S : jS} {p : Nat → Nat} {l : Nat} (h : CM M S p) (hl : l < S 10 14) (hl12 : S 10 14 ≤ 12) (hx : ∀ l', l' < S 10 14 → S 35 l' ≤ 60 ∧ S 38 l' ≤ 60) (hz : CZ M (p l)) (hI : ∀ r i c, qI M' r i c = if r = 9 ∧ i = 0 ∧ c = 8 then nI (S 10 14 - 1) else qI M r i c) (hP : ∀ r i c, ¬ r = 13 → qP M' r i c = qP M r i c) (h13 : ∀ c, c < 12 → qP M' 13 0 c = some (pDrop p l (S 10 14) c)) (hN : qN M' 6 = qN M 6) : CM M' (spDrop S l) (pDrop p l (S 10 14)) := by
  obtain ⟨hB, hT, hS, hF, hH, hPr, hO, hK, hA, hQ, hL, hZ⟩ := h
  have iI : ∀ r, ¬ r = 9 → sI M M' r := fun r hr i c => by rw [hI, if_neg (fun q => hr q.1)]
  have iP : ∀ r, ¬ r = 13 → sP M M' r := fun r hr i c => hP r i c hr
  have er : ∀ a b, ¬ ((a = 10 ∧ b = 14) ∨ 34 ≤ a ∧ a ≤ 42) → spDrop S l a b = S a b := fun a b hab => spDrop_row S l hab
  have e14 := spDrop_14 S l
  refine ⟨?_, hT.fr (iI 8 (by omega)) (iI 21 (by omega)) (er 10 12 (by omega)) (fun c _ => er 33 c (by omega)), hS.fr (iI 24 (by omega)) (fun c => er 32 c (by omega)), hF.fr (iP 14 (by omega)) (iI 1 (by omega)) (fun c _ => er 43 c (by omega)) (fun c _ => er 44 c (by omega)), hH.fr (iI 2 (by omega)) (iP 22 (by omega)) (er 10 9 (by omega)) (fun c _ => er 31 c (by omega)), hPr.fr (iI 5 (by omega)) (iI 23 (by omega)) (er 10 28 (by omega)) (fun c _ => er 45 c (by omega)), hO.fr (iP 12 (by omega)) (iI 6 (by omega)) (er 10 1 (by omega)) (fun a t ha _ => er a t (by omega)), hK.fr (iP 11 (by omega)) (iI 4 (by omega)) (iP 4 (by omega)) (fun k i _ _ => ⟨iP 6 (by omega) _ _, iP 6 (by omega) _ _⟩) (er 10 1 (by omega)) (fun c _ => er 30 c (by omega)) (fun k i _ _ => er 29 _ (by omega)) (fun t _ => er 25 t (by omega)) (fun t _ => by rw [er 27 t (by omega)]), hA.fr (fun o k _ => iP 3 (by omega) o k), ⟨fun j hj => ⟨?_, h13 j hj⟩, fun i j hi hj e => ?_⟩, fun m hm => ?_, fun m hm hm2 => ?_⟩
  · obtain ⟨b1, b2, b3, b4⟩ := hB
    have p9 : ∀ c, qP M' 9 0 c = qP M 9 0 c := fun c => iP 9 (by omega) 0 c
    refine ⟨?_, ?_, ⟨?_, ?_, ?_, ?_⟩, ?_⟩
    · simp only [p9]; exact b1
    · rw [iP 7 (by omega) 0 0, iP 8 (by omega) 0 0, iP 2 (by omega) 0 0, iP 5 (by omega) 0 0]; exact b2
    · rw [hI, if_neg (by omega), er 10 1 (by omega)]; exact b3.1
    · rw [hI, if_neg (by omega), er 10 13 (by omega)]; exact b3.2.1
    · rw [hI, if_pos ⟨rfl, rfl, rfl⟩, e14]
    · rw [hI, if_neg (by omega), er 10 24 (by omega)]; exact b3.2.2.2
    · rw [hN, er 10 1 (by omega)]; exact b4
  · unfold pDrop
    split
    · exact (hQ.1 _ (by have := up_lt (l := l) (j := j) (n := S 10 14) (by omega); omega)).1
    · split
      · exact (hQ.1 l (by omega)).1
      · exact (hQ.1 j hj).1
  · unfold pDrop at e
    have u1 := fun j (h : j < S 10 14 - 1) => up_lt (l := l) h
    have ue : ∀ a b, up l a = up l b → a = b := fun a b h => by unfold up at h; split at h <;> split at h <;> omega
    have un : ∀ a, ¬ up l a = l := fun a => up_ne
    by_cases ci : i < S 10 14 - 1
    · rw [if_pos ci] at e
      have := u1 i ci
      by_cases cj : j < S 10 14 - 1
      · rw [if_pos cj] at e
        have := u1 j cj
        exact ue _ _ (hQ.2 _ _ (by omega) (by omega) e)
      · rw [if_neg cj] at e
        by_cases cj2 : j = S 10 14 - 1
        · rw [if_pos cj2] at e
          exact absurd (hQ.2 _ _ (by omega) (by omega) e) (un i)
        · rw [if_neg cj2] at e
          have := hQ.2 _ _ (by omega) (by omega) e
          omega
    · rw [if_neg ci] at e
      by_cases ci2 : i = S 10 14 - 1
      · rw [if_pos ci2] at e
        by_cases cj : j < S 10 14 - 1
        · rw [if_pos cj] at e
          have := u1 j cj
          exact absurd (hQ.2 _ _ (by omega) (by omega) e.symm) (un j)
        · rw [if_neg cj] at e
          by_cases cj2 : j = S 10 14 - 1
          · omega
          · rw [if_neg cj2] at e
            have := hQ.2 _ _ (by omega) (by omega) e
            omega
      · rw [if_neg ci2] at e
        by_cases cj : j < S 10 14 - 1
        · rw [if_pos cj] at e
          have := u1 j cj
          have := hQ.2 _ _ (by omega) (by omega) e
          omega
        · rw [if_neg cj] at e
          by_cases cj2 : j = S 10 14 - 1
          · rw [if_pos cj2] at e
            have := hQ.2 _ _ (by omega) (by omega) e
            omega
          · rw [if_neg cj2] at e
            exact hQ.2 _ _ hi hj e
  · rw [e14] at hm
    have hu := up_lt (l := l) hm
    have ex := hx _ hu
    have ep : pDrop p l (S 10 14) m = p (up l m) := if_pos hm
    rw [ep]
    refine ⟨(hL _ hu).1.fr (fun k => iI 3 (by omega) _ k) (iP 3 (by omega) _ _) (fun k => iP 16 (by omega) _ k) (fun k => iI 17 (by omega) _ k) (fun k => iI 18 (by omega) _ k) (fun k _ => iP 6 (by omega) _ _) (fun a ha => spDrop_l S l ha hm) (fun k hk => ⟨spDrop_c S l (by omega) hm (by omega), spDrop_c S l (by omega) hm (by omega)⟩) (fun g hg => spDrop_c S l (by omega) hm (by omega)), (hL _ hu).2.fr (fun k => iI 19 (by omega) _ k) (fun k => iI 20 (by omega) _ k) (spDrop_l S l (by omega) hm) (fun g u hg hu2 => ?_)⟩
    rw [show 448 * m + 7 * g + u = 448 * m + (7 * g + u) by omega, spDrop_u S l hm (by omega), show 448 * up l m + (7 * g + u) = 448 * up l m + 7 * g + u by omega]
  · rw [e14] at hm
    have i19 : ∀ o k, qI M' 19 o k = qI M 19 o k := fun o k => iI 19 (by omega) o k
    have i20 : ∀ o k, qI M' 20 o k = qI M 20 o k := fun o k => iI 20 (by omega) o k
    unfold pDrop
    rw [if_neg (by omega)]
    by_cases c : m = S 10 14 - 1
    · rw [if_pos c]
      exact hz.fr (fun k => i19 _ k) (fun k => i20 _ k)
    · rw [if_neg c]
      exact (hZ m (by omega) hm2).fr (fun k => i19 _ k) (fun k => i20 _ k)
theorem lnP_in {S : jS} {p : Nat → Nat} {l : Nat} (hl : l < S 10 14) (h12 : S 10 14 ≤ 12) : lnP S p (nI l) = some (p l) := by
  unfold lnP
  rw [if_pos (in_at hl (by omega)), jn_nI (by omega)]
set_option maxRecDepth 20000 in
set_option maxHeartbeats 20000000 in
theorem cc_removeLine (G : jx_G) {M0 M : jx_M} {S : jS} {p : Nat → Nat} {l : Nat} {Q : jx_O → jx_M → Prop} (hM : CX M0 M S p) (hl : l < S 10 14) (hl12 : S 10 14 ≤ 12) (hx : ∀ l', l' < S 10 14 → S 35 l' ≤ 60 ∧ S 38 l' ≤ 60) (hQ : ∀ M', CX M0 M' (spDrop (spEmpty S l) l) (pDrop p l (S 10 14)) → Q (.inl none) M') : Mt G m_X9_removeLine [v9, vI l] M Q := by
  refine Mt.of (sc_X9_removeLine G) (by decide +kernel) (jArgs.of rfl) (Nat.le_of_ble_eq_true rfl) (fun Wn hC => ?_)
  have a3 := hM.1.1.1.2.2.1
  refine ev_at hC (fun pc => pc == 11) 9 0 (ls := [some v9, some (vI l), none, none]) ?_
  try simp only [↓cb_X9_removeLine_0, ↓cb_X9_removeLine_11, ↓cb_X9_removeLine_23, ↓cb_X9_removeLine_60, ↓cb_X9_removeLine_99, ↓te_aldP, ↓te_alen, ↓te_aload, ↓te_astP, ↓te_astore, ↓te_bin, ↓te_callV, ↓te_const, ↓te_dup, ↓te_getI, ↓te_getP, ↓te_goto, ↓te_icmp, ↓te_if, ↓te_ifnonnull, ↓te_iinc, ↓te_iload, ↓te_istore, ↓te_putI, ↓te_vret, ↓evb_c, ↓evb_n, ↓evk_ap, ↓evm_cut, ↓evm_go, ↓evm_0, ↓jret_v, ↓jret_n, jget, jset, cond_true, cond_false, Nat.reduceBEq, jc1, List.take_succ_cons, List.take_zero, List.drop_succ_cons, List.drop_zero, List.reverse_cons, List.reverse_nil, List.nil_append, List.cons_append, List.length_cons, List.length_nil, Nat.zero_add, Nat.reduceAdd, beq_self_eq_true, true_and, and_true, Nat.reduceLeDiff, Nat.le_refl, Nat.zero_le, Bool.or_true, Bool.true_or, Bool.or_false, Bool.false_or, Bool.or_self]
  try simp (disch := omega) only [Nat.reduceEqDiff, Prod.mk.injEq, Option.some.injEq, true_and, and_true, exists_eq_left', exists_eq_right, exists_and_left, exists_const, true_or, or_true, ne_eq, not_true_eq_false, not_false_eq_true, reduceCtorEq, false_and, and_false, if_true, if_false, forall_const, true_implies, false_implies, implies_true, qI_wI, qI_wP, qP_wI, qP_wP, qN_wI, qN_wP, and_self, nI_add, pk_mul, nI_clamp, vp_in_nI, ng_1, ng_10, nI_eq32, cs_0, cs_1, cs_2, cs_3, cs_4, cs_5, cs_6, cs_7, cs_8, cs_9, cs_10, cs_11, cs_12, cs_13, cs_14, cs_15, cs_16, cs_17, cs_18, cs_19, cs_20, cs_21, cs_22, cs_23, cs_24, cs_25, cs_26, cs_27, cs_28, cs_29, cs_30, cs_31, cs_32, cs_33, cs_34, cs_35, cs_36, cs_37, cs_38, cs_39, cs_40, cs_41, cs_42, cs_43, cs_44, cs_45, cs_46, cs_47, cs_48, cs_49, cs_50, cs_51, cs_52, cs_53, cs_54, cs_55, cs_56, cs_57, cs_58, cs_59, cs_60, cs_61, cs_62, cs_63, cs_64, cs_97, cs_100, cs_122, cs_200, cs_300, cs_448, cs_1000, al_11, al_12, al_13, al_14, al_15, al_16, al_17, al_18, al_19, al_20, al_21, al_22, al_23, al_24, al_25, al_26, al_27, al_28, al_29, al_30, al_31, al_32, al_33, al_34, al_35, al_36, al_37, al_38, al_39, al_40, al_41, al_42, al_43, al_44, al_45, al_46, al_47]
  refine cc_lineOf G hl12 hM.1 ?_
  rw [lnP_in hl hl12]
  try simp only [↓cb_X9_removeLine_0, ↓cb_X9_removeLine_11, ↓cb_X9_removeLine_23, ↓cb_X9_removeLine_60, ↓cb_X9_removeLine_99, ↓te_aldP, ↓te_alen, ↓te_aload, ↓te_astP, ↓te_astore, ↓te_bin, ↓te_callV, ↓te_const, ↓te_dup, ↓te_getI, ↓te_getP, ↓te_goto, ↓te_icmp, ↓te_if, ↓te_ifnonnull, ↓te_iinc, ↓te_iload, ↓te_istore, ↓te_putI, ↓te_vret, ↓evb_c, ↓evb_n, ↓evk_ap, ↓evm_cut, ↓evm_go, ↓evm_0, ↓jret_v, ↓jret_n, jget, jset, cond_true, cond_false, Nat.reduceBEq, jc1, List.take_succ_cons, List.take_zero, List.drop_succ_cons, List.drop_zero, List.reverse_cons, List.reverse_nil, List.nil_append, List.cons_append, List.length_cons, List.length_nil, Nat.zero_add, Nat.reduceAdd, beq_self_eq_true, true_and, and_true, Nat.reduceLeDiff, Nat.le_refl, Nat.zero_le, Bool.or_true, Bool.true_or, Bool.or_false, Bool.false_or, Bool.or_self]
  try simp (disch := omega) only [Nat.reduceEqDiff, Prod.mk.injEq, Option.some.injEq, true_and, and_true, exists_eq_left', exists_eq_right, exists_and_left, exists_const, true_or, or_true, ne_eq, not_true_eq_false, not_false_eq_true, reduceCtorEq, false_and, and_false, if_true, if_false, forall_const, true_implies, false_implies, implies_true, qI_wI, qI_wP, qP_wI, qP_wP, qN_wI, qN_wP, and_self, nI_add, pk_mul, nI_clamp, vp_in_nI, ng_1, ng_10, nI_eq32, cs_0, cs_1, cs_2, cs_3, cs_4, cs_5, cs_6, cs_7, cs_8, cs_9, cs_10, cs_11, cs_12, cs_13, cs_14, cs_15, cs_16, cs_17, cs_18, cs_19, cs_20, cs_21, cs_22, cs_23, cs_24, cs_25, cs_26, cs_27, cs_28, cs_29, cs_30, cs_31, cs_32, cs_33, cs_34, cs_35, cs_36, cs_37, cs_38, cs_39, cs_40, cs_41, cs_42, cs_43, cs_44, cs_45, cs_46, cs_47, cs_48, cs_49, cs_50, cs_51, cs_52, cs_53, cs_54, cs_55, cs_56, cs_57, cs_58, cs_59, cs_60, cs_61, cs_62, cs_63, cs_64, cs_97, cs_100, cs_122, cs_200, cs_300, cs_448, cs_1000, al_11, al_12, al_13, al_14, al_15, al_16, al_17, al_18, al_19, al_20, al_21, al_22, al_23, al_24, al_25, al_26, al_27, al_28, al_29, al_30, al_31, al_32, al_33, al_34, al_35, al_36, al_37, al_38, al_39, al_40, al_41, al_42, al_43, al_44, al_45, al_46, al_47]
  have k11 : Wn 11 [some v9, some (vI l), some (oR 3 (p l)), none] [] M 0 0 := by
    refine ev_at hC (fun pc => pc == 23) 9 11 (ls := [some v9, some (vI l), some (oR 3 (p l)), none]) ?_
    try simp only [↓cb_X9_removeLine_0, ↓cb_X9_removeLine_11, ↓cb_X9_removeLine_23, ↓cb_X9_removeLine_60, ↓cb_X9_removeLine_99, ↓te_aldP, ↓te_alen, ↓te_aload, ↓te_astP, ↓te_astore, ↓te_bin, ↓te_callV, ↓te_const, ↓te_dup, ↓te_getI, ↓te_getP, ↓te_goto, ↓te_icmp, ↓te_if, ↓te_ifnonnull, ↓te_iinc, ↓te_iload, ↓te_istore, ↓te_putI, ↓te_vret, ↓evb_c, ↓evb_n, ↓evk_ap, ↓evm_cut, ↓evm_go, ↓evm_0, ↓jret_v, ↓jret_n, jget, jset, cond_true, cond_false, Nat.reduceBEq, jc1, List.take_succ_cons, List.take_zero, List.drop_succ_cons, List.drop_zero, List.reverse_cons, List.reverse_nil, List.nil_append, List.cons_append, List.length_cons, List.length_nil, Nat.zero_add, Nat.reduceAdd, beq_self_eq_true, true_and, and_true, Nat.reduceLeDiff, Nat.le_refl, Nat.zero_le, Bool.or_true, Bool.true_or, Bool.or_false, Bool.false_or, Bool.or_self]
    try simp (disch := omega) only [Nat.reduceEqDiff, Prod.mk.injEq, Option.some.injEq, true_and, and_true, exists_eq_left', exists_eq_right, exists_and_left, exists_const, true_or, or_true, ne_eq, not_true_eq_false, not_false_eq_true, reduceCtorEq, false_and, and_false, if_true, if_false, forall_const, true_implies, false_implies, implies_true, qI_wI, qI_wP, qP_wI, qP_wP, qN_wI, qN_wP, and_self, nI_add, pk_mul, nI_clamp, vp_in_nI, ng_1, ng_10, nI_eq32, cs_0, cs_1, cs_2, cs_3, cs_4, cs_5, cs_6, cs_7, cs_8, cs_9, cs_10, cs_11, cs_12, cs_13, cs_14, cs_15, cs_16, cs_17, cs_18, cs_19, cs_20, cs_21, cs_22, cs_23, cs_24, cs_25, cs_26, cs_27, cs_28, cs_29, cs_30, cs_31, cs_32, cs_33, cs_34, cs_35, cs_36, cs_37, cs_38, cs_39, cs_40, cs_41, cs_42, cs_43, cs_44, cs_45, cs_46, cs_47, cs_48, cs_49, cs_50, cs_51, cs_52, cs_53, cs_54, cs_55, cs_56, cs_57, cs_58, cs_59, cs_60, cs_61, cs_62, cs_63, cs_64, cs_97, cs_100, cs_122, cs_200, cs_300, cs_448, cs_1000, al_11, al_12, al_13, al_14, al_15, al_16, al_17, al_18, al_19, al_20, al_21, al_22, al_23, al_24, al_25, al_26, al_27, al_28, al_29, al_30, al_31, al_32, al_33, al_34, al_35, al_36, al_37, al_38, al_39, al_40, al_41, al_42, al_43, al_44, al_45, al_46, al_47, a3]
    refine cc_takeBack G hM hl hl12 (fun l' h => (hx l' h).2) (fun M1 hM1 hz => ?_)
    have e14 : spEmpty S l 10 14 = S 10 14 := spEmpty_row S l (by omega)
    have b7 := hM1.1.1.1.2.2.2.2.2.1
    have b8 := hM1.1.1.2.2.1.2.2.1
    rw [e14] at b8
    have b13 := hM1.1.2.2.2.2.2.2.2.2.2.1.1
    have key : ∀ (d k : Nat) (M2 : jx_M), k + d = S 10 14 → l + 1 ≤ k → (∀ r i c, qI M2 r i c = qI M1 r i c) → (∀ r i c, ¬ r = 13 → qP M2 r i c = qP M1 r i c) → (∀ c, c < 12 → qP M2 13 0 c = if l ≤ c ∧ c + 1 < k then some (p (c + 1)) else some (p c)) → (∀ k, qJ M2 k = qJ M1 k) → (∀ r, qN M2 r = qN M1 r) → Wn 23 [some v9, some (vI l), some (oR 3 (p l)), some (vI k)] [] M2 0 0 := by
      intro d
      induction d with
      | zero =>
        intro k M2 c1 c2 h1 h2 h3 h4 h5
        have c3 : k = S 10 14 := by omega
        have q8 : qI M2 9 0 8 = nI (S 10 14) := (h1 9 0 8).trans b8
        have q7 : qP M2 9 0 7 = some 0 := (h2 9 0 7 (by omega)).trans b7
        have fin : ∀ M3, (∀ r i c, qI M3 r i c = if r = 9 ∧ i = 0 ∧ c = 8 then nI (S 10 14 - 1) else qI M2 r i c) → (∀ r i c, qP M3 r i c = if r = 13 ∧ i = 0 ∧ c = S 10 14 - 1 then some (p l) else qP M2 r i c) → (∀ k, qJ M3 k = qJ M2 k) → (∀ r, qN M3 r = qN M2 r) → Q (.inl none) M3 := by
          intro M3 z1 z2 z3 z4
          have y1 : ∀ r i c, qI M3 r i c = if r = 9 ∧ i = 0 ∧ c = 8 then nI (spEmpty S l 10 14 - 1) else qI M1 r i c := fun r i c => by rw [z1, h1, e14]
          have y2 : ∀ r i c, ¬ r = 13 → qP M3 r i c = qP M1 r i c := fun r i c hr => by rw [z2, if_neg (fun q => hr q.1), h2 r i c hr]
          have y3 : ∀ c, c < 12 → qP M3 13 0 c = some (pDrop p l (spEmpty S l 10 14) c) := fun c hc => by
            rw [z2, e14]
            unfold pDrop up
            by_cases q1 : c = S 10 14 - 1
            · rw [if_pos ⟨rfl, rfl, q1⟩, if_neg (by omega), if_pos q1]
            · rw [if_neg (fun q => q1 q.2.2), h3 c hc]
              by_cases q2 : c < S 10 14 - 1
              · rw [if_pos q2]
                by_cases q3 : c < l
                · rw [if_neg (by omega), if_pos q3]
                · rw [if_pos (by omega), if_neg q3]
              · rw [if_neg q2, if_neg q1, if_neg (by omega)]
          refine hQ M3 ⟨?_, fun r i k hr => ⟨?_, ?_⟩, fun k => ?_, fun r hr => ?_⟩
          · have g := CM_drop (l := l) hM1.1 (by rw [e14]; exact hl) (by rw [e14]; exact hl12) (fun l' h => by rw [e14] at h; rw [spEmpty_row S l (by omega), spEmpty_row S l (by omega)]; exact hx l' h) hz y1 y2 y3 ((z4 6).trans (h5 6))
            rw [e14] at g
            exact g
          · rw [y1, if_neg (by omega)]; exact (hM1.2.1 r i k hr).1
          · rw [y2 r i k (by omega)]; exact (hM1.2.1 r i k hr).2
          · rw [z3, h4]; exact hM1.2.2.1 k
          · rw [z4, h5]; exact hM1.2.2.2 r hr
        have k99 : ∀ M3, Q (.inl none) M3 → Wn 99 [some v9, some (vI l), some (oR 3 (p l)), some (vI k)] [] M3 0 0 := by
          intro M3 h
          refine ev_at hC (fun pc => false) 9 99 (ls := [some v9, some (vI l), some (oR 3 (p l)), some (vI k)]) ?_
          try simp only [↓cb_X9_removeLine_0, ↓cb_X9_removeLine_11, ↓cb_X9_removeLine_23, ↓cb_X9_removeLine_60, ↓cb_X9_removeLine_99, ↓te_aldP, ↓te_alen, ↓te_aload, ↓te_astP, ↓te_astore, ↓te_bin, ↓te_callV, ↓te_const, ↓te_dup, ↓te_getI, ↓te_getP, ↓te_goto, ↓te_icmp, ↓te_if, ↓te_ifnonnull, ↓te_iinc, ↓te_iload, ↓te_istore, ↓te_putI, ↓te_vret, ↓evb_c, ↓evb_n, ↓evk_ap, ↓evm_cut, ↓evm_go, ↓evm_0, ↓jret_v, ↓jret_n, jget, jset, cond_true, cond_false, Nat.reduceBEq, jc1, List.take_succ_cons, List.take_zero, List.drop_succ_cons, List.drop_zero, List.reverse_cons, List.reverse_nil, List.nil_append, List.cons_append, List.length_cons, List.length_nil, Nat.zero_add, Nat.reduceAdd, beq_self_eq_true, true_and, and_true, Nat.reduceLeDiff, Nat.le_refl, Nat.zero_le, Bool.or_true, Bool.true_or, Bool.or_false, Bool.false_or, Bool.or_self]
          exact h
        have k60 : Wn 60 [some v9, some (vI l), some (oR 3 (p l)), some (vI k)] [] M2 0 0 := by
          refine ev_at hC (fun pc => pc == 99) 9 60 (ls := [some v9, some (vI l), some (oR 3 (p l)), some (vI k)]) ?_
          try simp only [↓cb_X9_removeLine_0, ↓cb_X9_removeLine_11, ↓cb_X9_removeLine_23, ↓cb_X9_removeLine_60, ↓cb_X9_removeLine_99, ↓te_aldP, ↓te_alen, ↓te_aload, ↓te_astP, ↓te_astore, ↓te_bin, ↓te_callV, ↓te_const, ↓te_dup, ↓te_getI, ↓te_getP, ↓te_goto, ↓te_icmp, ↓te_if, ↓te_ifnonnull, ↓te_iinc, ↓te_iload, ↓te_istore, ↓te_putI, ↓te_vret, ↓evb_c, ↓evb_n, ↓evk_ap, ↓evm_cut, ↓evm_go, ↓evm_0, ↓jret_v, ↓jret_n, jget, jset, cond_true, cond_false, Nat.reduceBEq, jc1, List.take_succ_cons, List.take_zero, List.drop_succ_cons, List.drop_zero, List.reverse_cons, List.reverse_nil, List.nil_append, List.cons_append, List.length_cons, List.length_nil, Nat.zero_add, Nat.reduceAdd, beq_self_eq_true, true_and, and_true, Nat.reduceLeDiff, Nat.le_refl, Nat.zero_le, Bool.or_true, Bool.true_or, Bool.or_false, Bool.false_or, Bool.or_self]
          try simp (disch := omega) only [Nat.reduceEqDiff, Prod.mk.injEq, Option.some.injEq, true_and, and_true, exists_eq_left', exists_eq_right, exists_and_left, exists_const, true_or, or_true, ne_eq, not_true_eq_false, not_false_eq_true, reduceCtorEq, false_and, and_false, if_true, if_false, forall_const, true_implies, false_implies, implies_true, qI_wI, qI_wP, qP_wI, qP_wP, qN_wI, qN_wP, and_self, nI_add, pk_mul, nI_clamp, vp_in_nI, ng_1, ng_10, nI_eq32, cs_0, cs_1, cs_2, cs_3, cs_4, cs_5, cs_6, cs_7, cs_8, cs_9, cs_10, cs_11, cs_12, cs_13, cs_14, cs_15, cs_16, cs_17, cs_18, cs_19, cs_20, cs_21, cs_22, cs_23, cs_24, cs_25, cs_26, cs_27, cs_28, cs_29, cs_30, cs_31, cs_32, cs_33, cs_34, cs_35, cs_36, cs_37, cs_38, cs_39, cs_40, cs_41, cs_42, cs_43, cs_44, cs_45, cs_46, cs_47, cs_48, cs_49, cs_50, cs_51, cs_52, cs_53, cs_54, cs_55, cs_56, cs_57, cs_58, cs_59, cs_60, cs_61, cs_62, cs_63, cs_64, cs_97, cs_100, cs_122, cs_200, cs_300, cs_448, cs_1000, al_11, al_12, al_13, al_14, al_15, al_16, al_17, al_18, al_19, al_20, al_21, al_22, al_23, al_24, al_25, al_26, al_27, al_28, al_29, al_30, al_31, al_32, al_33, al_34, al_35, al_36, al_37, al_38, al_39, al_40, al_41, al_42, al_43, al_44, al_45, al_46, al_47, q8, q7, pk_sub, nI_leI, nI_ltI]
          have h9 : Wn 99 [some v9, some (vI l), some (oR 3 (p l)), some (vI k)] [] (wP (wI M2 9 0 8 (nI (S 10 14 - 1))) 13 0 (S 10 14 - 1) (some (p l))) 0 0 := k99 _ (fin _ (fun r i c => by rw [qI_wP, qI_wI]) (fun r i c => by rw [qP_wP, qP_wI]) (fun _ => rfl) (fun _ => rfl))
          repeat (first | exact h9 | (refine ⟨fun h9 => absurd h9 (by first | omega | assumption), fun _ => ?_⟩) | (refine ⟨fun _ => ?_, fun h9 => absurd (by first | omega | assumption) h9⟩))
        refine ev_at hC (fun pc => pc == 23 || pc == 60) 9 23 (ls := [some v9, some (vI l), some (oR 3 (p l)), some (vI k)]) ?_
        try simp only [↓cb_X9_removeLine_0, ↓cb_X9_removeLine_11, ↓cb_X9_removeLine_23, ↓cb_X9_removeLine_60, ↓cb_X9_removeLine_99, ↓te_aldP, ↓te_alen, ↓te_aload, ↓te_astP, ↓te_astore, ↓te_bin, ↓te_callV, ↓te_const, ↓te_dup, ↓te_getI, ↓te_getP, ↓te_goto, ↓te_icmp, ↓te_if, ↓te_ifnonnull, ↓te_iinc, ↓te_iload, ↓te_istore, ↓te_putI, ↓te_vret, ↓evb_c, ↓evb_n, ↓evk_ap, ↓evm_cut, ↓evm_go, ↓evm_0, ↓jret_v, ↓jret_n, jget, jset, cond_true, cond_false, Nat.reduceBEq, jc1, List.take_succ_cons, List.take_zero, List.drop_succ_cons, List.drop_zero, List.reverse_cons, List.reverse_nil, List.nil_append, List.cons_append, List.length_cons, List.length_nil, Nat.zero_add, Nat.reduceAdd, beq_self_eq_true, true_and, and_true, Nat.reduceLeDiff, Nat.le_refl, Nat.zero_le, Bool.or_true, Bool.true_or, Bool.or_false, Bool.false_or, Bool.or_self]
        try simp (disch := omega) only [Nat.reduceEqDiff, Prod.mk.injEq, Option.some.injEq, true_and, and_true, exists_eq_left', exists_eq_right, exists_and_left, exists_const, true_or, or_true, ne_eq, not_true_eq_false, not_false_eq_true, reduceCtorEq, false_and, and_false, if_true, if_false, forall_const, true_implies, false_implies, implies_true, qI_wI, qI_wP, qP_wI, qP_wP, qN_wI, qN_wP, and_self, nI_add, pk_mul, nI_clamp, vp_in_nI, ng_1, ng_10, nI_eq32, cs_0, cs_1, cs_2, cs_3, cs_4, cs_5, cs_6, cs_7, cs_8, cs_9, cs_10, cs_11, cs_12, cs_13, cs_14, cs_15, cs_16, cs_17, cs_18, cs_19, cs_20, cs_21, cs_22, cs_23, cs_24, cs_25, cs_26, cs_27, cs_28, cs_29, cs_30, cs_31, cs_32, cs_33, cs_34, cs_35, cs_36, cs_37, cs_38, cs_39, cs_40, cs_41, cs_42, cs_43, cs_44, cs_45, cs_46, cs_47, cs_48, cs_49, cs_50, cs_51, cs_52, cs_53, cs_54, cs_55, cs_56, cs_57, cs_58, cs_59, cs_60, cs_61, cs_62, cs_63, cs_64, cs_97, cs_100, cs_122, cs_200, cs_300, cs_448, cs_1000, al_11, al_12, al_13, al_14, al_15, al_16, al_17, al_18, al_19, al_20, al_21, al_22, al_23, al_24, al_25, al_26, al_27, al_28, al_29, al_30, al_31, al_32, al_33, al_34, al_35, al_36, al_37, al_38, al_39, al_40, al_41, al_42, al_43, al_44, al_45, al_46, al_47, q8, q7, nI_leI]
        exact ⟨fun _ => k60, fun z => absurd (by omega) z⟩
      | succ d ih =>
        intro k M2 c1 c2 h1 h2 h3 h4 h5
        have q8 : qI M2 9 0 8 = nI (S 10 14) := (h1 9 0 8).trans b8
        have q7 : qP M2 9 0 7 = some 0 := (h2 9 0 7 (by omega)).trans b7
        have qk : qP M2 13 0 k = some (p k) := by rw [h3 k (by omega), if_neg (by omega)]
        refine ev_at hC (fun pc => pc == 23 || pc == 60) 9 23 (ls := [some v9, some (vI l), some (oR 3 (p l)), some (vI k)]) ?_
        try simp only [↓cb_X9_removeLine_0, ↓cb_X9_removeLine_11, ↓cb_X9_removeLine_23, ↓cb_X9_removeLine_60, ↓cb_X9_removeLine_99, ↓te_aldP, ↓te_alen, ↓te_aload, ↓te_astP, ↓te_astore, ↓te_bin, ↓te_callV, ↓te_const, ↓te_dup, ↓te_getI, ↓te_getP, ↓te_goto, ↓te_icmp, ↓te_if, ↓te_ifnonnull, ↓te_iinc, ↓te_iload, ↓te_istore, ↓te_putI, ↓te_vret, ↓evb_c, ↓evb_n, ↓evk_ap, ↓evm_cut, ↓evm_go, ↓evm_0, ↓jret_v, ↓jret_n, jget, jset, cond_true, cond_false, Nat.reduceBEq, jc1, List.take_succ_cons, List.take_zero, List.drop_succ_cons, List.drop_zero, List.reverse_cons, List.reverse_nil, List.nil_append, List.cons_append, List.length_cons, List.length_nil, Nat.zero_add, Nat.reduceAdd, beq_self_eq_true, true_and, and_true, Nat.reduceLeDiff, Nat.le_refl, Nat.zero_le, Bool.or_true, Bool.true_or, Bool.or_false, Bool.false_or, Bool.or_self]
        try simp (disch := omega) only [Nat.reduceEqDiff, Prod.mk.injEq, Option.some.injEq, true_and, and_true, exists_eq_left', exists_eq_right, exists_and_left, exists_const, true_or, or_true, ne_eq, not_true_eq_false, not_false_eq_true, reduceCtorEq, false_and, and_false, if_true, if_false, forall_const, true_implies, false_implies, implies_true, qI_wI, qI_wP, qP_wI, qP_wP, qN_wI, qN_wP, and_self, nI_add, pk_mul, nI_clamp, vp_in_nI, ng_1, ng_10, nI_eq32, cs_0, cs_1, cs_2, cs_3, cs_4, cs_5, cs_6, cs_7, cs_8, cs_9, cs_10, cs_11, cs_12, cs_13, cs_14, cs_15, cs_16, cs_17, cs_18, cs_19, cs_20, cs_21, cs_22, cs_23, cs_24, cs_25, cs_26, cs_27, cs_28, cs_29, cs_30, cs_31, cs_32, cs_33, cs_34, cs_35, cs_36, cs_37, cs_38, cs_39, cs_40, cs_41, cs_42, cs_43, cs_44, cs_45, cs_46, cs_47, cs_48, cs_49, cs_50, cs_51, cs_52, cs_53, cs_54, cs_55, cs_56, cs_57, cs_58, cs_59, cs_60, cs_61, cs_62, cs_63, cs_64, cs_97, cs_100, cs_122, cs_200, cs_300, cs_448, cs_1000, al_11, al_12, al_13, al_14, al_15, al_16, al_17, al_18, al_19, al_20, al_21, al_22, al_23, al_24, al_25, al_26, al_27, al_28, al_29, al_30, al_31, al_32, al_33, al_34, al_35, al_36, al_37, al_38, al_39, al_40, al_41, al_42, al_43, al_44, al_45, al_46, al_47, q8, q7, qk, pk_sub, nI_leI]
        refine ⟨fun z => absurd z (by omega), fun _ => ⟨fun z => absurd z (by omega), fun _ => ?_⟩⟩
        refine ih (k + 1) _ (by omega) (by omega) h1 (fun r i c hr => ?_) (fun c hc => ?_) h4 h5
        · rw [qP_wP, if_neg (fun q => hr q.1)]; exact h2 r i c hr
        · rw [qP_wP]
          by_cases e : c = k - 1
          · rw [if_pos ⟨rfl, rfl, e⟩, if_pos (by omega), e, Nat.sub_add_cancel (by omega)]
          · rw [if_neg (fun q => e q.2.2), h3 c hc]
            by_cases e2 : l ≤ c ∧ c + 1 < k
            · rw [if_pos e2, if_pos (by omega)]
            · rw [if_neg e2, if_neg (by omega)]
    try simp only [↓cb_X9_removeLine_0, ↓cb_X9_removeLine_11, ↓cb_X9_removeLine_23, ↓cb_X9_removeLine_60, ↓cb_X9_removeLine_99, ↓te_aldP, ↓te_alen, ↓te_aload, ↓te_astP, ↓te_astore, ↓te_bin, ↓te_callV, ↓te_const, ↓te_dup, ↓te_getI, ↓te_getP, ↓te_goto, ↓te_icmp, ↓te_if, ↓te_ifnonnull, ↓te_iinc, ↓te_iload, ↓te_istore, ↓te_putI, ↓te_vret, ↓evb_c, ↓evb_n, ↓evk_ap, ↓evm_cut, ↓evm_go, ↓evm_0, ↓jret_v, ↓jret_n, jget, jset, cond_true, cond_false, Nat.reduceBEq, jc1, List.take_succ_cons, List.take_zero, List.drop_succ_cons, List.drop_zero, List.reverse_cons, List.reverse_nil, List.nil_append, List.cons_append, List.length_cons, List.length_nil, Nat.zero_add, Nat.reduceAdd, beq_self_eq_true, true_and, and_true, Nat.reduceLeDiff, Nat.le_refl, Nat.zero_le, Bool.or_true, Bool.true_or, Bool.or_false, Bool.false_or, Bool.or_self]
    try simp (disch := omega) only [Nat.reduceEqDiff, Prod.mk.injEq, Option.some.injEq, true_and, and_true, exists_eq_left', exists_eq_right, exists_and_left, exists_const, true_or, or_true, ne_eq, not_true_eq_false, not_false_eq_true, reduceCtorEq, false_and, and_false, if_true, if_false, forall_const, true_implies, false_implies, implies_true, qI_wI, qI_wP, qP_wI, qP_wP, qN_wI, qN_wP, and_self, nI_add, pk_mul, nI_clamp, vp_in_nI, ng_1, ng_10, nI_eq32, cs_0, cs_1, cs_2, cs_3, cs_4, cs_5, cs_6, cs_7, cs_8, cs_9, cs_10, cs_11, cs_12, cs_13, cs_14, cs_15, cs_16, cs_17, cs_18, cs_19, cs_20, cs_21, cs_22, cs_23, cs_24, cs_25, cs_26, cs_27, cs_28, cs_29, cs_30, cs_31, cs_32, cs_33, cs_34, cs_35, cs_36, cs_37, cs_38, cs_39, cs_40, cs_41, cs_42, cs_43, cs_44, cs_45, cs_46, cs_47, cs_48, cs_49, cs_50, cs_51, cs_52, cs_53, cs_54, cs_55, cs_56, cs_57, cs_58, cs_59, cs_60, cs_61, cs_62, cs_63, cs_64, cs_97, cs_100, cs_122, cs_200, cs_300, cs_448, cs_1000, al_11, al_12, al_13, al_14, al_15, al_16, al_17, al_18, al_19, al_20, al_21, al_22, al_23, al_24, al_25, al_26, al_27, al_28, al_29, al_30, al_31, al_32, al_33, al_34, al_35, al_36, al_37, al_38, al_39, al_40, al_41, al_42, al_43, al_44, al_45, al_46, al_47]
    exact key (S 10 14 - (l + 1)) (l + 1) M1 (by omega) (Nat.le_refl _) (fun _ _ _ => rfl) (fun _ _ _ _ => rfl) (fun c hc => by rw [if_neg (by omega)]; exact (b13 c hc).2) (fun _ => rfl) (fun _ => rfl)
  exact k11

