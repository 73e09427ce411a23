/-! THE CLASS: a new object, whole; THE REFERENCE: a new object -/
theorem Mt.opq {G : jx_G} {y : jx_Y} {as : List jx_V} {M M1 : jx_M} {Q : jx_O → jx_M → Prop} (h : ∀ Q' : jx_O → jx_M → Prop, Q' (.inl none) M1 → Mt G y as M Q') (hQ : ∀ m, m = M1 → Q (.inl none) m) : Mt G y as M Q := h Q (hQ M1 rfl)
set_option maxRecDepth 20000 in
set_option maxHeartbeats 20000000 in
theorem ci_X9 (G : jx_G) {Q : jx_O → jx_M → Prop} (hQ : ∀ M', CM M' S00 (fun l => l) → FB M' → Q (.inl none) M') : Mt G m_X9_init [v9] (wNew jM0 9) Q := by
  refine Mt.of (sc_X9_init G) (by decide +kernel) (jArgs.of rfl) (Nat.le_of_ble_eq_true rfl) (fun Wn hC => ?_)
  have k126 := ci_X9_126 G hC hQ
  have fn0 : fN 0 = 4 := rfl
  have fn2 : fN 2 = 2 := rfl
  have fn5 : fN 5 = 2 := rfl
  have fn7 : fN 7 = 1 := rfl
  have fn8 : fN 8 = 2 := rfl
  have z : ∀ r, ¬ (48 ≤ r ∧ r < 51) → qN jM0 r = 0 := fun r hr => by rw [jM0_N, if_neg hr]
  have z0 := z 0 (by omega)
  have z2 := z 2 (by omega)
  have z5 := z 5 (by omega)
  have z7 := z 7 (by omega)
  have z8 := z 8 (by omega)
  have z11 := z 11 (by omega)
  have z12 := z 12 (by omega)
  have z13 := z 13 (by omega)
  have z14 := z 14 (by omega)
  have z15 := z 15 (by omega)
  have z21 := z 21 (by omega)
  have z22 := z 22 (by omega)
  have z23 := z 23 (by omega)
  have z24 := z 24 (by omega)
  refine ev_at hC (fun pc => pc == 126) 9 0 (ls := [some v9, none]) ?_
  try simp only [↓cb_X9_init_0, ↓cb_X9_init_126, ↓cb_X9_init_158, ↓cb_X9_init_160, ↓cb_X9_init_188, ↓cb_X9_init_190, ↓cb_X9_init_219, ↓te_alen, ↓te_aload, ↓te_astP, ↓te_callV, ↓te_const, ↓te_dup, ↓te_getP, ↓te_goto, ↓te_icmp, ↓te_iinc, ↓te_iload, ↓te_istore, ↓te_new, ↓te_newa, ↓te_oinit, ↓te_putI, ↓te_putP, ↓te_rem, ↓te_vret, ↓evb_c, ↓evb_n, ↓evk_ap, ↓evm_cut, ↓evm_go, ↓evm_0, ↓jret_v, ↓jret_n, ↓jretX_v, ↓jretX_n, jget, jset, cond_true, cond_false, Nat.reduceBEq, jc1, List.take_succ_cons, List.take_zero, List.drop_succ_cons, List.drop_zero, List.reverse_cons, List.reverse_nil, List.nil_append, List.cons_append, List.length_cons, List.length_nil, Nat.zero_add, Nat.reduceAdd, beq_self_eq_true, true_and, and_true, Nat.reduceLeDiff, Nat.le_refl, Nat.zero_le, Bool.or_true, Bool.true_or, Bool.or_false, Bool.false_or, Bool.or_self]
  try simp (disch := omega) only [Nat.reduceEqDiff, Prod.mk.injEq, Option.some.injEq, true_and, and_true, exists_eq_left', exists_eq_right, exists_and_left, exists_const, true_or, or_true, ne_eq, not_true_eq_false, not_false_eq_true, reduceCtorEq, false_and, and_false, if_true, if_false, forall_const, true_implies, false_implies, implies_true, qI_wI, qI_wP, qP_wI, qP_wP, qN_wI, qN_wP, and_self, nI_add, pk_mul, nI_clamp, vp_in_nI, ng_1, ng_10, nI_eq32, cs_0, cs_1, cs_2, cs_3, cs_4, cs_5, cs_6, cs_7, cs_8, cs_9, cs_10, cs_11, cs_12, cs_13, cs_14, cs_15, cs_16, cs_17, cs_18, cs_19, cs_20, cs_21, cs_22, cs_23, cs_24, cs_25, cs_26, cs_27, cs_28, cs_29, cs_30, cs_31, cs_32, cs_33, cs_34, cs_35, cs_36, cs_37, cs_38, cs_39, cs_40, cs_41, cs_42, cs_43, cs_44, cs_45, cs_46, cs_47, cs_48, cs_49, cs_50, cs_51, cs_52, cs_53, cs_54, cs_55, cs_56, cs_57, cs_58, cs_59, cs_60, cs_61, cs_62, cs_63, cs_64, cs_97, cs_100, cs_122, cs_200, cs_300, cs_448, cs_1000, al_11, al_12, al_13, al_14, al_15, al_16, al_17, al_18, al_19, al_20, al_21, al_22, al_23, al_24, al_25, al_26, al_27, al_28, al_29, al_30, al_31, al_32, al_33, al_34, al_35, al_36, al_37, al_38, al_39, al_40, al_41, al_42, al_43, al_44, al_45, al_46, al_47, qN_wNew, z0, z2, z5, z7, z8, z11, z12, z13, z14, z15, z21, z22, z23, z24, fn0, fn2, fn5, fn7, fn8, Nat.reduceLeDiff, Nat.le_refl, Nat.reduceAdd]
  refine Mt.opq (fun Q' h => ci_X7 G h) (fun m0 e0 => ?_)
  have y0_0 : qN m0 0 = 0 := by rw [e0]; simp only [qN_wP, qN_wI, qN_wNew, Nat.reduceEqDiff, if_false, z0]
  have y0_2 : qN m0 2 = 0 := by rw [e0]; simp only [qN_wP, qN_wI, qN_wNew, Nat.reduceEqDiff, if_false, z2]
  have y0_5 : qN m0 5 = 0 := by rw [e0]; simp only [qN_wP, qN_wI, qN_wNew, Nat.reduceEqDiff, if_false, z5]
  have y0_8 : qN m0 8 = 0 := by rw [e0]; simp only [qN_wP, qN_wI, qN_wNew, Nat.reduceEqDiff, if_false, z8]
  have y0_13 : qN m0 13 = 0 := by rw [e0]; simp only [qN_wP, qN_wI, qN_wNew, Nat.reduceEqDiff, if_false, z13]
  have y0_14 : qN m0 14 = 0 := by rw [e0]; simp only [qN_wP, qN_wI, qN_wNew, Nat.reduceEqDiff, if_false, z14]
  have y0_15 : qN m0 15 = 0 := by rw [e0]; simp only [qN_wP, qN_wI, qN_wNew, Nat.reduceEqDiff, if_false, z15]
  have y0_21 : qN m0 21 = 0 := by rw [e0]; simp only [qN_wP, qN_wI, qN_wNew, Nat.reduceEqDiff, if_false, z21]
  have y0_22 : qN m0 22 = 0 := by rw [e0]; simp only [qN_wP, qN_wI, qN_wNew, Nat.reduceEqDiff, if_false, z22]
  have y0_23 : qN m0 23 = 0 := by rw [e0]; simp only [qN_wP, qN_wI, qN_wNew, Nat.reduceEqDiff, if_false, z23]
  try simp only [↓cb_X9_init_0, ↓cb_X9_init_126, ↓cb_X9_init_158, ↓cb_X9_init_160, ↓cb_X9_init_188, ↓cb_X9_init_190, ↓cb_X9_init_219, ↓te_alen, ↓te_aload, ↓te_astP, ↓te_callV, ↓te_const, ↓te_dup, ↓te_getP, ↓te_goto, ↓te_icmp, ↓te_iinc, ↓te_iload, ↓te_istore, ↓te_new, ↓te_newa, ↓te_oinit, ↓te_putI, ↓te_putP, ↓te_rem, ↓te_vret, ↓evb_c, ↓evb_n, ↓evk_ap, ↓evm_cut, ↓evm_go, ↓evm_0, ↓jret_v, ↓jret_n, ↓jretX_v, ↓jretX_n, jget, jset, cond_true, cond_false, Nat.reduceBEq, jc1, List.take_succ_cons, List.take_zero, List.drop_succ_cons, List.drop_zero, List.reverse_cons, List.reverse_nil, List.nil_append, List.cons_append, List.length_cons, List.length_nil, Nat.zero_add, Nat.reduceAdd, beq_self_eq_true, true_and, and_true, Nat.reduceLeDiff, Nat.le_refl, Nat.zero_le, Bool.or_true, Bool.true_or, Bool.or_false, Bool.false_or, Bool.or_self]
  try simp (disch := omega) only [Nat.reduceEqDiff, Prod.mk.injEq, Option.some.injEq, true_and, and_true, exists_eq_left', exists_eq_right, exists_and_left, exists_const, true_or, or_true, ne_eq, not_true_eq_false, not_false_eq_true, reduceCtorEq, false_and, and_false, if_true, if_false, forall_const, true_implies, false_implies, implies_true, qI_wI, qI_wP, qP_wI, qP_wP, qN_wI, qN_wP, and_self, nI_add, pk_mul, nI_clamp, vp_in_nI, ng_1, ng_10, nI_eq32, cs_0, cs_1, cs_2, cs_3, cs_4, cs_5, cs_6, cs_7, cs_8, cs_9, cs_10, cs_11, cs_12, cs_13, cs_14, cs_15, cs_16, cs_17, cs_18, cs_19, cs_20, cs_21, cs_22, cs_23, cs_24, cs_25, cs_26, cs_27, cs_28, cs_29, cs_30, cs_31, cs_32, cs_33, cs_34, cs_35, cs_36, cs_37, cs_38, cs_39, cs_40, cs_41, cs_42, cs_43, cs_44, cs_45, cs_46, cs_47, cs_48, cs_49, cs_50, cs_51, cs_52, cs_53, cs_54, cs_55, cs_56, cs_57, cs_58, cs_59, cs_60, cs_61, cs_62, cs_63, cs_64, cs_97, cs_100, cs_122, cs_200, cs_300, cs_448, cs_1000, al_11, al_12, al_13, al_14, al_15, al_16, al_17, al_18, al_19, al_20, al_21, al_22, al_23, al_24, al_25, al_26, al_27, al_28, al_29, al_30, al_31, al_32, al_33, al_34, al_35, al_36, al_37, al_38, al_39, al_40, al_41, al_42, al_43, al_44, al_45, al_46, al_47, qN_wNew, y0_0, y0_2, y0_5, y0_8, y0_13, y0_14, y0_15, y0_21, y0_22, y0_23, fn0, fn2, fn5, fn7, fn8, Nat.reduceLeDiff, Nat.le_refl, Nat.reduceAdd]
  refine Mt.opq (fun Q' h => ci_X8 G h) (fun m1 e1 => ?_)
  have y1_0 : qN m1 0 = 0 := by rw [e1]; simp only [qN_wP, qN_wI, qN_wNew, Nat.reduceEqDiff, if_false, y0_0]
  have y1_2 : qN m1 2 = 0 := by rw [e1]; simp only [qN_wP, qN_wI, qN_wNew, Nat.reduceEqDiff, if_false, y0_2]
  have y1_5 : qN m1 5 = 0 := by rw [e1]; simp only [qN_wP, qN_wI, qN_wNew, Nat.reduceEqDiff, if_false, y0_5]
  have y1_13 : qN m1 13 = 0 := by rw [e1]; simp only [qN_wP, qN_wI, qN_wNew, Nat.reduceEqDiff, if_false, y0_13]
  have y1_14 : qN m1 14 = 0 := by rw [e1]; simp only [qN_wP, qN_wI, qN_wNew, Nat.reduceEqDiff, if_false, y0_14]
  have y1_15 : qN m1 15 = 0 := by rw [e1]; simp only [qN_wP, qN_wI, qN_wNew, Nat.reduceEqDiff, if_false, y0_15]
  have y1_22 : qN m1 22 = 0 := by rw [e1]; simp only [qN_wP, qN_wI, qN_wNew, Nat.reduceEqDiff, if_false, y0_22]
  have y1_23 : qN m1 23 = 0 := by rw [e1]; simp only [qN_wP, qN_wI, qN_wNew, Nat.reduceEqDiff, if_false, y0_23]
  try simp only [↓cb_X9_init_0, ↓cb_X9_init_126, ↓cb_X9_init_158, ↓cb_X9_init_160, ↓cb_X9_init_188, ↓cb_X9_init_190, ↓cb_X9_init_219, ↓te_alen, ↓te_aload, ↓te_astP, ↓te_callV, ↓te_const, ↓te_dup, ↓te_getP, ↓te_goto, ↓te_icmp, ↓te_iinc, ↓te_iload, ↓te_istore, ↓te_new, ↓te_newa, ↓te_oinit, ↓te_putI, ↓te_putP, ↓te_rem, ↓te_vret, ↓evb_c, ↓evb_n, ↓evk_ap, ↓evm_cut, ↓evm_go, ↓evm_0, ↓jret_v, ↓jret_n, ↓jretX_v, ↓jretX_n, jget, jset, cond_true, cond_false, Nat.reduceBEq, jc1, List.take_succ_cons, List.take_zero, List.drop_succ_cons, List.drop_zero, List.reverse_cons, List.reverse_nil, List.nil_append, List.cons_append, List.length_cons, List.length_nil, Nat.zero_add, Nat.reduceAdd, beq_self_eq_true, true_and, and_true, Nat.reduceLeDiff, Nat.le_refl, Nat.zero_le, Bool.or_true, Bool.true_or, Bool.or_false, Bool.false_or, Bool.or_self]
  try simp (disch := omega) only [Nat.reduceEqDiff, Prod.mk.injEq, Option.some.injEq, true_and, and_true, exists_eq_left', exists_eq_right, exists_and_left, exists_const, true_or, or_true, ne_eq, not_true_eq_false, not_false_eq_true, reduceCtorEq, false_and, and_false, if_true, if_false, forall_const, true_implies, false_implies, implies_true, qI_wI, qI_wP, qP_wI, qP_wP, qN_wI, qN_wP, and_self, nI_add, pk_mul, nI_clamp, vp_in_nI, ng_1, ng_10, nI_eq32, cs_0, cs_1, cs_2, cs_3, cs_4, cs_5, cs_6, cs_7, cs_8, cs_9, cs_10, cs_11, cs_12, cs_13, cs_14, cs_15, cs_16, cs_17, cs_18, cs_19, cs_20, cs_21, cs_22, cs_23, cs_24, cs_25, cs_26, cs_27, cs_28, cs_29, cs_30, cs_31, cs_32, cs_33, cs_34, cs_35, cs_36, cs_37, cs_38, cs_39, cs_40, cs_41, cs_42, cs_43, cs_44, cs_45, cs_46, cs_47, cs_48, cs_49, cs_50, cs_51, cs_52, cs_53, cs_54, cs_55, cs_56, cs_57, cs_58, cs_59, cs_60, cs_61, cs_62, cs_63, cs_64, cs_97, cs_100, cs_122, cs_200, cs_300, cs_448, cs_1000, al_11, al_12, al_13, al_14, al_15, al_16, al_17, al_18, al_19, al_20, al_21, al_22, al_23, al_24, al_25, al_26, al_27, al_28, al_29, al_30, al_31, al_32, al_33, al_34, al_35, al_36, al_37, al_38, al_39, al_40, al_41, al_42, al_43, al_44, al_45, al_46, al_47, qN_wNew, y1_0, y1_2, y1_5, y1_13, y1_14, y1_15, y1_22, y1_23, fn0, fn2, fn5, fn7, fn8, Nat.reduceLeDiff, Nat.le_refl, Nat.reduceAdd]
  refine Mt.opq (fun Q' h => ci_X0 G h) (fun m2 e2 => ?_)
  have y2_2 : qN m2 2 = 0 := by rw [e2]; simp only [qN_wP, qN_wI, qN_wNew, Nat.reduceEqDiff, if_false, y1_2]
  have y2_5 : qN m2 5 = 0 := by rw [e2]; simp only [qN_wP, qN_wI, qN_wNew, Nat.reduceEqDiff, if_false, y1_5]
  have y2_13 : qN m2 13 = 0 := by rw [e2]; simp only [qN_wP, qN_wI, qN_wNew, Nat.reduceEqDiff, if_false, y1_13]
  have y2_14 : qN m2 14 = 0 := by rw [e2]; simp only [qN_wP, qN_wI, qN_wNew, Nat.reduceEqDiff, if_false, y1_14]
  have y2_15 : qN m2 15 = 0 := by rw [e2]; simp only [qN_wP, qN_wI, qN_wNew, Nat.reduceEqDiff, if_false, y1_15]
  have y2_22 : qN m2 22 = 0 := by rw [e2]; simp only [qN_wP, qN_wI, qN_wNew, Nat.reduceEqDiff, if_false, y1_22]
  have y2_23 : qN m2 23 = 0 := by rw [e2]; simp only [qN_wP, qN_wI, qN_wNew, Nat.reduceEqDiff, if_false, y1_23]
  try simp only [↓cb_X9_init_0, ↓cb_X9_init_126, ↓cb_X9_init_158, ↓cb_X9_init_160, ↓cb_X9_init_188, ↓cb_X9_init_190, ↓cb_X9_init_219, ↓te_alen, ↓te_aload, ↓te_astP, ↓te_callV, ↓te_const, ↓te_dup, ↓te_getP, ↓te_goto, ↓te_icmp, ↓te_iinc, ↓te_iload, ↓te_istore, ↓te_new, ↓te_newa, ↓te_oinit, ↓te_putI, ↓te_putP, ↓te_rem, ↓te_vret, ↓evb_c, ↓evb_n, ↓evk_ap, ↓evm_cut, ↓evm_go, ↓evm_0, ↓jret_v, ↓jret_n, ↓jretX_v, ↓jretX_n, jget, jset, cond_true, cond_false, Nat.reduceBEq, jc1, List.take_succ_cons, List.take_zero, List.drop_succ_cons, List.drop_zero, List.reverse_cons, List.reverse_nil, List.nil_append, List.cons_append, List.length_cons, List.length_nil, Nat.zero_add, Nat.reduceAdd, beq_self_eq_true, true_and, and_true, Nat.reduceLeDiff, Nat.le_refl, Nat.zero_le, Bool.or_true, Bool.true_or, Bool.or_false, Bool.false_or, Bool.or_self]
  try simp (disch := omega) only [Nat.reduceEqDiff, Prod.mk.injEq, Option.some.injEq, true_and, and_true, exists_eq_left', exists_eq_right, exists_and_left, exists_const, true_or, or_true, ne_eq, not_true_eq_false, not_false_eq_true, reduceCtorEq, false_and, and_false, if_true, if_false, forall_const, true_implies, false_implies, implies_true, qI_wI, qI_wP, qP_wI, qP_wP, qN_wI, qN_wP, and_self, nI_add, pk_mul, nI_clamp, vp_in_nI, ng_1, ng_10, nI_eq32, cs_0, cs_1, cs_2, cs_3, cs_4, cs_5, cs_6, cs_7, cs_8, cs_9, cs_10, cs_11, cs_12, cs_13, cs_14, cs_15, cs_16, cs_17, cs_18, cs_19, cs_20, cs_21, cs_22, cs_23, cs_24, cs_25, cs_26, cs_27, cs_28, cs_29, cs_30, cs_31, cs_32, cs_33, cs_34, cs_35, cs_36, cs_37, cs_38, cs_39, cs_40, cs_41, cs_42, cs_43, cs_44, cs_45, cs_46, cs_47, cs_48, cs_49, cs_50, cs_51, cs_52, cs_53, cs_54, cs_55, cs_56, cs_57, cs_58, cs_59, cs_60, cs_61, cs_62, cs_63, cs_64, cs_97, cs_100, cs_122, cs_200, cs_300, cs_448, cs_1000, al_11, al_12, al_13, al_14, al_15, al_16, al_17, al_18, al_19, al_20, al_21, al_22, al_23, al_24, al_25, al_26, al_27, al_28, al_29, al_30, al_31, al_32, al_33, al_34, al_35, al_36, al_37, al_38, al_39, al_40, al_41, al_42, al_43, al_44, al_45, al_46, al_47, qN_wNew, y2_2, y2_5, y2_13, y2_14, y2_15, y2_22, y2_23, fn0, fn2, fn5, fn7, fn8, Nat.reduceLeDiff, Nat.le_refl, Nat.reduceAdd]
  refine Mt.opq (fun Q' h => ci_X2 G h) (fun m3 e3 => ?_)
  have y3_5 : qN m3 5 = 0 := by rw [e3]; simp only [qN_wP, qN_wI, qN_wNew, Nat.reduceEqDiff, if_false, y2_5]
  have y3_15 : qN m3 15 = 0 := by rw [e3]; simp only [qN_wP, qN_wI, qN_wNew, Nat.reduceEqDiff, if_false, y2_15]
  have y3_23 : qN m3 23 = 0 := by rw [e3]; simp only [qN_wP, qN_wI, qN_wNew, Nat.reduceEqDiff, if_false, y2_23]
  try simp only [↓cb_X9_init_0, ↓cb_X9_init_126, ↓cb_X9_init_158, ↓cb_X9_init_160, ↓cb_X9_init_188, ↓cb_X9_init_190, ↓cb_X9_init_219, ↓te_alen, ↓te_aload, ↓te_astP, ↓te_callV, ↓te_const, ↓te_dup, ↓te_getP, ↓te_goto, ↓te_icmp, ↓te_iinc, ↓te_iload, ↓te_istore, ↓te_new, ↓te_newa, ↓te_oinit, ↓te_putI, ↓te_putP, ↓te_rem, ↓te_vret, ↓evb_c, ↓evb_n, ↓evk_ap, ↓evm_cut, ↓evm_go, ↓evm_0, ↓jret_v, ↓jret_n, ↓jretX_v, ↓jretX_n, jget, jset, cond_true, cond_false, Nat.reduceBEq, jc1, List.take_succ_cons, List.take_zero, List.drop_succ_cons, List.drop_zero, List.reverse_cons, List.reverse_nil, List.nil_append, List.cons_append, List.length_cons, List.length_nil, Nat.zero_add, Nat.reduceAdd, beq_self_eq_true, true_and, and_true, Nat.reduceLeDiff, Nat.le_refl, Nat.zero_le, Bool.or_true, Bool.true_or, Bool.or_false, Bool.false_or, Bool.or_self]
  try simp (disch := omega) only [Nat.reduceEqDiff, Prod.mk.injEq, Option.some.injEq, true_and, and_true, exists_eq_left', exists_eq_right, exists_and_left, exists_const, true_or, or_true, ne_eq, not_true_eq_false, not_false_eq_true, reduceCtorEq, false_and, and_false, if_true, if_false, forall_const, true_implies, false_implies, implies_true, qI_wI, qI_wP, qP_wI, qP_wP, qN_wI, qN_wP, and_self, nI_add, pk_mul, nI_clamp, vp_in_nI, ng_1, ng_10, nI_eq32, cs_0, cs_1, cs_2, cs_3, cs_4, cs_5, cs_6, cs_7, cs_8, cs_9, cs_10, cs_11, cs_12, cs_13, cs_14, cs_15, cs_16, cs_17, cs_18, cs_19, cs_20, cs_21, cs_22, cs_23, cs_24, cs_25, cs_26, cs_27, cs_28, cs_29, cs_30, cs_31, cs_32, cs_33, cs_34, cs_35, cs_36, cs_37, cs_38, cs_39, cs_40, cs_41, cs_42, cs_43, cs_44, cs_45, cs_46, cs_47, cs_48, cs_49, cs_50, cs_51, cs_52, cs_53, cs_54, cs_55, cs_56, cs_57, cs_58, cs_59, cs_60, cs_61, cs_62, cs_63, cs_64, cs_97, cs_100, cs_122, cs_200, cs_300, cs_448, cs_1000, al_11, al_12, al_13, al_14, al_15, al_16, al_17, al_18, al_19, al_20, al_21, al_22, al_23, al_24, al_25, al_26, al_27, al_28, al_29, al_30, al_31, al_32, al_33, al_34, al_35, al_36, al_37, al_38, al_39, al_40, al_41, al_42, al_43, al_44, al_45, al_46, al_47, qN_wNew, y3_5, y3_15, y3_23, fn0, fn2, fn5, fn7, fn8, Nat.reduceLeDiff, Nat.le_refl, Nat.reduceAdd]
  refine Mt.opq (fun Q' h => ci_X5 G h) (fun m4 e4 => ?_)
  have y4_15 : qN m4 15 = 0 := by rw [e4]; simp only [qN_wP, qN_wI, qN_wNew, Nat.reduceEqDiff, if_false, y3_15]
  try simp only [↓cb_X9_init_0, ↓cb_X9_init_126, ↓cb_X9_init_158, ↓cb_X9_init_160, ↓cb_X9_init_188, ↓cb_X9_init_190, ↓cb_X9_init_219, ↓te_alen, ↓te_aload, ↓te_astP, ↓te_callV, ↓te_const, ↓te_dup, ↓te_getP, ↓te_goto, ↓te_icmp, ↓te_iinc, ↓te_iload, ↓te_istore, ↓te_new, ↓te_newa, ↓te_oinit, ↓te_putI, ↓te_putP, ↓te_rem, ↓te_vret, ↓evb_c, ↓evb_n, ↓evk_ap, ↓evm_cut, ↓evm_go, ↓evm_0, ↓jret_v, ↓jret_n, ↓jretX_v, ↓jretX_n, jget, jset, cond_true, cond_false, Nat.reduceBEq, jc1, List.take_succ_cons, List.take_zero, List.drop_succ_cons, List.drop_zero, List.reverse_cons, List.reverse_nil, List.nil_append, List.cons_append, List.length_cons, List.length_nil, Nat.zero_add, Nat.reduceAdd, beq_self_eq_true, true_and, and_true, Nat.reduceLeDiff, Nat.le_refl, Nat.zero_le, Bool.or_true, Bool.true_or, Bool.or_false, Bool.false_or, Bool.or_self]
  try simp (disch := omega) only [Nat.reduceEqDiff, Prod.mk.injEq, Option.some.injEq, true_and, and_true, exists_eq_left', exists_eq_right, exists_and_left, exists_const, true_or, or_true, ne_eq, not_true_eq_false, not_false_eq_true, reduceCtorEq, false_and, and_false, if_true, if_false, forall_const, true_implies, false_implies, implies_true, qI_wI, qI_wP, qP_wI, qP_wP, qN_wI, qN_wP, and_self, nI_add, pk_mul, nI_clamp, vp_in_nI, ng_1, ng_10, nI_eq32, cs_0, cs_1, cs_2, cs_3, cs_4, cs_5, cs_6, cs_7, cs_8, cs_9, cs_10, cs_11, cs_12, cs_13, cs_14, cs_15, cs_16, cs_17, cs_18, cs_19, cs_20, cs_21, cs_22, cs_23, cs_24, cs_25, cs_26, cs_27, cs_28, cs_29, cs_30, cs_31, cs_32, cs_33, cs_34, cs_35, cs_36, cs_37, cs_38, cs_39, cs_40, cs_41, cs_42, cs_43, cs_44, cs_45, cs_46, cs_47, cs_48, cs_49, cs_50, cs_51, cs_52, cs_53, cs_54, cs_55, cs_56, cs_57, cs_58, cs_59, cs_60, cs_61, cs_62, cs_63, cs_64, cs_97, cs_100, cs_122, cs_200, cs_300, cs_448, cs_1000, al_11, al_12, al_13, al_14, al_15, al_16, al_17, al_18, al_19, al_20, al_21, al_22, al_23, al_24, al_25, al_26, al_27, al_28, al_29, al_30, al_31, al_32, al_33, al_34, al_35, al_36, al_37, al_38, al_39, al_40, al_41, al_42, al_43, al_44, al_45, al_46, al_47, qN_wNew, y4_15, fn0, fn2, fn5, fn7, fn8, Nat.reduceLeDiff, Nat.le_refl, Nat.reduceAdd]
  refine k126 _ ⟨?_, ?_, ?_, ?_, ?_, fun r i k hr => ?_, fun r hr => ?_⟩ ?_ ?_ ?_
  · subst e4 e3 e2 e1 e0
    simp only [qP_wP, qP_wI, qP_wNew, qN_wP, qN_wI, qN_wNew, Nat.reduceEqDiff, false_and, and_false, if_false, if_true, true_and, and_true, and_self]
  · subst e4 e3 e2 e1 e0
    simp only [qP_wP, qP_wI, qP_wNew, qN_wP, qN_wI, qN_wNew, Nat.reduceEqDiff, false_and, and_false, if_false, if_true, true_and, and_true, and_self]
    rw [z21, z22, z23, z24]
    exact ⟨rfl, rfl, rfl, rfl⟩
  · subst e4 e3 e2 e1 e0
    simp only [qI_wP, qI_wI, qI_wNew, qN_wP, qN_wI, qN_wNew, jM0_I, Nat.reduceEqDiff, false_and, and_false, if_false, if_true, true_and, and_true, and_self]
  · subst e4 e3 e2 e1 e0
    simp only [qI_wP, qI_wI, qI_wNew, qN_wP, qN_wI, qN_wNew, jM0_I, Nat.reduceEqDiff, false_and, and_false, if_false, if_true, true_and, and_true, and_self, ite_self, implies_true]
  · subst e4 e3 e2 e1 e0
    simp only [qN_wP, qN_wI, qN_wNew, Nat.reduceEqDiff, if_false]
    exact z 6 (by omega)
  · subst e4 e3 e2 e1 e0
    simp only [qI_wP, qI_wI, qI_wNew, qP_wP, qP_wI, qP_wNew, jM0_I, jM0_P, ite_self]
    refine ⟨?_, ?_⟩
    · repeat rw [if_neg (by omega)]
    · repeat rw [if_neg (by omega)]
  · subst e4 e3 e2 e1 e0
    simp only [qN_wP, qN_wI, qN_wNew]
    repeat rw [if_neg (by omega)]
  · subst e4 e3 e2 e1 e0
    simp only [qN_wP, qN_wI, qN_wNew, Nat.reduceEqDiff, if_false]
    exact z 4 (by omega)
  · subst e4 e3 e2 e1 e0
    unfold N3
    simp only [qN_wP, qN_wI, qN_wNew, Nat.reduceEqDiff, if_false]
    exact ⟨z 3 (by omega), z 16 (by omega), z 17 (by omega), z 18 (by omega), z 19 (by omega), z 20 (by omega)⟩
  · subst e4 e3 e2 e1 e0
    simp only [qN_wP, qN_wI, qN_wNew, Nat.reduceEqDiff, if_false]
    exact z 1 (by omega)

