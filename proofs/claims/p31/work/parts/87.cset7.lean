/-! THE CLASS: the text less its first signs; a line that is set -/
set_option maxRecDepth 20000 in
set_option maxHeartbeats 20000000 in
theorem cc_takeOffT (G : jx_G) {M : jx_M} {S : jS} {Q : jx_O → jx_M → Prop} {t : Nat} (hM : TXM M S) (ht : t ≤ S 10 12) (hQ : ∀ M', (∀ r i c, qI M' r i c = if r = 8 ∧ i = 0 ∧ c = 1 then nI (S 10 12 - t) else if r = 21 ∧ i = 0 ∧ c < S 10 12 - t then qI M 21 0 (c + t) else qI M r i c) → (∀ r i c, qP M' r i c = qP M r i c) → (∀ j, qJ M' j = qJ M j) → (∀ r, qN M' r = qN M r) → Q (.inl none) M') : Mt G m_X8_takeOff [oR 8 0, vI t] M Q := by
  refine Mt.of (sc_X8_takeOff G) (by decide +kernel) (jArgs.of rfl) (Nat.le_of_ble_eq_true rfl) (fun Wn hC => ?_)
  obtain ⟨⟨c1, c21⟩, ⟨hT1, hT2, hT3⟩, b8⟩ := hM
  generalize hn : S 10 12 = n at *
  have key : ∀ (d i : Nat) (M1 : jx_M), i + d = n → t ≤ i → (∀ r j c, qI M1 r j c = if r = 21 ∧ j = 0 ∧ c < i - t then qI M 21 0 (c + t) else qI M r j c) → (∀ r j c, qP M1 r j c = qP M r j c) → (∀ j, qJ M1 j = qJ M j) → (∀ r, qN M1 r = qN M r) → Wn 2 [some (oR 8 0), some (vI t), some (vI i)] [] M1 0 0 := by
    intro d
    induction d with
    | zero =>
      intro i M1 g1 g0 h1 h2 h3 h4
      have g2 : i = n := by omega
      subst g2
      have d1 : qI M1 8 0 1 = nI i := by rw [h1, if_neg (by omega)]; exact c1
      have d8 : qP M1 8 0 0 = some 0 := (h2 8 0 0).trans b8
      have k43 : Wn 43 [some (oR 8 0), some (vI t), some (vI i)] [] M1 0 0 := by
        refine ev_at hC (fun pc => false) 9 43 (ls := [some (oR 8 0), some (vI t), some (vI i)]) ?_
        try simp only [↓cb_X8_takeOff_0, ↓cb_X8_takeOff_2, ↓cb_X8_takeOff_43, ↓te_ald, ↓te_alen, ↓te_aload, ↓te_astC, ↓te_bin, ↓te_call, ↓te_const, ↓te_getI, ↓te_getP, ↓te_goto, ↓te_icmp, ↓te_if, ↓te_iinc, ↓te_iload, ↓te_istore, ↓te_putI, ↓te_vret, ↓evb_c, ↓evb_n, ↓evk_ap, ↓evm_cut, ↓evm_go, ↓evm_0, ↓jret_v, ↓jret_n, jget, jset, cond_true, cond_false, Nat.reduceBEq, jc1, List.take_succ_cons, List.take_zero, List.drop_succ_cons, List.drop_zero, List.reverse_cons, List.reverse_nil, List.nil_append, List.cons_append, List.length_cons, List.length_nil, Nat.zero_add, Nat.reduceAdd, beq_self_eq_true, true_and, and_true, Nat.reduceLeDiff, Nat.le_refl, Nat.zero_le, Bool.or_true, Bool.true_or, Bool.or_false, Bool.false_or, Bool.or_self]
        try simp (disch := omega) only [Nat.reduceEqDiff, Prod.mk.injEq, Option.some.injEq, true_and, and_true, exists_eq_left', exists_eq_right, exists_and_left, exists_const, true_or, or_true, ne_eq, not_true_eq_false, not_false_eq_true, reduceCtorEq, false_and, and_false, if_true, if_false, forall_const, true_implies, false_implies, implies_true, qI_wI, qI_wP, qP_wI, qP_wP, qN_wI, qN_wP, and_self, nI_add, pk_mul, nI_clamp, vp_in_nI, ng_1, ng_10, nI_eq32, cs_0, cs_1, cs_2, cs_3, cs_4, cs_5, cs_6, cs_7, cs_8, cs_9, cs_10, cs_11, cs_12, cs_13, cs_14, cs_15, cs_16, cs_17, cs_18, cs_19, cs_20, cs_21, cs_22, cs_23, cs_24, cs_25, cs_26, cs_27, cs_28, cs_29, cs_30, cs_31, cs_32, cs_33, cs_34, cs_35, cs_36, cs_37, cs_38, cs_39, cs_40, cs_41, cs_42, cs_43, cs_44, cs_45, cs_46, cs_47, cs_48, cs_49, cs_50, cs_51, cs_52, cs_53, cs_54, cs_55, cs_56, cs_57, cs_58, cs_59, cs_60, cs_61, cs_62, cs_63, cs_64, cs_97, cs_100, cs_122, cs_200, cs_300, cs_448, cs_1000, al_11, al_12, al_13, al_14, al_15, al_16, al_17, al_18, al_19, al_20, al_21, al_22, al_23, al_24, al_25, al_26, al_27, al_28, al_29, al_30, al_31, al_32, al_33, al_34, al_35, al_36, al_37, al_38, al_39, al_40, al_41, al_42, al_43, al_44, al_45, al_46, al_47, d1, pk_sub]
        refine cc_max0 G (by omega) ?_
        try simp only [↓cb_X8_takeOff_0, ↓cb_X8_takeOff_2, ↓cb_X8_takeOff_43, ↓te_ald, ↓te_alen, ↓te_aload, ↓te_astC, ↓te_bin, ↓te_call, ↓te_const, ↓te_getI, ↓te_getP, ↓te_goto, ↓te_icmp, ↓te_if, ↓te_iinc, ↓te_iload, ↓te_istore, ↓te_putI, ↓te_vret, ↓evb_c, ↓evb_n, ↓evk_ap, ↓evm_cut, ↓evm_go, ↓evm_0, ↓jret_v, ↓jret_n, jget, jset, cond_true, cond_false, Nat.reduceBEq, jc1, List.take_succ_cons, List.take_zero, List.drop_succ_cons, List.drop_zero, List.reverse_cons, List.reverse_nil, List.nil_append, List.cons_append, List.length_cons, List.length_nil, Nat.zero_add, Nat.reduceAdd, beq_self_eq_true, true_and, and_true, Nat.reduceLeDiff, Nat.le_refl, Nat.zero_le, Bool.or_true, Bool.true_or, Bool.or_false, Bool.false_or, Bool.or_self]
        try simp (disch := omega) only [Nat.reduceEqDiff, Prod.mk.injEq, Option.some.injEq, true_and, and_true, exists_eq_left', exists_eq_right, exists_and_left, exists_const, true_or, or_true, ne_eq, not_true_eq_false, not_false_eq_true, reduceCtorEq, false_and, and_false, if_true, if_false, forall_const, true_implies, false_implies, implies_true, qI_wI, qI_wP, qP_wI, qP_wP, qN_wI, qN_wP, and_self, nI_add, pk_mul, nI_clamp, vp_in_nI, ng_1, ng_10, nI_eq32, cs_0, cs_1, cs_2, cs_3, cs_4, cs_5, cs_6, cs_7, cs_8, cs_9, cs_10, cs_11, cs_12, cs_13, cs_14, cs_15, cs_16, cs_17, cs_18, cs_19, cs_20, cs_21, cs_22, cs_23, cs_24, cs_25, cs_26, cs_27, cs_28, cs_29, cs_30, cs_31, cs_32, cs_33, cs_34, cs_35, cs_36, cs_37, cs_38, cs_39, cs_40, cs_41, cs_42, cs_43, cs_44, cs_45, cs_46, cs_47, cs_48, cs_49, cs_50, cs_51, cs_52, cs_53, cs_54, cs_55, cs_56, cs_57, cs_58, cs_59, cs_60, cs_61, cs_62, cs_63, cs_64, cs_97, cs_100, cs_122, cs_200, cs_300, cs_448, cs_1000, al_11, al_12, al_13, al_14, al_15, al_16, al_17, al_18, al_19, al_20, al_21, al_22, al_23, al_24, al_25, al_26, al_27, al_28, al_29, al_30, al_31, al_32, al_33, al_34, al_35, al_36, al_37, al_38, al_39, al_40, al_41, al_42, al_43, al_44, al_45, al_46, al_47]
        refine hQ _ (fun r j c => ?_) h2 h3 h4
        rw [qI_wI, h1]
      refine ev_at hC (fun pc => pc == 2 || pc == 43) 9 2 (ls := [some (oR 8 0), some (vI t), some (vI i)]) ?_
      try simp only [↓cb_X8_takeOff_0, ↓cb_X8_takeOff_2, ↓cb_X8_takeOff_43, ↓te_ald, ↓te_alen, ↓te_aload, ↓te_astC, ↓te_bin, ↓te_call, ↓te_const, ↓te_getI, ↓te_getP, ↓te_goto, ↓te_icmp, ↓te_if, ↓te_iinc, ↓te_iload, ↓te_istore, ↓te_putI, ↓te_vret, ↓evb_c, ↓evb_n, ↓evk_ap, ↓evm_cut, ↓evm_go, ↓evm_0, ↓jret_v, ↓jret_n, jget, jset, cond_true, cond_false, Nat.reduceBEq, jc1, List.take_succ_cons, List.take_zero, List.drop_succ_cons, List.drop_zero, List.reverse_cons, List.reverse_nil, List.nil_append, List.cons_append, List.length_cons, List.length_nil, Nat.zero_add, Nat.reduceAdd, beq_self_eq_true, true_and, and_true, Nat.reduceLeDiff, Nat.le_refl, Nat.zero_le, Bool.or_true, Bool.true_or, Bool.or_false, Bool.false_or, Bool.or_self]
      try simp (disch := omega) only [Nat.reduceEqDiff, Prod.mk.injEq, Option.some.injEq, true_and, and_true, exists_eq_left', exists_eq_right, exists_and_left, exists_const, true_or, or_true, ne_eq, not_true_eq_false, not_false_eq_true, reduceCtorEq, false_and, and_false, if_true, if_false, forall_const, true_implies, false_implies, implies_true, qI_wI, qI_wP, qP_wI, qP_wP, qN_wI, qN_wP, and_self, nI_add, pk_mul, nI_clamp, vp_in_nI, ng_1, ng_10, nI_eq32, cs_0, cs_1, cs_2, cs_3, cs_4, cs_5, cs_6, cs_7, cs_8, cs_9, cs_10, cs_11, cs_12, cs_13, cs_14, cs_15, cs_16, cs_17, cs_18, cs_19, cs_20, cs_21, cs_22, cs_23, cs_24, cs_25, cs_26, cs_27, cs_28, cs_29, cs_30, cs_31, cs_32, cs_33, cs_34, cs_35, cs_36, cs_37, cs_38, cs_39, cs_40, cs_41, cs_42, cs_43, cs_44, cs_45, cs_46, cs_47, cs_48, cs_49, cs_50, cs_51, cs_52, cs_53, cs_54, cs_55, cs_56, cs_57, cs_58, cs_59, cs_60, cs_61, cs_62, cs_63, cs_64, cs_97, cs_100, cs_122, cs_200, cs_300, cs_448, cs_1000, al_11, al_12, al_13, al_14, al_15, al_16, al_17, al_18, al_19, al_20, al_21, al_22, al_23, al_24, al_25, al_26, al_27, al_28, al_29, al_30, al_31, al_32, al_33, al_34, al_35, al_36, al_37, al_38, al_39, al_40, al_41, al_42, al_43, al_44, al_45, al_46, al_47, d1, d8, nI_leI, nI_ltI]
      first
        | exact ⟨fun _ => k43, fun _ => ⟨fun _ => k43, fun z => absurd (Nat.le_refl _) z⟩⟩
        | exact ⟨fun z => absurd z (by omega), fun _ => k43⟩
        | exact ⟨fun z => absurd z (by omega), fun _ => ⟨fun _ => k43, fun z => absurd (Nat.le_refl _) z⟩⟩
    | succ d ih =>
      intro i M1 g1 g0 h1 h2 h3 h4
      have d1 : qI M1 8 0 1 = nI n := by rw [h1, if_neg (by omega)]; exact c1
      have d8 : qP M1 8 0 0 = some 0 := (h2 8 0 0).trans b8
      have e0 : qI M1 21 0 i = nI (S 33 i) := by rw [h1, if_neg (by omega)]; exact c21 i (by omega)
      have h33 := hT2 i
      have g := ih (i + 1) (wI M1 21 0 (i - t) (nI (S 33 i))) (by omega) (by omega) (fun r j c => by
        rw [qI_wI]
        by_cases e : r = 21 ∧ j = 0 ∧ c = i - t
        · rw [if_pos e, if_pos (by omega)]
          obtain ⟨-, -, e3⟩ := e
          rw [show c + t = i by omega, c21 i (by omega)]
        · rw [if_neg e, h1 r j c]
          by_cases e3 : r = 21 ∧ j = 0 ∧ c < i - t
          · rw [if_pos e3, if_pos (by omega)]
          · rw [if_neg e3, if_neg (by omega)]) h2 h3 h4
      refine ev_at hC (fun pc => pc == 2 || pc == 43) 9 2 (ls := [some (oR 8 0), some (vI t), some (vI i)]) ?_
      try simp only [↓cb_X8_takeOff_0, ↓cb_X8_takeOff_2, ↓cb_X8_takeOff_43, ↓te_ald, ↓te_alen, ↓te_aload, ↓te_astC, ↓te_bin, ↓te_call, ↓te_const, ↓te_getI, ↓te_getP, ↓te_goto, ↓te_icmp, ↓te_if, ↓te_iinc, ↓te_iload, ↓te_istore, ↓te_putI, ↓te_vret, ↓evb_c, ↓evb_n, ↓evk_ap, ↓evm_cut, ↓evm_go, ↓evm_0, ↓jret_v, ↓jret_n, jget, jset, cond_true, cond_false, Nat.reduceBEq, jc1, List.take_succ_cons, List.take_zero, List.drop_succ_cons, List.drop_zero, List.reverse_cons, List.reverse_nil, List.nil_append, List.cons_append, List.length_cons, List.length_nil, Nat.zero_add, Nat.reduceAdd, beq_self_eq_true, true_and, and_true, Nat.reduceLeDiff, Nat.le_refl, Nat.zero_le, Bool.or_true, Bool.true_or, Bool.or_false, Bool.false_or, Bool.or_self]
      try simp (disch := omega) only [Nat.reduceEqDiff, Prod.mk.injEq, Option.some.injEq, true_and, and_true, exists_eq_left', exists_eq_right, exists_and_left, exists_const, true_or, or_true, ne_eq, not_true_eq_false, not_false_eq_true, reduceCtorEq, false_and, and_false, if_true, if_false, forall_const, true_implies, false_implies, implies_true, qI_wI, qI_wP, qP_wI, qP_wP, qN_wI, qN_wP, and_self, nI_add, pk_mul, nI_clamp, vp_in_nI, ng_1, ng_10, nI_eq32, cs_0, cs_1, cs_2, cs_3, cs_4, cs_5, cs_6, cs_7, cs_8, cs_9, cs_10, cs_11, cs_12, cs_13, cs_14, cs_15, cs_16, cs_17, cs_18, cs_19, cs_20, cs_21, cs_22, cs_23, cs_24, cs_25, cs_26, cs_27, cs_28, cs_29, cs_30, cs_31, cs_32, cs_33, cs_34, cs_35, cs_36, cs_37, cs_38, cs_39, cs_40, cs_41, cs_42, cs_43, cs_44, cs_45, cs_46, cs_47, cs_48, cs_49, cs_50, cs_51, cs_52, cs_53, cs_54, cs_55, cs_56, cs_57, cs_58, cs_59, cs_60, cs_61, cs_62, cs_63, cs_64, cs_97, cs_100, cs_122, cs_200, cs_300, cs_448, cs_1000, al_11, al_12, al_13, al_14, al_15, al_16, al_17, al_18, al_19, al_20, al_21, al_22, al_23, al_24, al_25, al_26, al_27, al_28, al_29, al_30, al_31, al_32, al_33, al_34, al_35, al_36, al_37, al_38, al_39, al_40, al_41, al_42, al_43, al_44, al_45, al_46, al_47, d1, d8, e0, nI_leI, nI_ltI, pk_sub, pk_char, pk_tn, Nat.mod_eq_of_lt]
      repeat (first | exact g | (refine ⟨fun h9 => absurd h9 (by first | omega | assumption), fun _ => ?_⟩) | (refine ⟨fun _ => ?_, fun h9 => absurd (by first | omega | assumption) h9⟩))
  have k2 := key (n - t) t M (by omega) (Nat.le_refl _) (fun r j c => by rw [if_neg (by omega)]) (fun _ _ _ => rfl) (fun _ => rfl) (fun _ => rfl)
  refine ev_at hC (fun pc => pc == 2) 9 0 (ls := [some (oR 8 0), some (vI t), none]) ?_
  try simp only [↓cb_X8_takeOff_0, ↓cb_X8_takeOff_2, ↓cb_X8_takeOff_43, ↓te_ald, ↓te_alen, ↓te_aload, ↓te_astC, ↓te_bin, ↓te_call, ↓te_const, ↓te_getI, ↓te_getP, ↓te_goto, ↓te_icmp, ↓te_if, ↓te_iinc, ↓te_iload, ↓te_istore, ↓te_putI, ↓te_vret, ↓evb_c, ↓evb_n, ↓evk_ap, ↓evm_cut, ↓evm_go, ↓evm_0, ↓jret_v, ↓jret_n, jget, jset, cond_true, cond_false, Nat.reduceBEq, jc1, List.take_succ_cons, List.take_zero, List.drop_succ_cons, List.drop_zero, List.reverse_cons, List.reverse_nil, List.nil_append, List.cons_append, List.length_cons, List.length_nil, Nat.zero_add, Nat.reduceAdd, beq_self_eq_true, true_and, and_true, Nat.reduceLeDiff, Nat.le_refl, Nat.zero_le, Bool.or_true, Bool.true_or, Bool.or_false, Bool.false_or, Bool.or_self]
  try simp (disch := omega) only [Nat.reduceEqDiff, Prod.mk.injEq, Option.some.injEq, true_and, and_true, exists_eq_left', exists_eq_right, exists_and_left, exists_const, true_or, or_true, ne_eq, not_true_eq_false, not_false_eq_true, reduceCtorEq, false_and, and_false, if_true, if_false, forall_const, true_implies, false_implies, implies_true, qI_wI, qI_wP, qP_wI, qP_wP, qN_wI, qN_wP, and_self, nI_add, pk_mul, nI_clamp, vp_in_nI, ng_1, ng_10, nI_eq32, cs_0, cs_1, cs_2, cs_3, cs_4, cs_5, cs_6, cs_7, cs_8, cs_9, cs_10, cs_11, cs_12, cs_13, cs_14, cs_15, cs_16, cs_17, cs_18, cs_19, cs_20, cs_21, cs_22, cs_23, cs_24, cs_25, cs_26, cs_27, cs_28, cs_29, cs_30, cs_31, cs_32, cs_33, cs_34, cs_35, cs_36, cs_37, cs_38, cs_39, cs_40, cs_41, cs_42, cs_43, cs_44, cs_45, cs_46, cs_47, cs_48, cs_49, cs_50, cs_51, cs_52, cs_53, cs_54, cs_55, cs_56, cs_57, cs_58, cs_59, cs_60, cs_61, cs_62, cs_63, cs_64, cs_97, cs_100, cs_122, cs_200, cs_300, cs_448, cs_1000, al_11, al_12, al_13, al_14, al_15, al_16, al_17, al_18, al_19, al_20, al_21, al_22, al_23, al_24, al_25, al_26, al_27, al_28, al_29, al_30, al_31, al_32, al_33, al_34, al_35, al_36, al_37, al_38, al_39, al_40, al_41, al_42, al_43, al_44, al_45, al_46, al_47]
  exact k2
theorem scan_sh {q r : Nat → Bool} {t : Nat} (h : ∀ j, q j = r (j + t)) : ∀ (d k : Nat), scan q d k + t = scan r d (k + t)
  | 0, _ => rfl
  | d + 1, k => by
    unfold scan
    rw [h k]
    split
    · rw [scan_sh h d (k + 1), show k + 1 + t = k + t + 1 by omega]
    · rfl
theorem spLast_end {S T : jS} {n f t : Nat} (h33 : ∀ k, T 33 k = S 33 k) (h12 : T 10 12 = S 10 12) (ht : t = spTo S 0 f) (ht2 : t ≤ S 10 12) (hsp : spSplit S 0 f = 0 ∨ (spSplit S 0 f = 1 ∧ t < S 10 12 ∧ ¬ S 33 t = 32)) : jb (spBlanks (spEndB T n f t) 0 = spEndB T n f t 10 12) = spLast S 0 f := by
  have e1 : spBlanks (spEndB T n f t) 0 + t = spBlanks S t := by
    unfold spBlanks
    rw [spEndB_12, h12, scan_sh (r := fun k => decide (k < S 10 12 ∧ S 33 k = 32)) (t := t) (fun j => ?_), Nat.sub_zero, Nat.zero_add]
    show decide (j < S 10 12 - t ∧ spEndB T n f t 33 j = 32) = decide (j + t < S 10 12 ∧ S 33 (j + t) = 32)
    rw [spEndB_33, h12, h33]
    by_cases c : j + t < S 10 12
    · rw [if_pos c]
      have : (j < S 10 12 - t ∧ S 33 (j + t) = 32) ↔ (j + t < S 10 12 ∧ S 33 (j + t) = 32) := by omega
      exact decide_eq_decide.mpr this
    · rw [if_neg c]
      have : (j < S 10 12 - t ∧ T 33 j = 32) ↔ (j + t < S 10 12 ∧ S 33 (j + t) = 32) := by omega
      exact decide_eq_decide.mpr this
  have e2 := spBlanks_le S ht2
  rw [spEndB_12, h12]
  unfold spLast
  rw [← ht]
  rcases hsp with q | ⟨q, q2, q3⟩
  · rw [if_neg (by omega)]
    by_cases c : S 10 12 ≤ spBlanks S t
    · rw [jb_t c, jb_t (by omega)]
    · rw [jb_f c, jb_f (by omega)]
  · rw [if_pos q, jb_f]
    have e3 : spBlanks S t = t := by
      unfold spBlanks
      exact scan_stop (by simp [q3])
    omega
theorem CX_setend {M0 M M1 M2 : jx_M} {S T : jS} {p pl : Nat → Nat} {n f la k t : Nat} (hWf : Wf S) (h : IV M0 M S p pl n f la M1 T k) (hn : S 10 14 = n) (hn12 : n < 12) (hk60 : k ≤ spBlanks S 0 + 60) (hla : la = jb (spBlanks (spEndB T n f t) 0 = spEndB T n f t 10 12)) (hI : ∀ r i c, qI M2 r i c = if r = 9 ∧ i = 0 ∧ c = 8 then nI (n + 1) else if r = 8 ∧ i = 0 ∧ c = 1 then nI (S 10 12 - t) else if r = 21 ∧ i = 0 ∧ c < S 10 12 - t then qI M1 21 0 (c + t) else qI M1 r i c) (hP : ∀ r i c, qP M2 r i c = qP M1 r i c) (hJ : ∀ j, qJ M2 j = qJ M1 j) (hN : ∀ r, qN M2 r = qN M1 r) : CX M0 M2 (spZero (spEndC T n f t) n (448 * n + 7 * T 38 n + 7)) p := by
  obtain ⟨⟨⟨hM, hKP⟩, hS⟩, ⟨a1, a2, a3, a4, a5⟩, hj, hg, -, -, -⟩ := h
  obtain ⟨t33, t12, tF, tP, tT, t35, t38, t46, t29, t98⟩ := hS.facts hWf (by omega)
  obtain ⟨hB, hT, hSp, hF, hH, hPr, hO, hK, hA, hQ, hL, hZ⟩ := hM
  have hr3 := hS.2.2.1
  have h14 : T 10 14 = n := by rw [hr3 10 14 (by omega)]; exact hn
  have hv : ∀ a x, ¬ a = 27 → vw n T a x = T a x := fun a x h => vw_row h
  have e14 : spZero (spEndC T n f t) n (448 * n + 7 * T 38 n + 7) 10 14 = n + 1 := by unfold spZero spEndC; rw [if_neg (by omega), sw_at, if_pos ⟨rfl, rfl⟩]
  have e12 : spZero (spEndC T n f t) n (448 * n + 7 * T 38 n + 7) 10 12 = S 10 12 - t := by unfold spZero spEndC; rw [if_neg (by omega), sw_at, if_neg (by omega), sw_at, if_neg (by omega), spEndB_12, t12]
  have e33 : ∀ c, c + t < S 10 12 → spZero (spEndC T n f t) n (448 * n + 7 * T 38 n + 7) 33 c = S 33 (c + t) := fun c hc => by
    unfold spZero spEndC
    rw [if_neg (by omega), sw_at, if_neg (by omega), sw_at, if_neg (by omega), spEndB_33, t12, if_pos hc, t33]
  have e27 : ∀ s, spZero (spEndC T n f t) n (448 * n + 7 * T 38 n + 7) 27 s = vw n T 27 s := fun s => by
    unfold spZero spEndC spEndB spCutT spCutK spEndA vw
    rw [if_neg (by omega), sw_at, if_neg (by omega), sw_at, if_neg (by omega), sw_at, if_neg (by omega), if_neg (by omega), sw_at, if_neg (by omega), sw_at, if_neg (by omega)]
  have e34 : spZero (spEndC T n f t) n (448 * n + 7 * T 38 n + 7) 34 n = f := by
    unfold spZero spEndC spEndB spCutT spCutK spEndA
    rw [if_neg (by omega), sw_at, if_neg (by omega), sw_at, if_neg (by omega), sw_at, if_neg (by omega), if_neg (by omega), sw_at, if_neg (by omega), sw_at, if_pos ⟨rfl, rfl⟩]
  have e42 : spZero (spEndC T n f t) n (448 * n + 7 * T 38 n + 7) 42 n = jNo := by
    unfold spZero spEndC spEndB spCutT spCutK spEndA
    rw [if_neg (by omega), sw_at, if_neg (by omega), sw_at, if_neg (by omega), sw_at, if_neg (by omega), if_neg (by omega), sw_at, if_pos ⟨rfl, rfl⟩]
  have e41 : spZero (spEndC T n f t) n (448 * n + 7 * T 38 n + 7) 41 n = la := by
    unfold spZero spEndC
    rw [if_neg (by omega), sw_at, if_neg (by omega), sw_at, if_pos ⟨rfl, rfl⟩, hla]
  have er : ∀ a b, ¬ (a = 27 ∨ a = 33 ∨ (a = 10 ∧ (b = 12 ∨ b = 14)) ∨ ((a = 34 ∨ a = 41 ∨ a = 42) ∧ b = n) ∨ (a = 40 ∧ 448 * n ≤ b ∧ b < 448 * n + 7 * T 38 n + 7)) → spZero (spEndC T n f t) n (448 * n + 7 * T 38 n + 7) a b = T a b := fun a b hab => by
    unfold spZero
    rw [if_neg (by omega)]
    exact spEndC_row (by omega)
  have e40 : ∀ b, 448 * n ≤ b → b < 448 * n + 7 * T 38 n + 7 → spZero (spEndC T n f t) n (448 * n + 7 * T 38 n + 7) 40 b = 0 := fun b h1 h2 => by
    unfold spZero
    rw [if_pos ⟨rfl, h1, h2⟩]
  generalize hE : spZero (spEndC T n f t) n (448 * n + 7 * T 38 n + 7) = E at *
  have iI : ∀ r, ¬ (r = 9 ∨ r = 8 ∨ r = 21) → sI M1 M2 r := fun r hr i c => by rw [hI, if_neg (by omega), if_neg (by omega), if_neg (by omega)]
  have iP : ∀ r, sP M1 M2 r := fun r i c => hP r i c
  have erv : ∀ a b, ¬ (a = 27 ∨ a = 33 ∨ (a = 10 ∧ (b = 12 ∨ b = 14)) ∨ ((a = 34 ∨ a = 41 ∨ a = 42) ∧ b = n) ∨ (a = 40 ∧ 448 * n ≤ b ∧ b < 448 * n + 7 * T 38 n + 7)) → E a b = vw n T a b := fun a b hab => by rw [er a b hab, hv a b (by omega)]
  refine ⟨⟨⟨?_, ?_, ⟨?_, ?_, ?_, ?_⟩, ?_⟩, ⟨?_, fun c hc => ?_⟩, hSp.fr (iI 24 (by omega)) (fun c => erv 32 c (by omega)), hF.fr (iP 14) (iI 1 (by omega)) (fun c _ => erv 43 c (by omega)) (fun c _ => erv 44 c (by omega)), hH.fr (iI 2 (by omega)) (iP 22) (erv 10 9 (by omega)) (fun c _ => erv 31 c (by omega)), hPr.fr (iI 5 (by omega)) (iI 23 (by omega)) (erv 10 28 (by omega)) (fun c _ => erv 45 c (by omega)), hO.fr (iP 12) (iI 6 (by omega)) (erv 10 1 (by omega)) (fun a s ha _ => ?_), hK.fr (iP 11) (iI 4 (by omega)) (iP 4) (fun k i _ _ => ⟨iP 6 _ _, iP 6 _ _⟩) (erv 10 1 (by omega)) (fun c _ => erv 30 c (by omega)) (fun k i _ _ => erv 29 _ (by omega)) (fun s _ => erv 25 s (by omega)) (fun s _ => by rw [e27]), hA.fr (fun o c _ => iP 3 o c), hQ.fr (iP 13), fun m hm => ?_, fun m hm hm2 => ?_⟩, fun r i c hr => ⟨?_, ?_⟩, fun c => ?_, fun r hr => ?_⟩
  · simp only [hP]; exact hB.1
  · simp only [hP]; exact hB.2.1
  · rw [hI, if_neg (by omega), if_neg (by omega), if_neg (by omega), erv 10 1 (by omega)]; exact hB.2.2.1.1
  · rw [hI, if_neg (by omega), if_neg (by omega), if_neg (by omega), erv 10 13 (by omega)]; exact hB.2.2.1.2.1
  · rw [hI, if_pos ⟨rfl, rfl, rfl⟩, e14]
  · rw [hI, if_neg (by omega), if_neg (by omega), if_neg (by omega), erv 10 24 (by omega)]; exact hB.2.2.1.2.2.2
  · rw [hN, erv 10 1 (by omega)]; exact hB.2.2.2
  · rw [hI, if_neg (by omega), if_pos ⟨rfl, rfl, rfl⟩, e12]
  · rw [e12] at hc
    rw [hI, if_neg (by omega), if_neg (by omega), if_pos ⟨rfl, rfl, hc⟩, e33 c (by omega)]
    have q := hT.2 (c + t) (by rw [hv 10 12 (by omega), t12]; omega)
    rw [hv 33 _ (by omega), t33] at q
    exact q
  · by_cases c : a = 27
    · rw [c]; exact e27 s
    · exact erv a s (by omega)
  · rw [e14] at hm
    by_cases e : m = n
    · subst e
      refine ⟨⟨⟨?_, ?_, ?_, ?_, ?_⟩, fun c hc => ?_, fun g hg2 => ?_⟩, fun g hg2 => ?_, fun c hc => ?_⟩
      · rw [iI 3 (by omega), e34]; exact a1
      · rw [iI 3 (by omega), er 35 m (by omega)]; exact a2
      · rw [iI 3 (by omega), er 38 m (by omega)]; exact a3
      · rw [iI 3 (by omega), e41]; exact a4
      · rw [iP 3, e42, a5]
        exact (if_pos rfl).symm
      · rw [er 35 m (by omega)] at hc
        rw [iP 16, iI 17 (by omega), iP 6, er 36 _ (by omega), er 37 _ (by omega), e34]
        exact hj c hc
      · rw [er 38 m (by omega)] at hg2
        rw [iI 18 (by omega), er 39 _ (by omega)]
        exact hg g hg2
      · have q := (hZ m (by rw [hv 10 14 (by omega), h14]; exact Nat.le_refl _) hn12).1 g hg2
        rw [iI 19 (by omega), q, er 38 m (by omega)]
        by_cases c : g ≤ T 38 m
        · rw [if_pos c, spUnits_6, e40 _ (by omega) (by omega), e40 _ (by omega) (by omega), e40 _ (by omega) (by omega), e40 _ (by omega) (by omega), e40 _ (by omega) (by omega), e40 _ (by omega) (by omega)]
          rfl
        · rw [if_neg c]
          rfl
      · have q := (hZ m (by rw [hv 10 14 (by omega), h14]; exact Nat.le_refl _) hn12).2 c hc
        have hu1 := un_ge hc
        have hu2 := un_lt (j := c)
        rw [iI 20 (by omega), q, er 38 m (by omega), sumr_0 _ (fun g hg2 => e40 _ (by omega) (by omega))]
        rfl
    · have hm2 : m < n := by omega
      have hx := (hWf.2.2.1 m (by omega)).1
      have h35 : T 35 m = S 35 m := hr3 35 m (by omega)
      have h38 : T 38 m = S 38 m := hr3 38 m (by omega)
      obtain ⟨hLn, hU⟩ := hL m (by rw [hv 10 14 (by omega), h14]; exact hm2)
      have v35 : vw n T 35 m = T 35 m := hv 35 m (by omega)
      have v38 : vw n T 38 m = T 38 m := hv 38 m (by omega)
      refine ⟨hLn.fr (fun c => iI 3 (by omega) _ c) (iP 3 _ _) (fun c => iP 16 _ c) (fun c => iI 17 (by omega) _ c) (fun c => iI 18 (by omega) _ c) (fun c _ => iP 6 _ _) (fun a ha => erv a m (by omega)) (fun c hc => ⟨erv 36 _ (by omega), erv 37 _ (by omega)⟩) (fun g hg2 => erv 39 _ (by omega)), hU.fr (fun c => iI 19 (by omega) _ c) (fun c => iI 20 (by omega) _ c) (erv 38 m (by omega)) (fun g u hg2 hu => erv 40 _ (by omega))⟩
  · rw [e14] at hm
    exact (hZ m (by rw [hv 10 14 (by omega), h14]; omega) hm2).fr (fun c => iI 19 (by omega) _ c) (fun c => iI 20 (by omega) _ c)
  · rw [iI r (by omega)]; exact (hKP.1 r i c hr).1
  · rw [iP r]; exact (hKP.1 r i c hr).2
  · rw [hJ]; exact hKP.2.1 c
  · rw [hN]; exact hKP.2.2 r hr

