/-! THE REFERENCE'S LOOPS THAT ONLY READ -/
set_option maxRecDepth 20000 in
set_option maxHeartbeats 20000000 in
theorem mm_boxOf (G : jx_G) {M : jx_M} {Q : jx_O → jx_M → Prop} {c : Nat} (hc : c < 65536) (hv : c = 46 ∨ c = 44 ∨ c = 45 ∨ 97 ≤ c) (hQ : Q (rI (spBox c)) M) : Mt G m_X10_boxOf [vI c] M Q := by
  refine Mt.of (sc_X10_boxOf G) (by decide +kernel) (jArgs.of rfl) (Nat.le_of_ble_eq_true rfl) (fun Wn hC => ?_)
  refine ev_at hC (fun pc => false) 9 0 (ls := [some (vI c)]) ?_
  simp only [↓cb_X10_boxOf_0, ↓cb_X10_boxOf_11, ↓cb_X10_boxOf_22, ↓cb_X10_boxOf_33, ↓cb_X10_boxOf_37, ↓te_bin, ↓te_const, ↓te_goto, ↓te_icmp, ↓te_iload, ↓te_iret, ↓evb_c, ↓evb_n, ↓evk_ap, ↓evm_ap, ↓evm_0, ↓jret_v, ↓jret_n, jget, jset, cond_true, cond_false, Nat.reduceBEq, jc1, List.take_succ_cons, List.take_zero, List.drop_succ_cons, List.drop_zero, List.reverse_cons, List.reverse_nil, List.nil_append, List.cons_append, List.length_cons, List.length_nil, Nat.zero_add, Nat.reduceAdd, beq_self_eq_true, true_and, and_true, Nat.reduceLeDiff, Nat.le_refl, Nat.zero_le, Bool.or_true, Bool.true_or, Bool.or_false, Bool.false_or, Bool.or_self]
  simp (disch := omega) only [Nat.reduceEqDiff, Prod.mk.injEq, Option.some.injEq, true_and, and_true, exists_eq_left', exists_eq_right, exists_and_left, exists_const, true_or, or_true, ne_eq, not_true_eq_false, not_false_eq_true, reduceCtorEq, false_and, and_false, if_true, if_false, forall_const, true_implies, false_implies, implies_true, qI_wI, qI_wP, qP_wI, qP_wP, qN_wI, qN_wP, and_self, nI_add, pk_mul, nI_clamp, vp_in_nI, ng_1, ng_10, nI_eq32, cs_0, cs_1, cs_2, cs_3, cs_4, cs_5, cs_6, cs_7, cs_8, cs_9, cs_10, cs_11, cs_12, cs_13, cs_14, cs_15, cs_16, cs_17, cs_18, cs_19, cs_20, cs_21, cs_22, cs_23, cs_24, cs_25, cs_26, cs_27, cs_28, cs_29, cs_30, cs_31, cs_32, cs_33, cs_34, cs_35, cs_36, cs_37, cs_38, cs_39, cs_40, cs_41, cs_42, cs_43, cs_44, cs_45, cs_46, cs_47, cs_48, cs_49, cs_50, cs_51, cs_52, cs_53, cs_54, cs_55, cs_56, cs_57, cs_58, cs_59, cs_60, cs_61, cs_62, cs_63, cs_64, cs_97, cs_100, cs_122, cs_200, cs_300, cs_448, cs_1000, al_11, al_12, al_13, al_14, al_15, al_16, al_17, al_18, al_19, al_20, al_21, al_22, al_23, al_24, al_25, al_26, al_27, al_28, al_29, al_30, al_31, al_32, al_33, al_34, al_35, al_36, al_37, al_38, al_39, al_40, al_41, al_42, al_43, al_44, al_45, al_46, al_47]
  unfold spBox at hQ
  by_cases h1 : c = 46
  · subst h1
    simpa using hQ
  · rw [if_neg h1] at hQ
    by_cases h2 : c = 44
    · subst h2
      simpa using hQ
    · rw [if_neg h2] at hQ
      by_cases h3 : c = 45
      · subst h3
        simpa using hQ
      · rw [if_neg h3] at hQ
        rw [pk_sub (by omega)]
        simpa [h1, h2, h3] using hQ
set_option maxRecDepth 20000 in
set_option maxHeartbeats 20000000 in
theorem mm_behindBlanks (G : jx_G) {M0 M : jx_M} {S : jS} {Q : jx_O → jx_M → Prop} {k0 : Nat} (hk0 : k0 ≤ 60) (hn : S 10 12 ≤ 60) (ht : ∀ k, S 33 k < 65536) (hM : RF M0 M S) (hQ : Q (rI (spBlanks S k0)) M) : Mt G m_X10_behindBlanks [vm, vI k0] M Q := by
  refine Mt.of (sc_X10_behindBlanks G) (by decide +kernel) (jArgs.of rfl) (Nat.le_of_ble_eq_true rfl) (fun Wn hC => ?_)
  obtain ⟨p2, p3, p4, p5, p6, p7, p8, p10, p11, p15, p16, p17, p18, p19, p20, p21, p22, p23, p25, p26, p27, p32⟩ := hM.1.1
  obtain ⟨f10, f25, f26, f27, f28, f29, f30, f31, f32, f33, f34, f35, f36, f37, f38, f39, f40, f41, f42, f43, f44, f45, f46⟩ := hM.fs
  have key : ∀ (d k : Nat), k ≤ 60 → S 10 12 - k ≤ d → Q (rI (spBlanks S k)) M → Wn 2 [some vm, some (vI k0), some (vI k)] [] M 0 0 := by
    intro d
    induction d with
    | zero =>
      intro k hk h1 h2
      refine ev_at hC (fun pc => pc == 2) 9 2 (ls := [some (vm), some (vI k0), some (vI k)]) ?_
      simp only [↓cb_X10_behindBlanks_0, ↓cb_X10_behindBlanks_2, ↓cb_X10_behindBlanks_27, ↓te_ald, ↓te_aload, ↓te_const, ↓te_getI, ↓te_getP, ↓te_goto, ↓te_icmp, ↓te_iinc, ↓te_iload, ↓te_iret, ↓te_istore, ↓evb_c, ↓evb_n, ↓evk_ap, ↓evm_ap, ↓evm_0, ↓jret_v, ↓jret_n, jget, jset, cond_true, cond_false, Nat.reduceBEq, jc1, List.take_succ_cons, List.take_zero, List.drop_succ_cons, List.drop_zero, List.reverse_cons, List.reverse_nil, List.nil_append, List.cons_append, List.length_cons, List.length_nil, Nat.zero_add, Nat.reduceAdd, beq_self_eq_true, true_and, and_true, Nat.reduceLeDiff, Nat.le_refl, Nat.zero_le, Bool.or_true, Bool.true_or, Bool.or_false, Bool.false_or, Bool.or_self]
      simp (disch := omega) only [Nat.reduceEqDiff, Prod.mk.injEq, Option.some.injEq, true_and, and_true, exists_eq_left', exists_eq_right, exists_and_left, exists_const, true_or, or_true, ne_eq, not_true_eq_false, not_false_eq_true, reduceCtorEq, false_and, and_false, if_true, if_false, forall_const, true_implies, false_implies, implies_true, qI_wI, qI_wP, qP_wI, qP_wP, qN_wI, qN_wP, and_self, nI_add, pk_mul, nI_clamp, vp_in_nI, ng_1, ng_10, nI_eq32, cs_0, cs_1, cs_2, cs_3, cs_4, cs_5, cs_6, cs_7, cs_8, cs_9, cs_10, cs_11, cs_12, cs_13, cs_14, cs_15, cs_16, cs_17, cs_18, cs_19, cs_20, cs_21, cs_22, cs_23, cs_24, cs_25, cs_26, cs_27, cs_28, cs_29, cs_30, cs_31, cs_32, cs_33, cs_34, cs_35, cs_36, cs_37, cs_38, cs_39, cs_40, cs_41, cs_42, cs_43, cs_44, cs_45, cs_46, cs_47, cs_48, cs_49, cs_50, cs_51, cs_52, cs_53, cs_54, cs_55, cs_56, cs_57, cs_58, cs_59, cs_60, cs_61, cs_62, cs_63, cs_64, cs_97, cs_100, cs_122, cs_200, cs_300, cs_448, cs_1000, al_11, al_12, al_13, al_14, al_15, al_16, al_17, al_18, al_19, al_20, al_21, al_22, al_23, al_24, al_25, al_26, al_27, al_28, al_29, al_30, al_31, al_32, al_33, al_34, al_35, al_36, al_37, al_38, al_39, al_40, al_41, al_42, al_43, al_44, al_45, al_46, al_47, p2, p3, p4, p5, p6, p7, p8, p10, p11, p15, p16, p17, p18, p19, p20, p21, p22, p23, p25, p26, p27, p32, f10, f25, f26, f27, f28, f29, f30, f31, f32, f33, f34, f35, f36, f37, f38, f39, f40, f41, f42, f43, f44, f45, f46, nI_leI]
      have h3 : spBlanks S k = k := scan_stop (by simp; omega)
      rw [h3] at h2
      exact ⟨fun _ => h2, fun h => absurd (show S 10 12 ≤ k by omega) h⟩
    | succ d ih =>
      intro k hk h1 h2
      have hb := ht k
      refine ev_at hC (fun pc => pc == 2) 9 2 (ls := [some (vm), some (vI k0), some (vI k)]) ?_
      simp only [↓cb_X10_behindBlanks_0, ↓cb_X10_behindBlanks_2, ↓cb_X10_behindBlanks_27, ↓te_ald, ↓te_aload, ↓te_const, ↓te_getI, ↓te_getP, ↓te_goto, ↓te_icmp, ↓te_iinc, ↓te_iload, ↓te_iret, ↓te_istore, ↓evb_c, ↓evb_n, ↓evk_ap, ↓evm_ap, ↓evm_0, ↓jret_v, ↓jret_n, jget, jset, cond_true, cond_false, Nat.reduceBEq, jc1, List.take_succ_cons, List.take_zero, List.drop_succ_cons, List.drop_zero, List.reverse_cons, List.reverse_nil, List.nil_append, List.cons_append, List.length_cons, List.length_nil, Nat.zero_add, Nat.reduceAdd, beq_self_eq_true, true_and, and_true, Nat.reduceLeDiff, Nat.le_refl, Nat.zero_le, Bool.or_true, Bool.true_or, Bool.or_false, Bool.false_or, Bool.or_self]
      simp (disch := omega) only [Nat.reduceEqDiff, Prod.mk.injEq, Option.some.injEq, true_and, and_true, exists_eq_left', exists_eq_right, exists_and_left, exists_const, true_or, or_true, ne_eq, not_true_eq_false, not_false_eq_true, reduceCtorEq, false_and, and_false, if_true, if_false, forall_const, true_implies, false_implies, implies_true, qI_wI, qI_wP, qP_wI, qP_wP, qN_wI, qN_wP, and_self, nI_add, pk_mul, nI_clamp, vp_in_nI, ng_1, ng_10, nI_eq32, cs_0, cs_1, cs_2, cs_3, cs_4, cs_5, cs_6, cs_7, cs_8, cs_9, cs_10, cs_11, cs_12, cs_13, cs_14, cs_15, cs_16, cs_17, cs_18, cs_19, cs_20, cs_21, cs_22, cs_23, cs_24, cs_25, cs_26, cs_27, cs_28, cs_29, cs_30, cs_31, cs_32, cs_33, cs_34, cs_35, cs_36, cs_37, cs_38, cs_39, cs_40, cs_41, cs_42, cs_43, cs_44, cs_45, cs_46, cs_47, cs_48, cs_49, cs_50, cs_51, cs_52, cs_53, cs_54, cs_55, cs_56, cs_57, cs_58, cs_59, cs_60, cs_61, cs_62, cs_63, cs_64, cs_97, cs_100, cs_122, cs_200, cs_300, cs_448, cs_1000, al_11, al_12, al_13, al_14, al_15, al_16, al_17, al_18, al_19, al_20, al_21, al_22, al_23, al_24, al_25, al_26, al_27, al_28, al_29, al_30, al_31, al_32, al_33, al_34, al_35, al_36, al_37, al_38, al_39, al_40, al_41, al_42, al_43, al_44, al_45, al_46, al_47, p2, p3, p4, p5, p6, p7, p8, p10, p11, p15, p16, p17, p18, p19, p20, p21, p22, p23, p25, p26, p27, p32, f10, f25, f26, f27, f28, f29, f30, f31, f32, f33, f34, f35, f36, f37, f38, f39, f40, f41, f42, f43, f44, f45, f46, nI_leI]
      refine ⟨fun h => ?_, fun h => ⟨vp_in_nI (by omega) (by omega), fun h3 => ?_, fun h3 => ?_⟩⟩
      · have h3 : spBlanks S k = k := scan_stop (by simp; omega)
        rw [h3] at h2
        exact h2
      · have h4 : spBlanks S k = k := scan_stop (by simp [h3])
        rw [h4] at h2
        exact h2
      · refine ih (k + 1) (by omega) (by omega) ?_
        have h4 : spBlanks S k = spBlanks S (k + 1) := by
          unfold spBlanks
          rw [show S 10 12 - k = (S 10 12 - (k + 1)) + 1 by omega]
          exact scan_go (by simp only [decide_eq_true_eq]; exact ⟨by omega, Classical.not_not.mp h3⟩)
        rw [h4] at h2
        exact h2
  refine ev_at hC (fun pc => pc == 2) 3 0 (ls := [some vm, some (vI k0), none]) ?_
  try simp only [↓cb_X10_behindBlanks_0, ↓cb_X10_behindBlanks_2, ↓cb_X10_behindBlanks_27, ↓te_ald, ↓te_aload, ↓te_const, ↓te_getI, ↓te_getP, ↓te_goto, ↓te_icmp, ↓te_iinc, ↓te_iload, ↓te_iret, ↓te_istore, ↓evb_c, ↓evb_n, ↓evk_ap, ↓evm_ap, ↓evm_0, ↓jret_v, ↓jret_n, jget, jset, cond_true, cond_false, Nat.reduceBEq, jc1, List.take_succ_cons, List.take_zero, List.drop_succ_cons, List.drop_zero, List.reverse_cons, List.reverse_nil, List.nil_append, List.cons_append, List.length_cons, List.length_nil, Nat.zero_add, Nat.reduceAdd, beq_self_eq_true, true_and, and_true, Nat.reduceLeDiff, Nat.le_refl, Nat.zero_le, Bool.or_true, Bool.true_or, Bool.or_false, Bool.false_or, Bool.or_self]
  exact key _ k0 hk0 (Nat.le_refl _) hQ
