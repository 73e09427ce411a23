/-! THE CLASS: a sort given back; a line's spaces taken back -/
theorem CM_melt {M : jx_M} {S : jS} {p : Nat → Nat} {s : Nat} (h : CM M S p) (hs : s < S 10 1) (hf : S 25 s < 58) (h27 : ¬ S 27 s = 3) : CM (wI (wI M 6 s 5 (nI 3)) 4 (S 25 s) 3 (qI M 4 (S 25 s) 3 - nI 1)) (sw S 27 s 3) p := by
  obtain ⟨hB, hT, hS, hF, hH, hP, hO, hK, hL⟩ := h
  have iI : ∀ r, ¬ r = 4 → ¬ r = 6 → sI M (wI (wI M 6 s 5 (nI 3)) 4 (S 25 s) 3 (qI M 4 (S 25 s) 3 - nI 1)) r := fun r h4 h6 i c => by rw [qI_wI, if_neg (fun q => h4 q.1), qI_wI, if_neg (fun q => h6 q.1)]
  have iP : ∀ r, sP M (wI (wI M 6 s 5 (nI 3)) 4 (S 25 s) 3 (qI M 4 (S 25 s) 3 - nI 1)) r := fun r i c => rfl
  have er : ∀ x b, ¬ x = 27 → sw S 27 s 3 x b = S x b := fun x b hab => by rw [sw_at, if_neg (fun q => hab q.1)]
  refine ⟨hB.fr (fun c => rfl) (fun c _ => iI 9 (by omega) (by omega) 0 c) (iP 7) (iP 8) (iP 2) (iP 5) rfl (er 10 1 (by omega)) (er 10 13 (by omega)) (er 10 14 (by omega)) (er 10 24 (by omega)), hT.fr (iI 8 (by omega) (by omega)) (iI 21 (by omega) (by omega)) (er 10 12 (by omega)) (fun c _ => er 33 c (by omega)), hS.fr (iI 24 (by omega) (by omega)) (fun c => er 32 c (by omega)), hF.fr (iP 14) (iI 1 (by omega) (by omega)) (fun c _ => er 43 c (by omega)) (fun c _ => er 44 c (by omega)), hH.fr (iI 2 (by omega) (by omega)) (iP 22) (er 10 9 (by omega)) (fun c _ => er 31 c (by omega)), hP.fr (iI 5 (by omega) (by omega)) (iI 23 (by omega) (by omega)) (er 10 28 (by omega)) (fun c _ => er 45 c (by omega)), fun t ht => ?_, fun k hk => ?_, hL.fr (iI 3 (by omega) (by omega)) (iP 3) (iP 13) (iP 16) (iI 17 (by omega) (by omega)) (iI 18 (by omega) (by omega)) (iI 19 (by omega) (by omega)) (iI 20 (by omega) (by omega)) (fun t => rfl) (er 10 14 (by omega)) (fun a b hab => er a b (by omega))⟩
  · rw [er 10 1 (by omega)] at ht
    obtain ⟨o1, o2, o3, o4, o5, o6, o7⟩ := hO t ht
    rw [er 25 t (by omega), er 26 t (by omega), er 28 t (by omega)]
    simp only [qI_wI, qP_wI, sw_at, true_and, and_true, Nat.reduceEqDiff, false_and, and_false, if_false]
    refine ⟨o1, o2, o3, o4, o5, o6, ?_⟩
    by_cases e : t = s
    · rw [if_pos e, if_pos e]
    · rw [if_neg e, if_neg e]; exact o7
  · obtain ⟨⟨a1, a2, a3, a4, a5⟩, b⟩ := hK k hk
    refine ⟨⟨a1, ?_, a3, ?_, ?_⟩, b⟩
    · simp only [qI_wI, Nat.reduceEqDiff, false_and, and_false, if_false, true_and]
      exact a2
    · simp only [qI_wI, Nat.reduceEqDiff, false_and, and_false, if_false, true_and]
      exact a4
    · rw [er 10 1 (by omega)]
      have e27 : ∀ t, sw S 27 s 3 27 t = if t = s then 3 else S 27 t := fun t => by simp [sw_at]
      have hsum : spLead (sw S 27 s 3) k (S 10 1) + jb (S 25 s = k ∧ ¬ S 27 s = 3) = spLead S k (S 10 1) + jb (sw S 27 s 3 25 s = k ∧ ¬ sw S 27 s 3 27 s = 3) := sumr_upd (f := fun t => jb (S 25 t = k ∧ ¬ S 27 t = 3)) (g := fun t => jb (sw S 27 s 3 25 t = k ∧ ¬ sw S 27 s 3 27 t = 3)) hs (fun t _ hne => by
        unfold jb
        simp only [e27, if_neg hne, er 25 t (by omega)])
      have g0 : jb (sw S 27 s 3 25 s = k ∧ ¬ sw S 27 s 3 27 s = 3) = 0 := jb_f (fun q => q.2 (by rw [e27, if_pos rfl]))
      rw [g0] at hsum
      rw [qI_wI]
      by_cases e : k = S 25 s
      · rw [jb_t ⟨e.symm, h27⟩] at hsum
        rw [if_pos ⟨rfl, e, rfl⟩, ← e, a5, pk_sub (by omega)]
        congr 1
        omega
      · rw [jb_f (fun q => e q.1.symm)] at hsum
        rw [if_neg (fun q => e q.2.1), qI_wI, if_neg (by omega), a5]
        congr 1
        omega
set_option maxRecDepth 20000 in
set_option maxHeartbeats 20000000 in
theorem cc_put (G : jx_G) {M : jx_M} {Q : jx_O → jx_M → Prop} {k s : Nat} (hQ : Q (.inl none) (mPut M k s)) : Mt G m_X4_put [oR 4 k, oR 6 s] M Q := by
  refine Mt.of (sc_X4_put G) (by decide +kernel) (jArgs.of rfl) (Nat.le_of_ble_eq_true rfl) (fun Wn hC => ?_)
  refine ev_at hC (fun pc => false) 9 0 (ls := [some (oR 4 k), some (oR 6 s)]) ?_
  simp only [↓cb_X4_put_0, ↓te_aload, ↓te_bin, ↓te_const, ↓te_dup, ↓te_getI, ↓te_getP, ↓te_putI, ↓te_putP, ↓te_vret, ↓evb_c, ↓evb_n, ↓evk_ap, ↓evm_cut, ↓evm_go, ↓evm_0, ↓jret_v, ↓jret_n, jget, jset, cond_true, cond_false, Nat.reduceBEq, jc1, List.take_succ_cons, List.take_zero, List.drop_succ_cons, List.drop_zero, List.reverse_cons, List.reverse_nil, List.nil_append, List.cons_append, List.length_cons, List.length_nil, Nat.zero_add, Nat.reduceAdd, beq_self_eq_true, true_and, and_true, Nat.reduceLeDiff, Nat.le_refl, Nat.zero_le, Bool.or_true, Bool.true_or, Bool.or_false, Bool.false_or, Bool.or_self]
  simp (disch := omega) only [Nat.reduceEqDiff, Prod.mk.injEq, Option.some.injEq, true_and, and_true, exists_eq_left', exists_eq_right, exists_and_left, exists_const, true_or, or_true, ne_eq, not_true_eq_false, not_false_eq_true, reduceCtorEq, false_and, and_false, if_true, if_false, forall_const, true_implies, false_implies, implies_true, qI_wI, qI_wP, qP_wI, qP_wP, qN_wI, qN_wP, and_self, nI_add, pk_mul, nI_clamp, vp_in_nI, ng_1, ng_10, nI_eq32, cs_0, cs_1, cs_2, cs_3, cs_4, cs_5, cs_6, cs_7, cs_8, cs_9, cs_10, cs_11, cs_12, cs_13, cs_14, cs_15, cs_16, cs_17, cs_18, cs_19, cs_20, cs_21, cs_22, cs_23, cs_24, cs_25, cs_26, cs_27, cs_28, cs_29, cs_30, cs_31, cs_32, cs_33, cs_34, cs_35, cs_36, cs_37, cs_38, cs_39, cs_40, cs_41, cs_42, cs_43, cs_44, cs_45, cs_46, cs_47, cs_48, cs_49, cs_50, cs_51, cs_52, cs_53, cs_54, cs_55, cs_56, cs_57, cs_58, cs_59, cs_60, cs_61, cs_62, cs_63, cs_64, cs_97, cs_100, cs_122, cs_200, cs_300, cs_448, cs_1000, al_11, al_12, al_13, al_14, al_15, al_16, al_17, al_18, al_19, al_20, al_21, al_22, al_23, al_24, al_25, al_26, al_27, al_28, al_29, al_30, al_31, al_32, al_33, al_34, al_35, al_36, al_37, al_38, al_39, al_40, al_41, al_42, al_43, al_44, al_45, al_46, al_47]
  exact hQ
theorem isBx_face {f : Nat} (h : f < 58) : bxP (nI (f / 29)) (nI (f % 29)) = some f := by
  unfold bxP
  have h1 : jn (nI (f / 29)) = f / 29 := nI_clamp (by omega)
  have h2 : jn (nI (f % 29)) = f % 29 := nI_clamp (by omega)
  rw [if_pos, h1, h2, Nat.div_add_mod]
  refine ⟨⟨nI_le (Nat.zero_le _) (by omega), ?_⟩, nI_le (Nat.zero_le _) (by omega), ?_⟩
  · show nI (f / 29) ≤ nI 1
    exact nI_le (by omega) (by omega)
  · show nI (f % 29) ≤ nI 28
    exact nI_le (by omega) (by omega)
set_option maxRecDepth 20000 in
set_option maxHeartbeats 20000000 in
theorem cc_giveBack (G : jx_G) {M0 M : jx_M} {S : jS} {p : Nat → Nat} {R R' : (Nat → Nat) → Nat} {s : Nat} {Q : jx_O → jx_M → Prop} (hM : CX M0 M S p) (hW : WC S R) (hR : ∀ w, R w = R' w + w s) (hQ : ∀ M', CX M0 M' (spHome S s) p → Q (rI (jb (nI (S 26 s) < nI 12))) M') : Mt G m_X9_giveBack [v9, oR 6 s] M Q := by
  refine Mt.of (sc_X9_giveBack G) (by decide +kernel) (jArgs.of rfl) (Nat.le_of_ble_eq_true rfl) (fun Wn hC => ?_)
  have hi1 : R (ind s) = R' (ind s) + 1 := by rw [hR, ind_self]
  have hl := hW.2.2.live (s := s) (by omega)
  have hF := hW.1.2.2.1 s
  have hn := hW.1.1.1
  have hc1 : R (fun _ => 1) = R' (fun _ => 1) + 1 := hR _
  obtain ⟨o0, o1, o2, o3, o4, o5⟩ := hM.1.2.2.2.2.2.2.1.at hl.1
  refine ev_at hC (fun pc => pc == 27 || pc == 20) 9 0 (ls := [some v9, some (oR 6 s), none]) ?_
  try simp only [↓cb_X9_giveBack_0, ↓cb_X9_giveBack_8, ↓cb_X9_giveBack_20, ↓cb_X9_giveBack_27, ↓cb_X9_giveBack_58, ↓te_aload, ↓te_astore, ↓te_bin, ↓te_callV, ↓te_const, ↓te_dup, ↓te_getI, ↓te_goto, ↓te_icmp, ↓te_ifnonnull, ↓te_iret, ↓te_null, ↓te_putI, ↓te_putZ, ↓evb_c, ↓evb_n, ↓evk_ap, ↓evm_cut, ↓evm_go, ↓evm_0, ↓jret_v, ↓jret_n, jget, jset, cond_true, cond_false, Nat.reduceBEq, jc1, List.take_succ_cons, List.take_zero, List.drop_succ_cons, List.drop_zero, List.reverse_cons, List.reverse_nil, List.nil_append, List.cons_append, List.length_cons, List.length_nil, Nat.zero_add, Nat.reduceAdd, beq_self_eq_true, true_and, and_true, Nat.reduceLeDiff, Nat.le_refl, Nat.zero_le, Bool.or_true, Bool.true_or, Bool.or_false, Bool.false_or, Bool.or_self]
  try simp (disch := omega) only [Nat.reduceEqDiff, Prod.mk.injEq, Option.some.injEq, true_and, and_true, exists_eq_left', exists_eq_right, exists_and_left, exists_const, true_or, or_true, ne_eq, not_true_eq_false, not_false_eq_true, reduceCtorEq, false_and, and_false, if_true, if_false, forall_const, true_implies, false_implies, implies_true, qI_wI, qI_wP, qP_wI, qP_wP, qN_wI, qN_wP, and_self, nI_add, pk_mul, nI_clamp, vp_in_nI, ng_1, ng_10, nI_eq32, cs_0, cs_1, cs_2, cs_3, cs_4, cs_5, cs_6, cs_7, cs_8, cs_9, cs_10, cs_11, cs_12, cs_13, cs_14, cs_15, cs_16, cs_17, cs_18, cs_19, cs_20, cs_21, cs_22, cs_23, cs_24, cs_25, cs_26, cs_27, cs_28, cs_29, cs_30, cs_31, cs_32, cs_33, cs_34, cs_35, cs_36, cs_37, cs_38, cs_39, cs_40, cs_41, cs_42, cs_43, cs_44, cs_45, cs_46, cs_47, cs_48, cs_49, cs_50, cs_51, cs_52, cs_53, cs_54, cs_55, cs_56, cs_57, cs_58, cs_59, cs_60, cs_61, cs_62, cs_63, cs_64, cs_97, cs_100, cs_122, cs_200, cs_300, cs_448, cs_1000, al_11, al_12, al_13, al_14, al_15, al_16, al_17, al_18, al_19, al_20, al_21, al_22, al_23, al_24, al_25, al_26, al_27, al_28, al_29, al_30, al_31, al_32, al_33, al_34, al_35, al_36, al_37, al_38, al_39, al_40, al_41, al_42, al_43, al_44, al_45, al_46, al_47, o1, o2]
  refine cc_pileOf G hM.1 ?_
  rw [isBx_face hF]
  try simp only [↓cb_X9_giveBack_0, ↓cb_X9_giveBack_8, ↓cb_X9_giveBack_20, ↓cb_X9_giveBack_27, ↓cb_X9_giveBack_58, ↓te_aload, ↓te_astore, ↓te_bin, ↓te_callV, ↓te_const, ↓te_dup, ↓te_getI, ↓te_goto, ↓te_icmp, ↓te_ifnonnull, ↓te_iret, ↓te_null, ↓te_putI, ↓te_putZ, ↓evb_c, ↓evb_n, ↓evk_ap, ↓evm_cut, ↓evm_go, ↓evm_0, ↓jret_v, ↓jret_n, jget, jset, cond_true, cond_false, Nat.reduceBEq, jc1, List.take_succ_cons, List.take_zero, List.drop_succ_cons, List.drop_zero, List.reverse_cons, List.reverse_nil, List.nil_append, List.cons_append, List.length_cons, List.length_nil, Nat.zero_add, Nat.reduceAdd, beq_self_eq_true, true_and, and_true, Nat.reduceLeDiff, Nat.le_refl, Nat.zero_le, Bool.or_true, Bool.true_or, Bool.or_false, Bool.false_or, Bool.or_self]
  refine ev_at hC (fun pc => pc == 27) 9 20 (ls := [some v9, some (oR 6 s), none]) ?_
  try simp only [↓cb_X9_giveBack_0, ↓cb_X9_giveBack_8, ↓cb_X9_giveBack_20, ↓cb_X9_giveBack_27, ↓cb_X9_giveBack_58, ↓te_aload, ↓te_astore, ↓te_bin, ↓te_callV, ↓te_const, ↓te_dup, ↓te_getI, ↓te_goto, ↓te_icmp, ↓te_ifnonnull, ↓te_iret, ↓te_null, ↓te_putI, ↓te_putZ, ↓evb_c, ↓evb_n, ↓evk_ap, ↓evm_cut, ↓evm_go, ↓evm_0, ↓jret_v, ↓jret_n, jget, jset, cond_true, cond_false, Nat.reduceBEq, jc1, List.take_succ_cons, List.take_zero, List.drop_succ_cons, List.drop_zero, List.reverse_cons, List.reverse_nil, List.nil_append, List.cons_append, List.length_cons, List.length_nil, Nat.zero_add, Nat.reduceAdd, beq_self_eq_true, true_and, and_true, Nat.reduceLeDiff, Nat.le_refl, Nat.zero_le, Bool.or_true, Bool.true_or, Bool.or_false, Bool.false_or, Bool.or_self]
  try simp (disch := omega) only [Nat.reduceEqDiff, Prod.mk.injEq, Option.some.injEq, true_and, and_true, exists_eq_left', exists_eq_right, exists_and_left, exists_const, true_or, or_true, ne_eq, not_true_eq_false, not_false_eq_true, reduceCtorEq, false_and, and_false, if_true, if_false, forall_const, true_implies, false_implies, implies_true, qI_wI, qI_wP, qP_wI, qP_wP, qN_wI, qN_wP, and_self, nI_add, pk_mul, nI_clamp, vp_in_nI, ng_1, ng_10, nI_eq32, cs_0, cs_1, cs_2, cs_3, cs_4, cs_5, cs_6, cs_7, cs_8, cs_9, cs_10, cs_11, cs_12, cs_13, cs_14, cs_15, cs_16, cs_17, cs_18, cs_19, cs_20, cs_21, cs_22, cs_23, cs_24, cs_25, cs_26, cs_27, cs_28, cs_29, cs_30, cs_31, cs_32, cs_33, cs_34, cs_35, cs_36, cs_37, cs_38, cs_39, cs_40, cs_41, cs_42, cs_43, cs_44, cs_45, cs_46, cs_47, cs_48, cs_49, cs_50, cs_51, cs_52, cs_53, cs_54, cs_55, cs_56, cs_57, cs_58, cs_59, cs_60, cs_61, cs_62, cs_63, cs_64, cs_97, cs_100, cs_122, cs_200, cs_300, cs_448, cs_1000, al_11, al_12, al_13, al_14, al_15, al_16, al_17, al_18, al_19, al_20, al_21, al_22, al_23, al_24, al_25, al_26, al_27, al_28, al_29, al_30, al_31, al_32, al_33, al_34, al_35, al_36, al_37, al_38, al_39, al_40, al_41, al_42, al_43, al_44, al_45, al_46, al_47]
  have hM1 : CX M0 (wI M 6 s 4 (nI 0)) (sw S 28 s 0) p := ⟨CM_sort hM.1 (Or.inr (Or.inl ⟨rfl, rfl⟩)), hM.2.wI (by omega)⟩
  have hh := spHome_eq S s
  have k27 : Wn 27 [some v9, some (oR 6 s), some (oR 4 (S 25 s))] [] M 0 0 := by
    refine ev_at hC (fun pc => pc == 58) 9 27 (ls := [some v9, some (oR 6 s), some (oR 4 (S 25 s))]) ?_
    try simp only [↓cb_X9_giveBack_0, ↓cb_X9_giveBack_8, ↓cb_X9_giveBack_20, ↓cb_X9_giveBack_27, ↓cb_X9_giveBack_58, ↓te_aload, ↓te_astore, ↓te_bin, ↓te_callV, ↓te_const, ↓te_dup, ↓te_getI, ↓te_goto, ↓te_icmp, ↓te_ifnonnull, ↓te_iret, ↓te_null, ↓te_putI, ↓te_putZ, ↓evb_c, ↓evb_n, ↓evk_ap, ↓evm_cut, ↓evm_go, ↓evm_0, ↓jret_v, ↓jret_n, jget, jset, cond_true, cond_false, Nat.reduceBEq, jc1, List.take_succ_cons, List.take_zero, List.drop_succ_cons, List.drop_zero, List.reverse_cons, List.reverse_nil, List.nil_append, List.cons_append, List.length_cons, List.length_nil, Nat.zero_add, Nat.reduceAdd, beq_self_eq_true, true_and, and_true, Nat.reduceLeDiff, Nat.le_refl, Nat.zero_le, Bool.or_true, Bool.true_or, Bool.or_false, Bool.false_or, Bool.or_self]
    try simp (disch := omega) only [Nat.reduceEqDiff, Prod.mk.injEq, Option.some.injEq, true_and, and_true, exists_eq_left', exists_eq_right, exists_and_left, exists_const, true_or, or_true, ne_eq, not_true_eq_false, not_false_eq_true, reduceCtorEq, false_and, and_false, if_true, if_false, forall_const, true_implies, false_implies, implies_true, qI_wI, qI_wP, qP_wI, qP_wP, qN_wI, qN_wP, and_self, nI_add, pk_mul, nI_clamp, vp_in_nI, ng_1, ng_10, nI_eq32, cs_0, cs_1, cs_2, cs_3, cs_4, cs_5, cs_6, cs_7, cs_8, cs_9, cs_10, cs_11, cs_12, cs_13, cs_14, cs_15, cs_16, cs_17, cs_18, cs_19, cs_20, cs_21, cs_22, cs_23, cs_24, cs_25, cs_26, cs_27, cs_28, cs_29, cs_30, cs_31, cs_32, cs_33, cs_34, cs_35, cs_36, cs_37, cs_38, cs_39, cs_40, cs_41, cs_42, cs_43, cs_44, cs_45, cs_46, cs_47, cs_48, cs_49, cs_50, cs_51, cs_52, cs_53, cs_54, cs_55, cs_56, cs_57, cs_58, cs_59, cs_60, cs_61, cs_62, cs_63, cs_64, cs_97, cs_100, cs_122, cs_200, cs_300, cs_448, cs_1000, al_11, al_12, al_13, al_14, al_15, al_16, al_17, al_18, al_19, al_20, al_21, al_22, al_23, al_24, al_25, al_26, al_27, al_28, al_29, al_30, al_31, al_32, al_33, al_34, al_35, al_36, al_37, al_38, al_39, al_40, al_41, al_42, al_43, al_44, al_45, al_46, al_47, o3]
    refine ⟨fun c => ?_, fun c => ?_⟩
    · have k58 : Wn 58 [some v9, some (oR 6 s), some (oR 4 (S 25 s))] [] (wI M 6 s 4 (nI 0)) 0 0 := by
        refine ev_at hC (fun pc => false) 9 58 (ls := [some v9, some (oR 6 s), some (oR 4 (S 25 s))]) ?_
        try simp only [↓cb_X9_giveBack_0, ↓cb_X9_giveBack_8, ↓cb_X9_giveBack_20, ↓cb_X9_giveBack_27, ↓cb_X9_giveBack_58, ↓te_aload, ↓te_astore, ↓te_bin, ↓te_callV, ↓te_const, ↓te_dup, ↓te_getI, ↓te_goto, ↓te_icmp, ↓te_ifnonnull, ↓te_iret, ↓te_null, ↓te_putI, ↓te_putZ, ↓evb_c, ↓evb_n, ↓evk_ap, ↓evm_cut, ↓evm_go, ↓evm_0, ↓jret_v, ↓jret_n, jget, jset, cond_true, cond_false, Nat.reduceBEq, jc1, List.take_succ_cons, List.take_zero, List.drop_succ_cons, List.drop_zero, List.reverse_cons, List.reverse_nil, List.nil_append, List.cons_append, List.length_cons, List.length_nil, Nat.zero_add, Nat.reduceAdd, beq_self_eq_true, true_and, and_true, Nat.reduceLeDiff, Nat.le_refl, Nat.zero_le, Bool.or_true, Bool.true_or, Bool.or_false, Bool.false_or, Bool.or_self]
        try simp (disch := omega) only [Nat.reduceEqDiff, Prod.mk.injEq, Option.some.injEq, true_and, and_true, exists_eq_left', exists_eq_right, exists_and_left, exists_const, true_or, or_true, ne_eq, not_true_eq_false, not_false_eq_true, reduceCtorEq, false_and, and_false, if_true, if_false, forall_const, true_implies, false_implies, implies_true, qI_wI, qI_wP, qP_wI, qP_wP, qN_wI, qN_wP, and_self, nI_add, pk_mul, nI_clamp, vp_in_nI, ng_1, ng_10, nI_eq32, cs_0, cs_1, cs_2, cs_3, cs_4, cs_5, cs_6, cs_7, cs_8, cs_9, cs_10, cs_11, cs_12, cs_13, cs_14, cs_15, cs_16, cs_17, cs_18, cs_19, cs_20, cs_21, cs_22, cs_23, cs_24, cs_25, cs_26, cs_27, cs_28, cs_29, cs_30, cs_31, cs_32, cs_33, cs_34, cs_35, cs_36, cs_37, cs_38, cs_39, cs_40, cs_41, cs_42, cs_43, cs_44, cs_45, cs_46, cs_47, cs_48, cs_49, cs_50, cs_51, cs_52, cs_53, cs_54, cs_55, cs_56, cs_57, cs_58, cs_59, cs_60, cs_61, cs_62, cs_63, cs_64, cs_97, cs_100, cs_122, cs_200, cs_300, cs_448, cs_1000, al_11, al_12, al_13, al_14, al_15, al_16, al_17, al_18, al_19, al_20, al_21, al_22, al_23, al_24, al_25, al_26, al_27, al_28, al_29, al_30, al_31, al_32, al_33, al_34, al_35, al_36, al_37, al_38, al_39, al_40, al_41, al_42, al_43, al_44, al_45, al_46, al_47]
        refine cc_put G ?_
        try simp only [↓cb_X9_giveBack_0, ↓cb_X9_giveBack_8, ↓cb_X9_giveBack_20, ↓cb_X9_giveBack_27, ↓cb_X9_giveBack_58, ↓te_aload, ↓te_astore, ↓te_bin, ↓te_callV, ↓te_const, ↓te_dup, ↓te_getI, ↓te_goto, ↓te_icmp, ↓te_ifnonnull, ↓te_iret, ↓te_null, ↓te_putI, ↓te_putZ, ↓evb_c, ↓evb_n, ↓evk_ap, ↓evm_cut, ↓evm_go, ↓evm_0, ↓jret_v, ↓jret_n, jget, jset, cond_true, cond_false, Nat.reduceBEq, jc1, List.take_succ_cons, List.take_zero, List.drop_succ_cons, List.drop_zero, List.reverse_cons, List.reverse_nil, List.nil_append, List.cons_append, List.length_cons, List.length_nil, Nat.zero_add, Nat.reduceAdd, beq_self_eq_true, true_and, and_true, Nat.reduceLeDiff, Nat.le_refl, Nat.zero_le, Bool.or_true, Bool.true_or, Bool.or_false, Bool.false_or, Bool.or_self]
        have hM2 : CX M0 (mPut (wI M 6 s 4 (nI 0)) (S 25 s) s) (spHome S s) p := by
          refine ⟨?_, mPut_KP hM1.2⟩
          have q : spHome S s = spPut (sw S 28 s 0) (S 25 s) s := by unfold spHome; rw [if_pos c]
          rw [q]
          have hcc := hW.2.2.cnt hF
          exact CM_put hM1.1 hF hl.1 (show S 30 (S 25 s) < 300 by omega) (fun j hj => by have := hW.2.2.cnt hj; show S 30 j ≤ 300; omega) (fun j i hj hi => hW.2.2.noPile (s := s) (by omega) hj hi) hl.2 (by rw [sw_at, if_pos ⟨rfl, rfl⟩])
        have h9 := hQ _ hM2
        rw [jb_t c] at h9
        exact h9
      exact k58
    · have hM2 : CX M0 (wI (wI (wI M 6 s 4 (nI 0)) 6 s 5 (nI 3)) 4 (S 25 s) 3 (qI (wI M 6 s 4 (nI 0)) 4 (S 25 s) 3 - nI 1)) (spHome S s) p := by
        refine ⟨?_, (hM1.2.wI (by omega)).wI (by omega)⟩
        rw [hh, if_neg c]
        exact CM_melt (S := sw S 28 s 0) hM1.1 hl.1 hF hl.2
      have h9 := hQ _ hM2
      rw [jb_f c] at h9
      exact h9
  exact k27
/-- what is so after the spaces of the line object o are back -/
theorem CM_empty {M M' : jx_M} {S : jS} {p : Nat → Nat} {l : Nat} (h : CM M S p) (hl : l < S 10 14) (hl12 : S 10 14 ≤ 12) (hx : ∀ l', l' < S 10 14 → S 38 l' ≤ 60) (hI : ∀ r i c, ¬ (r = 24 ∨ ((r = 19 ∨ r = 20) ∧ i = p l)) → qI M' r i c = qI M r i c) (hP : ∀ r i c, qP M' r i c = qP M r i c) (hN : qN M' 6 = qN M 6) (hz : CZ M' (p l)) (h24 : ∀ j, j < 5 → qI M' 24 0 j = qI M 24 0 j + qI M 20 (p l) j) : CM M' (spEmpty S l) p := by
  obtain ⟨hB, hT, hS, hF, hH, hPr, hO, hK, hA, hQ, hL, hZ⟩ := h
  have iI : ∀ r, ¬ (r = 24 ∨ r = 19 ∨ r = 20) → sI M M' r := fun r hr i c => hI r i c (by omega)
  have iP : ∀ r, sP M M' r := fun r i c => hP r i c
  have er : ∀ a b, ¬ (a = 32 ∨ a = 40) → spEmpty S l a b = S a b := fun a b hab => spEmpty_row S l hab
  refine ⟨hB.fr (fun c => iP 9 0 c) (fun c _ => iI 9 (by omega) 0 c) (iP 7) (iP 8) (iP 2) (iP 5) hN (er 10 1 (by omega)) (er 10 13 (by omega)) (er 10 14 (by omega)) (er 10 24 (by omega)), hT.fr (iI 8 (by omega)) (iI 21 (by omega)) (er 10 12 (by omega)) (fun c _ => er 33 c (by omega)), fun j hj => ?_, hF.fr (iP 14) (iI 1 (by omega)) (fun c _ => er 43 c (by omega)) (fun c _ => er 44 c (by omega)), hH.fr (iI 2 (by omega)) (iP 22) (er 10 9 (by omega)) (fun c _ => er 31 c (by omega)), hPr.fr (iI 5 (by omega)) (iI 23 (by omega)) (er 10 28 (by omega)) (fun c _ => er 45 c (by omega)), hO.fr (iP 12) (iI 6 (by omega)) (er 10 1 (by omega)) (fun a t ha _ => er a t (by omega)), hK.fr (iP 11) (iI 4 (by omega)) (iP 4) (fun k i _ _ => ⟨iP 6 _ _, iP 6 _ _⟩) (er 10 1 (by omega)) (fun c _ => er 30 c (by omega)) (fun k i _ _ => er 29 _ (by omega)) (fun t _ => er 25 t (by omega)) (fun t _ => by rw [er 27 t (by omega)]), hA.fr (fun o k _ => iP 3 o k), hQ.fr (iP 13), fun m hm => ?_, fun m hm hm2 => ?_⟩
  · rw [h24 j hj, hS j hj, (hL l hl).2.2 j hj, nI_add, spEmpty_32 S l (un j) (un_ge hj) (by have := un_lt (j := j); omega)]
  · rw [er 10 14 (by omega)] at hm
    have hm60 := hx m hm
    refine ⟨(hL m hm).1.fr (fun k => iI 3 (by omega) _ k) (iP 3 _ _) (fun k => iP 16 _ k) (fun k => iI 17 (by omega) _ k) (fun k => iI 18 (by omega) _ k) (fun k _ => iP 6 _ _) (fun a ha => er a m (by omega)) (fun k _ => ⟨er 36 _ (by omega), er 37 _ (by omega)⟩) (fun g _ => er 39 _ (by omega)), ?_⟩
    by_cases e : m = l
    · subst e
      refine ⟨fun g hg => ?_, fun j hj => ?_⟩
      · rw [hz.1 g hg, er 38 m (by omega)]
        by_cases c : g ≤ S 38 m
        · rw [if_pos c, spUnits_6, spEmpty_40z S m g 1 c (by omega) (by omega), spEmpty_40z S m g 2 c (by omega) (by omega), spEmpty_40z S m g 3 c (by omega) (by omega), spEmpty_40z S m g 4 c (by omega) (by omega), spEmpty_40z S m g 5 c (by omega) (by omega), spEmpty_40z S m g 6 c (by omega) (by omega)]
          rfl
        · rw [if_neg c]
          rfl
      · have u2 := un_lt (j := j)
        rw [hz.2 j hj, er 38 m (by omega), sumr_0 _ (fun g hg => spEmpty_40z S m g (un j) (by omega) (un_ge hj) (by omega))]
        rfl
    · have hne : ¬ p m = p l := fun q => e (hQ.2 m l (by omega) (by omega) q)
      refine (hL m hm).2.fr (fun k => hI 19 _ k (by omega)) (fun k => hI 20 _ k (by omega)) (er 38 m (by omega)) (fun g u hg hu => spEmpty_40n S l _ ?_)
      have h60 := hx l hl
      rcases Nat.lt_trichotomy m l with q | q | q <;> omega
  · rw [er 10 14 (by omega)] at hm
    have hne : ¬ p m = p l := fun q => by have := hQ.2 m l hm2 (by omega) q; omega
    exact (hZ m hm hm2).fr (fun k => hI 19 _ k (by omega)) (fun k => hI 20 _ k (by omega))
set_option maxRecDepth 20000 in
set_option maxHeartbeats 20000000 in
theorem cc_dropSpaces (G : jx_G) {M : jx_M} {Q : jx_O → jx_M → Prop} {o : Nat} (hA : CA M) (ho : o < 12) (hQ : ∀ M', (∀ r i c, qI M' r i c = if r = 19 ∧ i = o ∧ c < 61 then 0 else if r = 20 ∧ i = o ∧ c < 5 then 0 else qI M r i c) → (∀ r i c, qP M' r i c = qP M r i c) → (∀ k, qJ M' k = qJ M k) → (∀ r, qN M' r = qN M r) → Q (.inl none) M') : Mt G m_X3_dropSpaces [oR 3 o] M Q := by
  refine Mt.of (sc_X3_dropSpaces G) (by decide +kernel) (jArgs.of rfl) (Nat.le_of_ble_eq_true rfl) (fun Wn hC => ?_)
  have a := (hA o ho).2.2.2.1
  have a4 := (hA o ho).2.2.2.2
  have k26 : ∀ (d j : Nat) (M1 : jx_M), j + d = 5 → (∀ r i c, qI M1 r i c = if r = 19 ∧ i = o ∧ c < 61 then 0 else if r = 20 ∧ i = o ∧ c < j then 0 else qI M r i c) → (∀ r i c, qP M1 r i c = qP M r i c) → (∀ k, qJ M1 k = qJ M k) → (∀ r, qN M1 r = qN M r) → Wn 26 [some (oR 3 o), some (vI j)] [] M1 0 0 := by
    intro d
    induction d with
    | zero =>
      intro j M1 g1 h1 h2 h3 h4
      have g2 : j = 5 := by omega
      subst g2
      have b4 : qP M1 3 o 4 = some o := by rw [h2]; exact a4
      have h9 := hQ M1 h1 h2 h3 h4
      have k48 : Wn 48 [some (oR 3 o), some (vI 5)] [] M1 0 0 := by
        refine ev_at hC (fun pc => false) 9 48 (ls := [some (oR 3 o), some (vI 5)]) ?_
        try simp only [↓cb_X3_dropSpaces_0, ↓cb_X3_dropSpaces_2, ↓cb_X3_dropSpaces_24, ↓cb_X3_dropSpaces_26, ↓cb_X3_dropSpaces_48, ↓te_alen, ↓te_aload, ↓te_ast, ↓te_const, ↓te_getP, ↓te_goto, ↓te_icmp, ↓te_iinc, ↓te_iload, ↓te_istore, ↓te_vret, ↓evb_c, ↓evb_n, ↓evk_ap, ↓evm_cut, ↓evm_go, ↓evm_0, ↓jret_v, ↓jret_n, jget, jset, cond_true, cond_false, Nat.reduceBEq, jc1, List.take_succ_cons, List.take_zero, List.drop_succ_cons, List.drop_zero, List.reverse_cons, List.reverse_nil, List.nil_append, List.cons_append, List.length_cons, List.length_nil, Nat.zero_add, Nat.reduceAdd, beq_self_eq_true, true_and, and_true, Nat.reduceLeDiff, Nat.le_refl, Nat.zero_le, Bool.or_true, Bool.true_or, Bool.or_false, Bool.false_or, Bool.or_self]
        exact h9
      refine ev_at hC (fun pc => pc == 26 || pc == 48) 9 26 (ls := [some (oR 3 o), some (vI 5)]) ?_
      try simp only [↓cb_X3_dropSpaces_0, ↓cb_X3_dropSpaces_2, ↓cb_X3_dropSpaces_24, ↓cb_X3_dropSpaces_26, ↓cb_X3_dropSpaces_48, ↓te_alen, ↓te_aload, ↓te_ast, ↓te_const, ↓te_getP, ↓te_goto, ↓te_icmp, ↓te_iinc, ↓te_iload, ↓te_istore, ↓te_vret, ↓evb_c, ↓evb_n, ↓evk_ap, ↓evm_cut, ↓evm_go, ↓evm_0, ↓jret_v, ↓jret_n, jget, jset, cond_true, cond_false, Nat.reduceBEq, jc1, List.take_succ_cons, List.take_zero, List.drop_succ_cons, List.drop_zero, List.reverse_cons, List.reverse_nil, List.nil_append, List.cons_append, List.length_cons, List.length_nil, Nat.zero_add, Nat.reduceAdd, beq_self_eq_true, true_and, and_true, Nat.reduceLeDiff, Nat.le_refl, Nat.zero_le, Bool.or_true, Bool.true_or, Bool.or_false, Bool.false_or, Bool.or_self]
      try simp (disch := omega) only [Nat.reduceEqDiff, Prod.mk.injEq, Option.some.injEq, true_and, and_true, exists_eq_left', exists_eq_right, exists_and_left, exists_const, true_or, or_true, ne_eq, not_true_eq_false, not_false_eq_true, reduceCtorEq, false_and, and_false, if_true, if_false, forall_const, true_implies, false_implies, implies_true, qI_wI, qI_wP, qP_wI, qP_wP, qN_wI, qN_wP, and_self, nI_add, pk_mul, nI_clamp, vp_in_nI, ng_1, ng_10, nI_eq32, cs_0, cs_1, cs_2, cs_3, cs_4, cs_5, cs_6, cs_7, cs_8, cs_9, cs_10, cs_11, cs_12, cs_13, cs_14, cs_15, cs_16, cs_17, cs_18, cs_19, cs_20, cs_21, cs_22, cs_23, cs_24, cs_25, cs_26, cs_27, cs_28, cs_29, cs_30, cs_31, cs_32, cs_33, cs_34, cs_35, cs_36, cs_37, cs_38, cs_39, cs_40, cs_41, cs_42, cs_43, cs_44, cs_45, cs_46, cs_47, cs_48, cs_49, cs_50, cs_51, cs_52, cs_53, cs_54, cs_55, cs_56, cs_57, cs_58, cs_59, cs_60, cs_61, cs_62, cs_63, cs_64, cs_97, cs_100, cs_122, cs_200, cs_300, cs_448, cs_1000, al_11, al_12, al_13, al_14, al_15, al_16, al_17, al_18, al_19, al_20, al_21, al_22, al_23, al_24, al_25, al_26, al_27, al_28, al_29, al_30, al_31, al_32, al_33, al_34, al_35, al_36, al_37, al_38, al_39, al_40, al_41, al_42, al_43, al_44, al_45, al_46, al_47, b4, nI_leI, Nat.reduceLeDiff]
      first
        | exact k48
        | exact ⟨fun _ => k48, fun z => absurd (Nat.le_refl 5) z⟩
    | succ d ih =>
      intro j M1 g1 h1 h2 h3 h4
      have b4 : qP M1 3 o 4 = some o := by rw [h2]; exact a4
      refine ev_at hC (fun pc => pc == 26 || pc == 48) 9 26 (ls := [some (oR 3 o), some (vI j)]) ?_
      try simp only [↓cb_X3_dropSpaces_0, ↓cb_X3_dropSpaces_2, ↓cb_X3_dropSpaces_24, ↓cb_X3_dropSpaces_26, ↓cb_X3_dropSpaces_48, ↓te_alen, ↓te_aload, ↓te_ast, ↓te_const, ↓te_getP, ↓te_goto, ↓te_icmp, ↓te_iinc, ↓te_iload, ↓te_istore, ↓te_vret, ↓evb_c, ↓evb_n, ↓evk_ap, ↓evm_cut, ↓evm_go, ↓evm_0, ↓jret_v, ↓jret_n, jget, jset, cond_true, cond_false, Nat.reduceBEq, jc1, List.take_succ_cons, List.take_zero, List.drop_succ_cons, List.drop_zero, List.reverse_cons, List.reverse_nil, List.nil_append, List.cons_append, List.length_cons, List.length_nil, Nat.zero_add, Nat.reduceAdd, beq_self_eq_true, true_and, and_true, Nat.reduceLeDiff, Nat.le_refl, Nat.zero_le, Bool.or_true, Bool.true_or, Bool.or_false, Bool.false_or, Bool.or_self]
      try simp (disch := omega) only [Nat.reduceEqDiff, Prod.mk.injEq, Option.some.injEq, true_and, and_true, exists_eq_left', exists_eq_right, exists_and_left, exists_const, true_or, or_true, ne_eq, not_true_eq_false, not_false_eq_true, reduceCtorEq, false_and, and_false, if_true, if_false, forall_const, true_implies, false_implies, implies_true, qI_wI, qI_wP, qP_wI, qP_wP, qN_wI, qN_wP, and_self, nI_add, pk_mul, nI_clamp, vp_in_nI, ng_1, ng_10, nI_eq32, cs_0, cs_1, cs_2, cs_3, cs_4, cs_5, cs_6, cs_7, cs_8, cs_9, cs_10, cs_11, cs_12, cs_13, cs_14, cs_15, cs_16, cs_17, cs_18, cs_19, cs_20, cs_21, cs_22, cs_23, cs_24, cs_25, cs_26, cs_27, cs_28, cs_29, cs_30, cs_31, cs_32, cs_33, cs_34, cs_35, cs_36, cs_37, cs_38, cs_39, cs_40, cs_41, cs_42, cs_43, cs_44, cs_45, cs_46, cs_47, cs_48, cs_49, cs_50, cs_51, cs_52, cs_53, cs_54, cs_55, cs_56, cs_57, cs_58, cs_59, cs_60, cs_61, cs_62, cs_63, cs_64, cs_97, cs_100, cs_122, cs_200, cs_300, cs_448, cs_1000, al_11, al_12, al_13, al_14, al_15, al_16, al_17, al_18, al_19, al_20, al_21, al_22, al_23, al_24, al_25, al_26, al_27, al_28, al_29, al_30, al_31, al_32, al_33, al_34, al_35, al_36, al_37, al_38, al_39, al_40, al_41, al_42, al_43, al_44, al_45, al_46, al_47, b4, nI_leI]
      refine ⟨fun z => absurd z (by omega), fun _ => ih (j + 1) _ (by omega) (fun r i c => ?_) h2 h3 h4⟩
      rw [qI_wI, h1]
      by_cases e : r = 20 ∧ i = o ∧ c = j
      · rw [if_pos e, if_neg (by omega), if_pos (by omega)]
        rfl
      · rw [if_neg e]
        by_cases e2 : r = 19 ∧ i = o ∧ c < 61
        · rw [if_pos e2, if_pos e2]
        · rw [if_neg e2, if_neg e2]
          by_cases e3 : r = 20 ∧ i = o ∧ c < j
          · rw [if_pos e3, if_pos (by omega)]
          · rw [if_neg e3, if_neg (by omega)]
  have k2 : ∀ (d g : Nat) (M1 : jx_M), g + d = 61 → (∀ r i c, qI M1 r i c = if r = 19 ∧ i = o ∧ c < g then 0 else qI M r i c) → (∀ r i c, qP M1 r i c = qP M r i c) → (∀ k, qJ M1 k = qJ M k) → (∀ r, qN M1 r = qN M r) → Wn 2 [some (oR 3 o), some (vI g)] [] M1 0 0 := by
    intro d
    induction d with
    | zero =>
      intro g M1 g1 h1 h2 h3 h4
      have g2 : g = 61 := by omega
      subst g2
      have b3 : qP M1 3 o 3 = some o := by rw [h2]; exact a
      have h9 := k26 5 0 M1 rfl (fun r i c => by
        rw [h1]
        by_cases e : r = 19 ∧ i = o ∧ c < 61
        · rw [if_pos e, if_pos e]
        · rw [if_neg e, if_neg e, if_neg (by omega)]) h2 h3 h4
      have k24 : Wn 24 [some (oR 3 o), some (vI 61)] [] M1 0 0 := by
        refine ev_at hC (fun pc => pc == 26) 9 24 (ls := [some (oR 3 o), some (vI 61)]) ?_
        try simp only [↓cb_X3_dropSpaces_0, ↓cb_X3_dropSpaces_2, ↓cb_X3_dropSpaces_24, ↓cb_X3_dropSpaces_26, ↓cb_X3_dropSpaces_48, ↓te_alen, ↓te_aload, ↓te_ast, ↓te_const, ↓te_getP, ↓te_goto, ↓te_icmp, ↓te_iinc, ↓te_iload, ↓te_istore, ↓te_vret, ↓evb_c, ↓evb_n, ↓evk_ap, ↓evm_cut, ↓evm_go, ↓evm_0, ↓jret_v, ↓jret_n, jget, jset, cond_true, cond_false, Nat.reduceBEq, jc1, List.take_succ_cons, List.take_zero, List.drop_succ_cons, List.drop_zero, List.reverse_cons, List.reverse_nil, List.nil_append, List.cons_append, List.length_cons, List.length_nil, Nat.zero_add, Nat.reduceAdd, beq_self_eq_true, true_and, and_true, Nat.reduceLeDiff, Nat.le_refl, Nat.zero_le, Bool.or_true, Bool.true_or, Bool.or_false, Bool.false_or, Bool.or_self]
        try simp (disch := omega) only [Nat.reduceEqDiff, Prod.mk.injEq, Option.some.injEq, true_and, and_true, exists_eq_left', exists_eq_right, exists_and_left, exists_const, true_or, or_true, ne_eq, not_true_eq_false, not_false_eq_true, reduceCtorEq, false_and, and_false, if_true, if_false, forall_const, true_implies, false_implies, implies_true, qI_wI, qI_wP, qP_wI, qP_wP, qN_wI, qN_wP, and_self, nI_add, pk_mul, nI_clamp, vp_in_nI, ng_1, ng_10, nI_eq32, cs_0, cs_1, cs_2, cs_3, cs_4, cs_5, cs_6, cs_7, cs_8, cs_9, cs_10, cs_11, cs_12, cs_13, cs_14, cs_15, cs_16, cs_17, cs_18, cs_19, cs_20, cs_21, cs_22, cs_23, cs_24, cs_25, cs_26, cs_27, cs_28, cs_29, cs_30, cs_31, cs_32, cs_33, cs_34, cs_35, cs_36, cs_37, cs_38, cs_39, cs_40, cs_41, cs_42, cs_43, cs_44, cs_45, cs_46, cs_47, cs_48, cs_49, cs_50, cs_51, cs_52, cs_53, cs_54, cs_55, cs_56, cs_57, cs_58, cs_59, cs_60, cs_61, cs_62, cs_63, cs_64, cs_97, cs_100, cs_122, cs_200, cs_300, cs_448, cs_1000, al_11, al_12, al_13, al_14, al_15, al_16, al_17, al_18, al_19, al_20, al_21, al_22, al_23, al_24, al_25, al_26, al_27, al_28, al_29, al_30, al_31, al_32, al_33, al_34, al_35, al_36, al_37, al_38, al_39, al_40, al_41, al_42, al_43, al_44, al_45, al_46, al_47]
        exact h9
      refine ev_at hC (fun pc => pc == 2 || pc == 24) 9 2 (ls := [some (oR 3 o), some (vI 61)]) ?_
      try simp only [↓cb_X3_dropSpaces_0, ↓cb_X3_dropSpaces_2, ↓cb_X3_dropSpaces_24, ↓cb_X3_dropSpaces_26, ↓cb_X3_dropSpaces_48, ↓te_alen, ↓te_aload, ↓te_ast, ↓te_const, ↓te_getP, ↓te_goto, ↓te_icmp, ↓te_iinc, ↓te_iload, ↓te_istore, ↓te_vret, ↓evb_c, ↓evb_n, ↓evk_ap, ↓evm_cut, ↓evm_go, ↓evm_0, ↓jret_v, ↓jret_n, jget, jset, cond_true, cond_false, Nat.reduceBEq, jc1, List.take_succ_cons, List.take_zero, List.drop_succ_cons, List.drop_zero, List.reverse_cons, List.reverse_nil, List.nil_append, List.cons_append, List.length_cons, List.length_nil, Nat.zero_add, Nat.reduceAdd, beq_self_eq_true, true_and, and_true, Nat.reduceLeDiff, Nat.le_refl, Nat.zero_le, Bool.or_true, Bool.true_or, Bool.or_false, Bool.false_or, Bool.or_self]
      try simp (disch := omega) only [Nat.reduceEqDiff, Prod.mk.injEq, Option.some.injEq, true_and, and_true, exists_eq_left', exists_eq_right, exists_and_left, exists_const, true_or, or_true, ne_eq, not_true_eq_false, not_false_eq_true, reduceCtorEq, false_and, and_false, if_true, if_false, forall_const, true_implies, false_implies, implies_true, qI_wI, qI_wP, qP_wI, qP_wP, qN_wI, qN_wP, and_self, nI_add, pk_mul, nI_clamp, vp_in_nI, ng_1, ng_10, nI_eq32, cs_0, cs_1, cs_2, cs_3, cs_4, cs_5, cs_6, cs_7, cs_8, cs_9, cs_10, cs_11, cs_12, cs_13, cs_14, cs_15, cs_16, cs_17, cs_18, cs_19, cs_20, cs_21, cs_22, cs_23, cs_24, cs_25, cs_26, cs_27, cs_28, cs_29, cs_30, cs_31, cs_32, cs_33, cs_34, cs_35, cs_36, cs_37, cs_38, cs_39, cs_40, cs_41, cs_42, cs_43, cs_44, cs_45, cs_46, cs_47, cs_48, cs_49, cs_50, cs_51, cs_52, cs_53, cs_54, cs_55, cs_56, cs_57, cs_58, cs_59, cs_60, cs_61, cs_62, cs_63, cs_64, cs_97, cs_100, cs_122, cs_200, cs_300, cs_448, cs_1000, al_11, al_12, al_13, al_14, al_15, al_16, al_17, al_18, al_19, al_20, al_21, al_22, al_23, al_24, al_25, al_26, al_27, al_28, al_29, al_30, al_31, al_32, al_33, al_34, al_35, al_36, al_37, al_38, al_39, al_40, al_41, al_42, al_43, al_44, al_45, al_46, al_47, b3, nI_leI, Nat.reduceLeDiff]
      first
        | exact k24
        | exact ⟨fun _ => k24, fun z => absurd (Nat.le_refl 61) z⟩
    | succ d ih =>
      intro g M1 g1 h1 h2 h3 h4
      have b3 : qP M1 3 o 3 = some o := by rw [h2]; exact a
      refine ev_at hC (fun pc => pc == 2 || pc == 24) 9 2 (ls := [some (oR 3 o), some (vI g)]) ?_
      try simp only [↓cb_X3_dropSpaces_0, ↓cb_X3_dropSpaces_2, ↓cb_X3_dropSpaces_24, ↓cb_X3_dropSpaces_26, ↓cb_X3_dropSpaces_48, ↓te_alen, ↓te_aload, ↓te_ast, ↓te_const, ↓te_getP, ↓te_goto, ↓te_icmp, ↓te_iinc, ↓te_iload, ↓te_istore, ↓te_vret, ↓evb_c, ↓evb_n, ↓evk_ap, ↓evm_cut, ↓evm_go, ↓evm_0, ↓jret_v, ↓jret_n, jget, jset, cond_true, cond_false, Nat.reduceBEq, jc1, List.take_succ_cons, List.take_zero, List.drop_succ_cons, List.drop_zero, List.reverse_cons, List.reverse_nil, List.nil_append, List.cons_append, List.length_cons, List.length_nil, Nat.zero_add, Nat.reduceAdd, beq_self_eq_true, true_and, and_true, Nat.reduceLeDiff, Nat.le_refl, Nat.zero_le, Bool.or_true, Bool.true_or, Bool.or_false, Bool.false_or, Bool.or_self]
      try simp (disch := omega) only [Nat.reduceEqDiff, Prod.mk.injEq, Option.some.injEq, true_and, and_true, exists_eq_left', exists_eq_right, exists_and_left, exists_const, true_or, or_true, ne_eq, not_true_eq_false, not_false_eq_true, reduceCtorEq, false_and, and_false, if_true, if_false, forall_const, true_implies, false_implies, implies_true, qI_wI, qI_wP, qP_wI, qP_wP, qN_wI, qN_wP, and_self, nI_add, pk_mul, nI_clamp, vp_in_nI, ng_1, ng_10, nI_eq32, cs_0, cs_1, cs_2, cs_3, cs_4, cs_5, cs_6, cs_7, cs_8, cs_9, cs_10, cs_11, cs_12, cs_13, cs_14, cs_15, cs_16, cs_17, cs_18, cs_19, cs_20, cs_21, cs_22, cs_23, cs_24, cs_25, cs_26, cs_27, cs_28, cs_29, cs_30, cs_31, cs_32, cs_33, cs_34, cs_35, cs_36, cs_37, cs_38, cs_39, cs_40, cs_41, cs_42, cs_43, cs_44, cs_45, cs_46, cs_47, cs_48, cs_49, cs_50, cs_51, cs_52, cs_53, cs_54, cs_55, cs_56, cs_57, cs_58, cs_59, cs_60, cs_61, cs_62, cs_63, cs_64, cs_97, cs_100, cs_122, cs_200, cs_300, cs_448, cs_1000, al_11, al_12, al_13, al_14, al_15, al_16, al_17, al_18, al_19, al_20, al_21, al_22, al_23, al_24, al_25, al_26, al_27, al_28, al_29, al_30, al_31, al_32, al_33, al_34, al_35, al_36, al_37, al_38, al_39, al_40, al_41, al_42, al_43, al_44, al_45, al_46, al_47, b3, nI_leI]
      refine ⟨fun z => absurd z (by omega), fun _ => ih (g + 1) _ (by omega) (fun r i c => ?_) h2 h3 h4⟩
      rw [qI_wI, h1]
      by_cases e : r = 19 ∧ i = o ∧ c = g
      · rw [if_pos e, if_pos (by omega)]
        rfl
      · rw [if_neg e]
        by_cases e2 : r = 19 ∧ i = o ∧ c < g
        · rw [if_pos e2, if_pos (by omega)]
        · rw [if_neg e2, if_neg (by omega)]
  refine ev_at hC (fun pc => pc == 2) 9 0 (ls := [some (oR 3 o), none]) ?_
  try simp only [↓cb_X3_dropSpaces_0, ↓cb_X3_dropSpaces_2, ↓cb_X3_dropSpaces_24, ↓cb_X3_dropSpaces_26, ↓cb_X3_dropSpaces_48, ↓te_alen, ↓te_aload, ↓te_ast, ↓te_const, ↓te_getP, ↓te_goto, ↓te_icmp, ↓te_iinc, ↓te_iload, ↓te_istore, ↓te_vret, ↓evb_c, ↓evb_n, ↓evk_ap, ↓evm_cut, ↓evm_go, ↓evm_0, ↓jret_v, ↓jret_n, jget, jset, cond_true, cond_false, Nat.reduceBEq, jc1, List.take_succ_cons, List.take_zero, List.drop_succ_cons, List.drop_zero, List.reverse_cons, List.reverse_nil, List.nil_append, List.cons_append, List.length_cons, List.length_nil, Nat.zero_add, Nat.reduceAdd, beq_self_eq_true, true_and, and_true, Nat.reduceLeDiff, Nat.le_refl, Nat.zero_le, Bool.or_true, Bool.true_or, Bool.or_false, Bool.false_or, Bool.or_self]
  try simp (disch := omega) only [Nat.reduceEqDiff, Prod.mk.injEq, Option.some.injEq, true_and, and_true, exists_eq_left', exists_eq_right, exists_and_left, exists_const, true_or, or_true, ne_eq, not_true_eq_false, not_false_eq_true, reduceCtorEq, false_and, and_false, if_true, if_false, forall_const, true_implies, false_implies, implies_true, qI_wI, qI_wP, qP_wI, qP_wP, qN_wI, qN_wP, and_self, nI_add, pk_mul, nI_clamp, vp_in_nI, ng_1, ng_10, nI_eq32, cs_0, cs_1, cs_2, cs_3, cs_4, cs_5, cs_6, cs_7, cs_8, cs_9, cs_10, cs_11, cs_12, cs_13, cs_14, cs_15, cs_16, cs_17, cs_18, cs_19, cs_20, cs_21, cs_22, cs_23, cs_24, cs_25, cs_26, cs_27, cs_28, cs_29, cs_30, cs_31, cs_32, cs_33, cs_34, cs_35, cs_36, cs_37, cs_38, cs_39, cs_40, cs_41, cs_42, cs_43, cs_44, cs_45, cs_46, cs_47, cs_48, cs_49, cs_50, cs_51, cs_52, cs_53, cs_54, cs_55, cs_56, cs_57, cs_58, cs_59, cs_60, cs_61, cs_62, cs_63, cs_64, cs_97, cs_100, cs_122, cs_200, cs_300, cs_448, cs_1000, al_11, al_12, al_13, al_14, al_15, al_16, al_17, al_18, al_19, al_20, al_21, al_22, al_23, al_24, al_25, al_26, al_27, al_28, al_29, al_30, al_31, al_32, al_33, al_34, al_35, al_36, al_37, al_38, al_39, al_40, al_41, al_42, al_43, al_44, al_45, al_46, al_47]
  exact k2 61 0 M rfl (fun r i c => by rw [if_neg (by omega)]) (fun _ _ _ => rfl) (fun _ => rfl) (fun _ => rfl)

