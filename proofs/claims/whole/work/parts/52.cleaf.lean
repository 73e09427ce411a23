/-! THE CLASS: its leaves -/
abbrev oR (r i : Nat) : jx_V := .inr (.inr (r, some i))
abbrev v9 : jx_V := .inr (.inr (9, some 0))
abbrev rP (r : Nat) (o : Option Nat) : jx_O := .inl (some (.inr (.inr (r, o))))
theorem i_le1 {x : Int32} : ¬ nI 2 ≤ x ↔ x ≤ nI 1 := by
  rw [Int32.le_iff_toInt_le, Int32.le_iff_toInt_le]
  have h1 : (nI 2).toInt = 2 := by decide +kernel
  have h2 : (nI 1).toInt = 1 := by decide +kernel
  omega
theorem i_le28 {x : Int32} : ¬ nI 29 ≤ x ↔ x ≤ nI 28 := by
  rw [Int32.le_iff_toInt_le, Int32.le_iff_toInt_le]
  have h1 : (nI 29).toInt = 29 := by decide +kernel
  have h2 : (nI 28).toInt = 28 := by decide +kernel
  omega
theorem out_lt {x : Int32} {n : Nat} (hn : n < 2 ^ 31) (h : ¬ inR x 0 (nI n - nI 1)) : x < nI 0 ∨ nI n ≤ x := by
  by_cases h1 : x < nI 0
  · exact Or.inl h1
  · right
    have h2 : (0 : Int32) ≤ x := Int32.not_lt.mp h1
    by_cases h0 : n = 0
    · subst h0; exact h2
    · rw [pk_sub (by omega)] at h
      have h3 : ¬ x ≤ nI (n - 1) := fun q => h ⟨h2, q⟩
      rw [Int32.le_iff_toInt_le, nI_toInt (by omega)] at h3 ⊢
      omega
set_option maxRecDepth 20000 in
set_option maxHeartbeats 20000000 in
theorem cc_isCase (G : jx_G) {M : jx_M} {Q : jx_O → jx_M → Prop} {x : Int32} (hQ : Q (rI (jb (inR x 0 1))) M) : Mt G m_X9_isCase [.inl x] M Q := by
  refine Mt.of (sc_X9_isCase G) (by decide +kernel) (jArgs.of rfl) (Nat.le_of_ble_eq_true rfl) (fun Wn hC => ?_)
  refine ev_at hC (fun pc => false) 9 0 (ls := [some (.inl x)]) ?_
  simp only [↓cb_X9_isCase_0, ↓cb_X9_isCase_13, ↓cb_X9_isCase_14, ↓te_const, ↓te_goto, ↓te_icmp, ↓te_if, ↓te_iload, ↓te_zret, ↓evb_c, ↓evb_n, ↓evk_ap, ↓evm_ap, ↓evm_0, ↓jret_v, ↓jret_n, jget, jset, cond_true, cond_false, Nat.reduceBEq, jc1, List.take_succ_cons, List.take_zero, List.drop_succ_cons, List.drop_zero, List.reverse_cons, List.reverse_nil, List.nil_append, List.cons_append, List.length_cons, List.length_nil, Nat.zero_add, Nat.reduceAdd, beq_self_eq_true, true_and, and_true, Nat.reduceLeDiff, Nat.le_refl, Nat.zero_le, Bool.or_true, Bool.true_or, Bool.or_false, Bool.false_or, Bool.or_self]
  simp (disch := omega) only [Nat.reduceEqDiff, Prod.mk.injEq, Option.some.injEq, true_and, and_true, exists_eq_left', exists_eq_right, exists_and_left, exists_const, true_or, or_true, ne_eq, not_true_eq_false, not_false_eq_true, reduceCtorEq, false_and, and_false, if_true, if_false, forall_const, true_implies, false_implies, implies_true, qI_wI, qI_wP, qP_wI, qP_wP, qN_wI, qN_wP, and_self, nI_add, pk_mul, nI_clamp, vp_in_nI, ng_1, ng_10, nI_eq32, cs_0, cs_1, cs_2, cs_3, cs_4, cs_5, cs_6, cs_7, cs_8, cs_9, cs_10, cs_11, cs_12, cs_13, cs_14, cs_15, cs_16, cs_17, cs_18, cs_19, cs_20, cs_21, cs_22, cs_23, cs_24, cs_25, cs_26, cs_27, cs_28, cs_29, cs_30, cs_31, cs_32, cs_33, cs_34, cs_35, cs_36, cs_37, cs_38, cs_39, cs_40, cs_41, cs_42, cs_43, cs_44, cs_45, cs_46, cs_47, cs_48, cs_49, cs_50, cs_51, cs_52, cs_53, cs_54, cs_55, cs_56, cs_57, cs_58, cs_59, cs_60, cs_61, cs_62, cs_63, cs_64, cs_97, cs_100, cs_122, cs_200, cs_300, cs_448, cs_1000, al_11, al_12, al_13, al_14, al_15, al_16, al_17, al_18, al_19, al_20, al_21, al_22, al_23, al_24, al_25, al_26, al_27, al_28, al_29, al_30, al_31, al_32, al_33, al_34, al_35, al_36, al_37, al_38, al_39, al_40, al_41, al_42, al_43, al_44, al_45, al_46, al_47]
  refine ⟨fun h => rbF hQ (fun q => absurd q.1 (Int32.not_le.mpr h)), fun h => ⟨fun h2 => rbF hQ (fun q => i_le1.mpr q.2 h2), fun h2 => rbT hQ ⟨Int32.not_lt.mp h, i_le1.mp h2⟩⟩⟩
set_option maxRecDepth 20000 in
set_option maxHeartbeats 20000000 in
theorem cc_isBox (G : jx_G) {M : jx_M} {Q : jx_O → jx_M → Prop} {x : Int32} (hQ : Q (rI (jb (inR x 0 28))) M) : Mt G m_X9_isBox [.inl x] M Q := by
  refine Mt.of (sc_X9_isBox G) (by decide +kernel) (jArgs.of rfl) (Nat.le_of_ble_eq_true rfl) (fun Wn hC => ?_)
  refine ev_at hC (fun pc => false) 9 0 (ls := [some (.inl x)]) ?_
  simp only [↓cb_X9_isBox_0, ↓cb_X9_isBox_14, ↓cb_X9_isBox_15, ↓te_const, ↓te_goto, ↓te_icmp, ↓te_if, ↓te_iload, ↓te_zret, ↓evb_c, ↓evb_n, ↓evk_ap, ↓evm_ap, ↓evm_0, ↓jret_v, ↓jret_n, jget, jset, cond_true, cond_false, Nat.reduceBEq, jc1, List.take_succ_cons, List.take_zero, List.drop_succ_cons, List.drop_zero, List.reverse_cons, List.reverse_nil, List.nil_append, List.cons_append, List.length_cons, List.length_nil, Nat.zero_add, Nat.reduceAdd, beq_self_eq_true, true_and, and_true, Nat.reduceLeDiff, Nat.le_refl, Nat.zero_le, Bool.or_true, Bool.true_or, Bool.or_false, Bool.false_or, Bool.or_self]
  simp (disch := omega) only [Nat.reduceEqDiff, Prod.mk.injEq, Option.some.injEq, true_and, and_true, exists_eq_left', exists_eq_right, exists_and_left, exists_const, true_or, or_true, ne_eq, not_true_eq_false, not_false_eq_true, reduceCtorEq, false_and, and_false, if_true, if_false, forall_const, true_implies, false_implies, implies_true, qI_wI, qI_wP, qP_wI, qP_wP, qN_wI, qN_wP, and_self, nI_add, pk_mul, nI_clamp, vp_in_nI, ng_1, ng_10, nI_eq32, cs_0, cs_1, cs_2, cs_3, cs_4, cs_5, cs_6, cs_7, cs_8, cs_9, cs_10, cs_11, cs_12, cs_13, cs_14, cs_15, cs_16, cs_17, cs_18, cs_19, cs_20, cs_21, cs_22, cs_23, cs_24, cs_25, cs_26, cs_27, cs_28, cs_29, cs_30, cs_31, cs_32, cs_33, cs_34, cs_35, cs_36, cs_37, cs_38, cs_39, cs_40, cs_41, cs_42, cs_43, cs_44, cs_45, cs_46, cs_47, cs_48, cs_49, cs_50, cs_51, cs_52, cs_53, cs_54, cs_55, cs_56, cs_57, cs_58, cs_59, cs_60, cs_61, cs_62, cs_63, cs_64, cs_97, cs_100, cs_122, cs_200, cs_300, cs_448, cs_1000, al_11, al_12, al_13, al_14, al_15, al_16, al_17, al_18, al_19, al_20, al_21, al_22, al_23, al_24, al_25, al_26, al_27, al_28, al_29, al_30, al_31, al_32, al_33, al_34, al_35, al_36, al_37, al_38, al_39, al_40, al_41, al_42, al_43, al_44, al_45, al_46, al_47]
  refine ⟨fun h => rbF hQ (fun q => absurd q.1 (Int32.not_le.mpr h)), fun h => ⟨fun h2 => rbF hQ (fun q => i_le28.mpr q.2 h2), fun h2 => rbT hQ ⟨Int32.not_lt.mp h, i_le28.mp h2⟩⟩⟩
def bxP (x y : Int32) : Option Nat := if isBx x y then some (29 * jn x + jn y) else none
set_option maxRecDepth 20000 in
set_option maxHeartbeats 20000000 in
theorem cc_pileOf (G : jx_G) {M : jx_M} {S : jS} {p : Nat → Nat} {Q : jx_O → jx_M → Prop} {x y : Int32} (hM : CM M S p) (hQ : Q (rP 4 (bxP x y)) M) : Mt G m_X9_pileOf [v9, .inl x, .inl y] M Q := by
  refine Mt.of (sc_X9_pileOf G) (by decide +kernel) (jArgs.of rfl) (Nat.le_of_ble_eq_true rfl) (fun Wn hC => ?_)
  have hk : ∀ k, k < 58 → qP M 11 0 k = some k := fun k hk => (hM.2.2.2.2.2.2.2.1 k hk).1.1
  have h0 := hM.1.1.1
  unfold bxP at hQ
  refine ev_at hC (fun pc => pc == 14 || pc == 16) 9 0 (ls := [some (v9), some (.inl x), some (.inl y), none]) ?_
  simp only [↓cb_X9_pileOf_0, ↓cb_X9_pileOf_14, ↓cb_X9_pileOf_16, ↓cb_X9_pileOf_41, ↓cb_X9_pileOf_42, ↓te_aldP, ↓te_alen, ↓te_aload, ↓te_aret, ↓te_bin, ↓te_call, ↓te_const, ↓te_getP, ↓te_goto, ↓te_icmp, ↓te_if, ↓te_iload, ↓te_istore, ↓te_null, ↓evb_c, ↓evb_n, ↓evk_ap, ↓evm_ap, ↓evm_0, ↓jret_v, ↓jret_n, jget, jset, cond_true, cond_false, Nat.reduceBEq, jc1, List.take_succ_cons, List.take_zero, List.drop_succ_cons, List.drop_zero, List.reverse_cons, List.reverse_nil, List.nil_append, List.cons_append, List.length_cons, List.length_nil, Nat.zero_add, Nat.reduceAdd, beq_self_eq_true, true_and, and_true, Nat.reduceLeDiff, Nat.le_refl, Nat.zero_le, Bool.or_true, Bool.true_or, Bool.or_false, Bool.false_or, Bool.or_self]
  have k14 : ¬ isBx x y → Wn 14 [some v9, some (.inl x), some (.inl y), none] [] M 0 0 := by
    intro h
    rw [if_neg h] at hQ
    refine ev_at hC (fun pc => false) 9 14 (ls := [some (v9), some (.inl x), some (.inl y), none]) ?_
    simp only [↓cb_X9_pileOf_0, ↓cb_X9_pileOf_14, ↓cb_X9_pileOf_16, ↓cb_X9_pileOf_41, ↓cb_X9_pileOf_42, ↓te_aldP, ↓te_alen, ↓te_aload, ↓te_aret, ↓te_bin, ↓te_call, ↓te_const, ↓te_getP, ↓te_goto, ↓te_icmp, ↓te_if, ↓te_iload, ↓te_istore, ↓te_null, ↓evb_c, ↓evb_n, ↓evk_ap, ↓evm_ap, ↓evm_0, ↓jret_v, ↓jret_n, jget, jset, cond_true, cond_false, Nat.reduceBEq, jc1, List.take_succ_cons, List.take_zero, List.drop_succ_cons, List.drop_zero, List.reverse_cons, List.reverse_nil, List.nil_append, List.cons_append, List.length_cons, List.length_nil, Nat.zero_add, Nat.reduceAdd, beq_self_eq_true, true_and, and_true, Nat.reduceLeDiff, Nat.le_refl, Nat.zero_le, Bool.or_true, Bool.true_or, Bool.or_false, Bool.false_or, Bool.or_self]
    exact hQ
  refine cc_isCase G ?_
  by_cases h1 : inR x 0 1
  · rw [jb_t h1]
    try simp only [↓cb_X9_pileOf_0, ↓cb_X9_pileOf_14, ↓cb_X9_pileOf_16, ↓cb_X9_pileOf_41, ↓cb_X9_pileOf_42, ↓te_aldP, ↓te_alen, ↓te_aload, ↓te_aret, ↓te_bin, ↓te_call, ↓te_const, ↓te_getP, ↓te_goto, ↓te_icmp, ↓te_if, ↓te_iload, ↓te_istore, ↓te_null, ↓evb_c, ↓evb_n, ↓evk_ap, ↓evm_ap, ↓evm_0, ↓jret_v, ↓jret_n, jget, jset, cond_true, cond_false, Nat.reduceBEq, jc1, List.take_succ_cons, List.take_zero, List.drop_succ_cons, List.drop_zero, List.reverse_cons, List.reverse_nil, List.nil_append, List.cons_append, List.length_cons, List.length_nil, Nat.zero_add, Nat.reduceAdd, beq_self_eq_true, true_and, and_true, Nat.reduceLeDiff, Nat.le_refl, Nat.zero_le, Bool.or_true, Bool.true_or, Bool.or_false, Bool.false_or, Bool.or_self]
    try simp (disch := omega) only [Nat.reduceEqDiff, Prod.mk.injEq, Option.some.injEq, true_and, and_true, exists_eq_left', exists_eq_right, exists_and_left, exists_const, true_or, or_true, ne_eq, not_true_eq_false, not_false_eq_true, reduceCtorEq, false_and, and_false, if_true, if_false, forall_const, true_implies, false_implies, implies_true, qI_wI, qI_wP, qP_wI, qP_wP, qN_wI, qN_wP, and_self, nI_add, pk_mul, nI_clamp, vp_in_nI, ng_1, ng_10, nI_eq32, cs_0, cs_1, cs_2, cs_3, cs_4, cs_5, cs_6, cs_7, cs_8, cs_9, cs_10, cs_11, cs_12, cs_13, cs_14, cs_15, cs_16, cs_17, cs_18, cs_19, cs_20, cs_21, cs_22, cs_23, cs_24, cs_25, cs_26, cs_27, cs_28, cs_29, cs_30, cs_31, cs_32, cs_33, cs_34, cs_35, cs_36, cs_37, cs_38, cs_39, cs_40, cs_41, cs_42, cs_43, cs_44, cs_45, cs_46, cs_47, cs_48, cs_49, cs_50, cs_51, cs_52, cs_53, cs_54, cs_55, cs_56, cs_57, cs_58, cs_59, cs_60, cs_61, cs_62, cs_63, cs_64, cs_97, cs_100, cs_122, cs_200, cs_300, cs_448, cs_1000, al_11, al_12, al_13, al_14, al_15, al_16, al_17, al_18, al_19, al_20, al_21, al_22, al_23, al_24, al_25, al_26, al_27, al_28, al_29, al_30, al_31, al_32, al_33, al_34, al_35, al_36, al_37, al_38, al_39, al_40, al_41, al_42, al_43, al_44, al_45, al_46, al_47]
    refine cc_isBox G ?_
    by_cases h2 : inR y 0 28
    · rw [jb_t h2]
      try simp only [↓cb_X9_pileOf_0, ↓cb_X9_pileOf_14, ↓cb_X9_pileOf_16, ↓cb_X9_pileOf_41, ↓cb_X9_pileOf_42, ↓te_aldP, ↓te_alen, ↓te_aload, ↓te_aret, ↓te_bin, ↓te_call, ↓te_const, ↓te_getP, ↓te_goto, ↓te_icmp, ↓te_if, ↓te_iload, ↓te_istore, ↓te_null, ↓evb_c, ↓evb_n, ↓evk_ap, ↓evm_ap, ↓evm_0, ↓jret_v, ↓jret_n, jget, jset, cond_true, cond_false, Nat.reduceBEq, jc1, List.take_succ_cons, List.take_zero, List.drop_succ_cons, List.drop_zero, List.reverse_cons, List.reverse_nil, List.nil_append, List.cons_append, List.length_cons, List.length_nil, Nat.zero_add, Nat.reduceAdd, beq_self_eq_true, true_and, and_true, Nat.reduceLeDiff, Nat.le_refl, Nat.zero_le, Bool.or_true, Bool.true_or, Bool.or_false, Bool.false_or, Bool.or_self]
      try simp (disch := omega) only [Nat.reduceEqDiff, Prod.mk.injEq, Option.some.injEq, true_and, and_true, exists_eq_left', exists_eq_right, exists_and_left, exists_const, true_or, or_true, ne_eq, not_true_eq_false, not_false_eq_true, reduceCtorEq, false_and, and_false, if_true, if_false, forall_const, true_implies, false_implies, implies_true, qI_wI, qI_wP, qP_wI, qP_wP, qN_wI, qN_wP, and_self, nI_add, pk_mul, nI_clamp, vp_in_nI, ng_1, ng_10, nI_eq32, cs_0, cs_1, cs_2, cs_3, cs_4, cs_5, cs_6, cs_7, cs_8, cs_9, cs_10, cs_11, cs_12, cs_13, cs_14, cs_15, cs_16, cs_17, cs_18, cs_19, cs_20, cs_21, cs_22, cs_23, cs_24, cs_25, cs_26, cs_27, cs_28, cs_29, cs_30, cs_31, cs_32, cs_33, cs_34, cs_35, cs_36, cs_37, cs_38, cs_39, cs_40, cs_41, cs_42, cs_43, cs_44, cs_45, cs_46, cs_47, cs_48, cs_49, cs_50, cs_51, cs_52, cs_53, cs_54, cs_55, cs_56, cs_57, cs_58, cs_59, cs_60, cs_61, cs_62, cs_63, cs_64, cs_97, cs_100, cs_122, cs_200, cs_300, cs_448, cs_1000, al_11, al_12, al_13, al_14, al_15, al_16, al_17, al_18, al_19, al_20, al_21, al_22, al_23, al_24, al_25, al_26, al_27, al_28, al_29, al_30, al_31, al_32, al_33, al_34, al_35, al_36, al_37, al_38, al_39, al_40, al_41, al_42, al_43, al_44, al_45, al_46, al_47]
      rw [if_pos ⟨h1, h2⟩] at hQ
      obtain ⟨h5, hx⟩ := in_of (n := 1) (by omega) h1
      obtain ⟨h6, hy⟩ := in_of (n := 28) (by omega) h2
      generalize jn x = f at *
      generalize jn y = b at *
      subst hx hy
      have e9 : f * 29 + b = 29 * f + b := by omega
      refine ev_at hC (fun pc => false) 9 16 (ls := [some (v9), some (vI f), some (vI b), none]) ?_
      simp only [↓cb_X9_pileOf_0, ↓cb_X9_pileOf_14, ↓cb_X9_pileOf_16, ↓cb_X9_pileOf_41, ↓cb_X9_pileOf_42, ↓te_aldP, ↓te_alen, ↓te_aload, ↓te_aret, ↓te_bin, ↓te_call, ↓te_const, ↓te_getP, ↓te_goto, ↓te_icmp, ↓te_if, ↓te_iload, ↓te_istore, ↓te_null, ↓evb_c, ↓evb_n, ↓evk_ap, ↓evm_ap, ↓evm_0, ↓jret_v, ↓jret_n, jget, jset, cond_true, cond_false, Nat.reduceBEq, jc1, List.take_succ_cons, List.take_zero, List.drop_succ_cons, List.drop_zero, List.reverse_cons, List.reverse_nil, List.nil_append, List.cons_append, List.length_cons, List.length_nil, Nat.zero_add, Nat.reduceAdd, beq_self_eq_true, true_and, and_true, Nat.reduceLeDiff, Nat.le_refl, Nat.zero_le, Bool.or_true, Bool.true_or, Bool.or_false, Bool.false_or, Bool.or_self]
      simp (disch := omega) only [Nat.reduceEqDiff, Prod.mk.injEq, Option.some.injEq, true_and, and_true, exists_eq_left', exists_eq_right, exists_and_left, exists_const, true_or, or_true, ne_eq, not_true_eq_false, not_false_eq_true, reduceCtorEq, false_and, and_false, if_true, if_false, forall_const, true_implies, false_implies, implies_true, qI_wI, qI_wP, qP_wI, qP_wP, qN_wI, qN_wP, and_self, nI_add, pk_mul, nI_clamp, vp_in_nI, ng_1, ng_10, nI_eq32, cs_0, cs_1, cs_2, cs_3, cs_4, cs_5, cs_6, cs_7, cs_8, cs_9, cs_10, cs_11, cs_12, cs_13, cs_14, cs_15, cs_16, cs_17, cs_18, cs_19, cs_20, cs_21, cs_22, cs_23, cs_24, cs_25, cs_26, cs_27, cs_28, cs_29, cs_30, cs_31, cs_32, cs_33, cs_34, cs_35, cs_36, cs_37, cs_38, cs_39, cs_40, cs_41, cs_42, cs_43, cs_44, cs_45, cs_46, cs_47, cs_48, cs_49, cs_50, cs_51, cs_52, cs_53, cs_54, cs_55, cs_56, cs_57, cs_58, cs_59, cs_60, cs_61, cs_62, cs_63, cs_64, cs_97, cs_100, cs_122, cs_200, cs_300, cs_448, cs_1000, al_11, al_12, al_13, al_14, al_15, al_16, al_17, al_18, al_19, al_20, al_21, al_22, al_23, al_24, al_25, al_26, al_27, al_28, al_29, al_30, al_31, al_32, al_33, al_34, al_35, al_36, al_37, al_38, al_39, al_40, al_41, al_42, al_43, al_44, al_45, al_46, al_47, h0, hk, nI_leI, e9]
      repeat (first | exact hQ | (refine ⟨fun h9 => absurd h9 (by first | omega | assumption), fun _ => ?_⟩) | (refine ⟨fun _ => ?_, fun h9 => absurd (by first | omega | assumption) h9⟩))
    · rw [jb_f h2]
      try simp only [↓cb_X9_pileOf_0, ↓cb_X9_pileOf_14, ↓cb_X9_pileOf_16, ↓cb_X9_pileOf_41, ↓cb_X9_pileOf_42, ↓te_aldP, ↓te_alen, ↓te_aload, ↓te_aret, ↓te_bin, ↓te_call, ↓te_const, ↓te_getP, ↓te_goto, ↓te_icmp, ↓te_if, ↓te_iload, ↓te_istore, ↓te_null, ↓evb_c, ↓evb_n, ↓evk_ap, ↓evm_ap, ↓evm_0, ↓jret_v, ↓jret_n, jget, jset, cond_true, cond_false, Nat.reduceBEq, jc1, List.take_succ_cons, List.take_zero, List.drop_succ_cons, List.drop_zero, List.reverse_cons, List.reverse_nil, List.nil_append, List.cons_append, List.length_cons, List.length_nil, Nat.zero_add, Nat.reduceAdd, beq_self_eq_true, true_and, and_true, Nat.reduceLeDiff, Nat.le_refl, Nat.zero_le, Bool.or_true, Bool.true_or, Bool.or_false, Bool.false_or, Bool.or_self]
      try simp (disch := omega) only [Nat.reduceEqDiff, Prod.mk.injEq, Option.some.injEq, true_and, and_true, exists_eq_left', exists_eq_right, exists_and_left, exists_const, true_or, or_true, ne_eq, not_true_eq_false, not_false_eq_true, reduceCtorEq, false_and, and_false, if_true, if_false, forall_const, true_implies, false_implies, implies_true, qI_wI, qI_wP, qP_wI, qP_wP, qN_wI, qN_wP, and_self, nI_add, pk_mul, nI_clamp, vp_in_nI, ng_1, ng_10, nI_eq32, cs_0, cs_1, cs_2, cs_3, cs_4, cs_5, cs_6, cs_7, cs_8, cs_9, cs_10, cs_11, cs_12, cs_13, cs_14, cs_15, cs_16, cs_17, cs_18, cs_19, cs_20, cs_21, cs_22, cs_23, cs_24, cs_25, cs_26, cs_27, cs_28, cs_29, cs_30, cs_31, cs_32, cs_33, cs_34, cs_35, cs_36, cs_37, cs_38, cs_39, cs_40, cs_41, cs_42, cs_43, cs_44, cs_45, cs_46, cs_47, cs_48, cs_49, cs_50, cs_51, cs_52, cs_53, cs_54, cs_55, cs_56, cs_57, cs_58, cs_59, cs_60, cs_61, cs_62, cs_63, cs_64, cs_97, cs_100, cs_122, cs_200, cs_300, cs_448, cs_1000, al_11, al_12, al_13, al_14, al_15, al_16, al_17, al_18, al_19, al_20, al_21, al_22, al_23, al_24, al_25, al_26, al_27, al_28, al_29, al_30, al_31, al_32, al_33, al_34, al_35, al_36, al_37, al_38, al_39, al_40, al_41, al_42, al_43, al_44, al_45, al_46, al_47]
      exact k14 (fun q => h2 q.2)
  · rw [jb_f h1]
    try simp only [↓cb_X9_pileOf_0, ↓cb_X9_pileOf_14, ↓cb_X9_pileOf_16, ↓cb_X9_pileOf_41, ↓cb_X9_pileOf_42, ↓te_aldP, ↓te_alen, ↓te_aload, ↓te_aret, ↓te_bin, ↓te_call, ↓te_const, ↓te_getP, ↓te_goto, ↓te_icmp, ↓te_if, ↓te_iload, ↓te_istore, ↓te_null, ↓evb_c, ↓evb_n, ↓evk_ap, ↓evm_ap, ↓evm_0, ↓jret_v, ↓jret_n, jget, jset, cond_true, cond_false, Nat.reduceBEq, jc1, List.take_succ_cons, List.take_zero, List.drop_succ_cons, List.drop_zero, List.reverse_cons, List.reverse_nil, List.nil_append, List.cons_append, List.length_cons, List.length_nil, Nat.zero_add, Nat.reduceAdd, beq_self_eq_true, true_and, and_true, Nat.reduceLeDiff, Nat.le_refl, Nat.zero_le, Bool.or_true, Bool.true_or, Bool.or_false, Bool.false_or, Bool.or_self]
    try simp (disch := omega) only [Nat.reduceEqDiff, Prod.mk.injEq, Option.some.injEq, true_and, and_true, exists_eq_left', exists_eq_right, exists_and_left, exists_const, true_or, or_true, ne_eq, not_true_eq_false, not_false_eq_true, reduceCtorEq, false_and, and_false, if_true, if_false, forall_const, true_implies, false_implies, implies_true, qI_wI, qI_wP, qP_wI, qP_wP, qN_wI, qN_wP, and_self, nI_add, pk_mul, nI_clamp, vp_in_nI, ng_1, ng_10, nI_eq32, cs_0, cs_1, cs_2, cs_3, cs_4, cs_5, cs_6, cs_7, cs_8, cs_9, cs_10, cs_11, cs_12, cs_13, cs_14, cs_15, cs_16, cs_17, cs_18, cs_19, cs_20, cs_21, cs_22, cs_23, cs_24, cs_25, cs_26, cs_27, cs_28, cs_29, cs_30, cs_31, cs_32, cs_33, cs_34, cs_35, cs_36, cs_37, cs_38, cs_39, cs_40, cs_41, cs_42, cs_43, cs_44, cs_45, cs_46, cs_47, cs_48, cs_49, cs_50, cs_51, cs_52, cs_53, cs_54, cs_55, cs_56, cs_57, cs_58, cs_59, cs_60, cs_61, cs_62, cs_63, cs_64, cs_97, cs_100, cs_122, cs_200, cs_300, cs_448, cs_1000, al_11, al_12, al_13, al_14, al_15, al_16, al_17, al_18, al_19, al_20, al_21, al_22, al_23, al_24, al_25, al_26, al_27, al_28, al_29, al_30, al_31, al_32, al_33, al_34, al_35, al_36, al_37, al_38, al_39, al_40, al_41, al_42, al_43, al_44, al_45, al_46, al_47]
    exact k14 (fun q => h1 q.1)
def lnP (S : jS) (p : Nat → Nat) (x : Int32) : Option Nat := if isLn S x then some (p (jn x)) else none
set_option maxRecDepth 20000 in
set_option maxHeartbeats 20000000 in
theorem cc_lineOf (G : jx_G) {M : jx_M} {S : jS} {p : Nat → Nat} {Q : jx_O → jx_M → Prop} {x : Int32} (hn : S 10 14 ≤ 12) (hM : CM M S p) (hQ : Q (rP 3 (lnP S p x)) M) : Mt G m_X9_lineOf [v9, .inl x] M Q := by
  refine Mt.of (sc_X9_lineOf G) (by decide +kernel) (jArgs.of rfl) (Nat.le_of_ble_eq_true rfl) (fun Wn hC => ?_)
  have h7 := hM.1.1.2.2.2.2.2.1
  have h8 := hM.1.2.2.1.2.2.1
  have hp : ∀ l, l < 12 → qP M 13 0 l = some (p l) := fun l hl => (hM.2.2.2.2.2.2.2.2.2.1.1 l hl).2
  unfold lnP at hQ
  by_cases h1 : isLn S x
  · rw [if_pos h1] at hQ
    obtain ⟨h3, hx⟩ := in_lt (by omega) h1
    generalize jn x = l at *
    subst hx
    refine ev_at hC (fun pc => false) 9 0 (ls := [some (v9), some (vI l)]) ?_
    simp only [↓cb_X9_lineOf_0, ↓cb_X9_lineOf_30, ↓cb_X9_lineOf_31, ↓te_aldP, ↓te_alen, ↓te_aload, ↓te_aret, ↓te_getI, ↓te_getP, ↓te_goto, ↓te_icmp, ↓te_if, ↓te_iload, ↓te_null, ↓evb_c, ↓evb_n, ↓evk_ap, ↓evm_ap, ↓evm_0, ↓jret_v, ↓jret_n, jget, jset, cond_true, cond_false, Nat.reduceBEq, jc1, List.take_succ_cons, List.take_zero, List.drop_succ_cons, List.drop_zero, List.reverse_cons, List.reverse_nil, List.nil_append, List.cons_append, List.length_cons, List.length_nil, Nat.zero_add, Nat.reduceAdd, beq_self_eq_true, true_and, and_true, Nat.reduceLeDiff, Nat.le_refl, Nat.zero_le, Bool.or_true, Bool.true_or, Bool.or_false, Bool.false_or, Bool.or_self]
    simp (disch := omega) only [Nat.reduceEqDiff, Prod.mk.injEq, Option.some.injEq, true_and, and_true, exists_eq_left', exists_eq_right, exists_and_left, exists_const, true_or, or_true, ne_eq, not_true_eq_false, not_false_eq_true, reduceCtorEq, false_and, and_false, if_true, if_false, forall_const, true_implies, false_implies, implies_true, qI_wI, qI_wP, qP_wI, qP_wP, qN_wI, qN_wP, and_self, nI_add, pk_mul, nI_clamp, vp_in_nI, ng_1, ng_10, nI_eq32, cs_0, cs_1, cs_2, cs_3, cs_4, cs_5, cs_6, cs_7, cs_8, cs_9, cs_10, cs_11, cs_12, cs_13, cs_14, cs_15, cs_16, cs_17, cs_18, cs_19, cs_20, cs_21, cs_22, cs_23, cs_24, cs_25, cs_26, cs_27, cs_28, cs_29, cs_30, cs_31, cs_32, cs_33, cs_34, cs_35, cs_36, cs_37, cs_38, cs_39, cs_40, cs_41, cs_42, cs_43, cs_44, cs_45, cs_46, cs_47, cs_48, cs_49, cs_50, cs_51, cs_52, cs_53, cs_54, cs_55, cs_56, cs_57, cs_58, cs_59, cs_60, cs_61, cs_62, cs_63, cs_64, cs_97, cs_100, cs_122, cs_200, cs_300, cs_448, cs_1000, al_11, al_12, al_13, al_14, al_15, al_16, al_17, al_18, al_19, al_20, al_21, al_22, al_23, al_24, al_25, al_26, al_27, al_28, al_29, al_30, al_31, al_32, al_33, al_34, al_35, al_36, al_37, al_38, al_39, al_40, al_41, al_42, al_43, al_44, al_45, al_46, al_47, h7, h8, hp, nI_leI, nI_ltI]
    repeat (first | exact hQ | (refine ⟨fun h9 => absurd h9 (by first | omega | assumption), fun _ => ?_⟩) | (refine ⟨fun _ => ?_, fun h9 => absurd (by first | omega | assumption) h9⟩))
  · rw [if_neg h1] at hQ
    refine ev_at hC (fun pc => false) 9 0 (ls := [some (v9), some (.inl x)]) ?_
    simp only [↓cb_X9_lineOf_0, ↓cb_X9_lineOf_30, ↓cb_X9_lineOf_31, ↓te_aldP, ↓te_alen, ↓te_aload, ↓te_aret, ↓te_getI, ↓te_getP, ↓te_goto, ↓te_icmp, ↓te_if, ↓te_iload, ↓te_null, ↓evb_c, ↓evb_n, ↓evk_ap, ↓evm_ap, ↓evm_0, ↓jret_v, ↓jret_n, jget, jset, cond_true, cond_false, Nat.reduceBEq, jc1, List.take_succ_cons, List.take_zero, List.drop_succ_cons, List.drop_zero, List.reverse_cons, List.reverse_nil, List.nil_append, List.cons_append, List.length_cons, List.length_nil, Nat.zero_add, Nat.reduceAdd, beq_self_eq_true, true_and, and_true, Nat.reduceLeDiff, Nat.le_refl, Nat.zero_le, Bool.or_true, Bool.true_or, Bool.or_false, Bool.false_or, Bool.or_self]
    simp (disch := omega) only [Nat.reduceEqDiff, Prod.mk.injEq, Option.some.injEq, true_and, and_true, exists_eq_left', exists_eq_right, exists_and_left, exists_const, true_or, or_true, ne_eq, not_true_eq_false, not_false_eq_true, reduceCtorEq, false_and, and_false, if_true, if_false, forall_const, true_implies, false_implies, implies_true, qI_wI, qI_wP, qP_wI, qP_wP, qN_wI, qN_wP, and_self, nI_add, pk_mul, nI_clamp, vp_in_nI, ng_1, ng_10, nI_eq32, cs_0, cs_1, cs_2, cs_3, cs_4, cs_5, cs_6, cs_7, cs_8, cs_9, cs_10, cs_11, cs_12, cs_13, cs_14, cs_15, cs_16, cs_17, cs_18, cs_19, cs_20, cs_21, cs_22, cs_23, cs_24, cs_25, cs_26, cs_27, cs_28, cs_29, cs_30, cs_31, cs_32, cs_33, cs_34, cs_35, cs_36, cs_37, cs_38, cs_39, cs_40, cs_41, cs_42, cs_43, cs_44, cs_45, cs_46, cs_47, cs_48, cs_49, cs_50, cs_51, cs_52, cs_53, cs_54, cs_55, cs_56, cs_57, cs_58, cs_59, cs_60, cs_61, cs_62, cs_63, cs_64, cs_97, cs_100, cs_122, cs_200, cs_300, cs_448, cs_1000, al_11, al_12, al_13, al_14, al_15, al_16, al_17, al_18, al_19, al_20, al_21, al_22, al_23, al_24, al_25, al_26, al_27, al_28, al_29, al_30, al_31, al_32, al_33, al_34, al_35, al_36, al_37, al_38, al_39, al_40, al_41, al_42, al_43, al_44, al_45, al_46, al_47, h7, h8]
    rcases out_lt (by omega) h1 with q | q
    · exact ⟨fun _ => hQ, fun z => absurd q z⟩
    · exact ⟨fun _ => hQ, fun _ => ⟨fun _ => hQ, fun z => absurd q z⟩⟩
def fmP (S : jS) (x : Int32) : Option Nat := if isFm S x then some (jn x) else none
set_option maxRecDepth 20000 in
set_option maxHeartbeats 20000000 in
theorem cc_formOf (G : jx_G) {M : jx_M} {S : jS} {p : Nat → Nat} {Q : jx_O → jx_M → Prop} {x : Int32} (hn : S 10 24 ≤ 4) (hM : CM M S p) (hQ : Q (rP 1 (fmP S x)) M) : Mt G m_X9_formOf [v9, .inl x] M Q := by
  refine Mt.of (sc_X9_formOf G) (by decide +kernel) (jArgs.of rfl) (Nat.le_of_ble_eq_true rfl) (fun Wn hC => ?_)
  have h7 := hM.1.1.2.2.2.2.2.2.1
  have h8 := hM.1.2.2.1.2.2.2
  have hp : ∀ l, l < 4 → qP M 14 0 l = some l := fun l hl => (hM.2.2.2.1 l hl).1
  unfold fmP at hQ
  by_cases h1 : isFm S x
  · rw [if_pos h1] at hQ
    obtain ⟨h3, hx⟩ := in_lt (by omega) h1
    generalize jn x = l at *
    subst hx
    refine ev_at hC (fun pc => false) 9 0 (ls := [some (v9), some (vI l)]) ?_
    simp only [↓cb_X9_formOf_0, ↓cb_X9_formOf_30, ↓cb_X9_formOf_31, ↓te_aldP, ↓te_alen, ↓te_aload, ↓te_aret, ↓te_getI, ↓te_getP, ↓te_goto, ↓te_icmp, ↓te_if, ↓te_iload, ↓te_null, ↓evb_c, ↓evb_n, ↓evk_ap, ↓evm_ap, ↓evm_0, ↓jret_v, ↓jret_n, jget, jset, cond_true, cond_false, Nat.reduceBEq, jc1, List.take_succ_cons, List.take_zero, List.drop_succ_cons, List.drop_zero, List.reverse_cons, List.reverse_nil, List.nil_append, List.cons_append, List.length_cons, List.length_nil, Nat.zero_add, Nat.reduceAdd, beq_self_eq_true, true_and, and_true, Nat.reduceLeDiff, Nat.le_refl, Nat.zero_le, Bool.or_true, Bool.true_or, Bool.or_false, Bool.false_or, Bool.or_self]
    simp (disch := omega) only [Nat.reduceEqDiff, Prod.mk.injEq, Option.some.injEq, true_and, and_true, exists_eq_left', exists_eq_right, exists_and_left, exists_const, true_or, or_true, ne_eq, not_true_eq_false, not_false_eq_true, reduceCtorEq, false_and, and_false, if_true, if_false, forall_const, true_implies, false_implies, implies_true, qI_wI, qI_wP, qP_wI, qP_wP, qN_wI, qN_wP, and_self, nI_add, pk_mul, nI_clamp, vp_in_nI, ng_1, ng_10, nI_eq32, cs_0, cs_1, cs_2, cs_3, cs_4, cs_5, cs_6, cs_7, cs_8, cs_9, cs_10, cs_11, cs_12, cs_13, cs_14, cs_15, cs_16, cs_17, cs_18, cs_19, cs_20, cs_21, cs_22, cs_23, cs_24, cs_25, cs_26, cs_27, cs_28, cs_29, cs_30, cs_31, cs_32, cs_33, cs_34, cs_35, cs_36, cs_37, cs_38, cs_39, cs_40, cs_41, cs_42, cs_43, cs_44, cs_45, cs_46, cs_47, cs_48, cs_49, cs_50, cs_51, cs_52, cs_53, cs_54, cs_55, cs_56, cs_57, cs_58, cs_59, cs_60, cs_61, cs_62, cs_63, cs_64, cs_97, cs_100, cs_122, cs_200, cs_300, cs_448, cs_1000, al_11, al_12, al_13, al_14, al_15, al_16, al_17, al_18, al_19, al_20, al_21, al_22, al_23, al_24, al_25, al_26, al_27, al_28, al_29, al_30, al_31, al_32, al_33, al_34, al_35, al_36, al_37, al_38, al_39, al_40, al_41, al_42, al_43, al_44, al_45, al_46, al_47, h7, h8, hp, nI_leI, nI_ltI]
    repeat (first | exact hQ | (refine ⟨fun h9 => absurd h9 (by first | omega | assumption), fun _ => ?_⟩) | (refine ⟨fun _ => ?_, fun h9 => absurd (by first | omega | assumption) h9⟩))
  · rw [if_neg h1] at hQ
    refine ev_at hC (fun pc => false) 9 0 (ls := [some (v9), some (.inl x)]) ?_
    simp only [↓cb_X9_formOf_0, ↓cb_X9_formOf_30, ↓cb_X9_formOf_31, ↓te_aldP, ↓te_alen, ↓te_aload, ↓te_aret, ↓te_getI, ↓te_getP, ↓te_goto, ↓te_icmp, ↓te_if, ↓te_iload, ↓te_null, ↓evb_c, ↓evb_n, ↓evk_ap, ↓evm_ap, ↓evm_0, ↓jret_v, ↓jret_n, jget, jset, cond_true, cond_false, Nat.reduceBEq, jc1, List.take_succ_cons, List.take_zero, List.drop_succ_cons, List.drop_zero, List.reverse_cons, List.reverse_nil, List.nil_append, List.cons_append, List.length_cons, List.length_nil, Nat.zero_add, Nat.reduceAdd, beq_self_eq_true, true_and, and_true, Nat.reduceLeDiff, Nat.le_refl, Nat.zero_le, Bool.or_true, Bool.true_or, Bool.or_false, Bool.false_or, Bool.or_self]
    simp (disch := omega) only [Nat.reduceEqDiff, Prod.mk.injEq, Option.some.injEq, true_and, and_true, exists_eq_left', exists_eq_right, exists_and_left, exists_const, true_or, or_true, ne_eq, not_true_eq_false, not_false_eq_true, reduceCtorEq, false_and, and_false, if_true, if_false, forall_const, true_implies, false_implies, implies_true, qI_wI, qI_wP, qP_wI, qP_wP, qN_wI, qN_wP, and_self, nI_add, pk_mul, nI_clamp, vp_in_nI, ng_1, ng_10, nI_eq32, cs_0, cs_1, cs_2, cs_3, cs_4, cs_5, cs_6, cs_7, cs_8, cs_9, cs_10, cs_11, cs_12, cs_13, cs_14, cs_15, cs_16, cs_17, cs_18, cs_19, cs_20, cs_21, cs_22, cs_23, cs_24, cs_25, cs_26, cs_27, cs_28, cs_29, cs_30, cs_31, cs_32, cs_33, cs_34, cs_35, cs_36, cs_37, cs_38, cs_39, cs_40, cs_41, cs_42, cs_43, cs_44, cs_45, cs_46, cs_47, cs_48, cs_49, cs_50, cs_51, cs_52, cs_53, cs_54, cs_55, cs_56, cs_57, cs_58, cs_59, cs_60, cs_61, cs_62, cs_63, cs_64, cs_97, cs_100, cs_122, cs_200, cs_300, cs_448, cs_1000, al_11, al_12, al_13, al_14, al_15, al_16, al_17, al_18, al_19, al_20, al_21, al_22, al_23, al_24, al_25, al_26, al_27, al_28, al_29, al_30, al_31, al_32, al_33, al_34, al_35, al_36, al_37, al_38, al_39, al_40, al_41, al_42, al_43, al_44, al_45, al_46, al_47, h7, h8]
    rcases out_lt (by omega) h1 with q | q
    · exact ⟨fun _ => hQ, fun z => absurd q z⟩
    · exact ⟨fun _ => hQ, fun _ => ⟨fun _ => hQ, fun z => absurd q z⟩⟩
abbrev isSt (S : jS) (x : Int32) : Prop := inR x 0 (nI (S 10 1) - nI 1)
def soP (S : jS) (x : Int32) : Option Nat := if isSt S x then some (jn x) else none
set_option maxRecDepth 20000 in
set_option maxHeartbeats 20000000 in
theorem cc_sortOf (G : jx_G) {M : jx_M} {S : jS} {p : Nat → Nat} {Q : jx_O → jx_M → Prop} {x : Int32} (hn : S 10 1 ≤ 300) (hM : CM M S p) (hQ : Q (rP 6 (soP S x)) M) : Mt G m_X9_sortOf [v9, .inl x] M Q := by
  refine Mt.of (sc_X9_sortOf G) (by decide +kernel) (jArgs.of rfl) (Nat.le_of_ble_eq_true rfl) (fun Wn hC => ?_)
  have h7 := hM.1.1.2.1
  have h8 := hM.1.2.2.1.1
  have hp : ∀ l, l < S 10 1 → qP M 12 0 l = some l := fun l hl => (hM.2.2.2.2.2.2.1 l hl).1
  unfold soP at hQ
  by_cases h1 : isSt S x
  · rw [if_pos h1] at hQ
    obtain ⟨h3, hx⟩ := in_lt (by omega) h1
    generalize jn x = l at *
    subst hx
    refine ev_at hC (fun pc => false) 9 0 (ls := [some (v9), some (vI l)]) ?_
    simp only [↓cb_X9_sortOf_0, ↓cb_X9_sortOf_30, ↓cb_X9_sortOf_31, ↓te_aldP, ↓te_alen, ↓te_aload, ↓te_aret, ↓te_getI, ↓te_getP, ↓te_goto, ↓te_icmp, ↓te_if, ↓te_iload, ↓te_null, ↓evb_c, ↓evb_n, ↓evk_ap, ↓evm_ap, ↓evm_0, ↓jret_v, ↓jret_n, jget, jset, cond_true, cond_false, Nat.reduceBEq, jc1, List.take_succ_cons, List.take_zero, List.drop_succ_cons, List.drop_zero, List.reverse_cons, List.reverse_nil, List.nil_append, List.cons_append, List.length_cons, List.length_nil, Nat.zero_add, Nat.reduceAdd, beq_self_eq_true, true_and, and_true, Nat.reduceLeDiff, Nat.le_refl, Nat.zero_le, Bool.or_true, Bool.true_or, Bool.or_false, Bool.false_or, Bool.or_self]
    simp (disch := omega) only [Nat.reduceEqDiff, Prod.mk.injEq, Option.some.injEq, true_and, and_true, exists_eq_left', exists_eq_right, exists_and_left, exists_const, true_or, or_true, ne_eq, not_true_eq_false, not_false_eq_true, reduceCtorEq, false_and, and_false, if_true, if_false, forall_const, true_implies, false_implies, implies_true, qI_wI, qI_wP, qP_wI, qP_wP, qN_wI, qN_wP, and_self, nI_add, pk_mul, nI_clamp, vp_in_nI, ng_1, ng_10, nI_eq32, cs_0, cs_1, cs_2, cs_3, cs_4, cs_5, cs_6, cs_7, cs_8, cs_9, cs_10, cs_11, cs_12, cs_13, cs_14, cs_15, cs_16, cs_17, cs_18, cs_19, cs_20, cs_21, cs_22, cs_23, cs_24, cs_25, cs_26, cs_27, cs_28, cs_29, cs_30, cs_31, cs_32, cs_33, cs_34, cs_35, cs_36, cs_37, cs_38, cs_39, cs_40, cs_41, cs_42, cs_43, cs_44, cs_45, cs_46, cs_47, cs_48, cs_49, cs_50, cs_51, cs_52, cs_53, cs_54, cs_55, cs_56, cs_57, cs_58, cs_59, cs_60, cs_61, cs_62, cs_63, cs_64, cs_97, cs_100, cs_122, cs_200, cs_300, cs_448, cs_1000, al_11, al_12, al_13, al_14, al_15, al_16, al_17, al_18, al_19, al_20, al_21, al_22, al_23, al_24, al_25, al_26, al_27, al_28, al_29, al_30, al_31, al_32, al_33, al_34, al_35, al_36, al_37, al_38, al_39, al_40, al_41, al_42, al_43, al_44, al_45, al_46, al_47, h7, h8, hp, nI_leI, nI_ltI]
    repeat (first | exact hQ | (refine ⟨fun h9 => absurd h9 (by first | omega | assumption), fun _ => ?_⟩) | (refine ⟨fun _ => ?_, fun h9 => absurd (by first | omega | assumption) h9⟩))
  · rw [if_neg h1] at hQ
    refine ev_at hC (fun pc => false) 9 0 (ls := [some (v9), some (.inl x)]) ?_
    simp only [↓cb_X9_sortOf_0, ↓cb_X9_sortOf_30, ↓cb_X9_sortOf_31, ↓te_aldP, ↓te_alen, ↓te_aload, ↓te_aret, ↓te_getI, ↓te_getP, ↓te_goto, ↓te_icmp, ↓te_if, ↓te_iload, ↓te_null, ↓evb_c, ↓evb_n, ↓evk_ap, ↓evm_ap, ↓evm_0, ↓jret_v, ↓jret_n, jget, jset, cond_true, cond_false, Nat.reduceBEq, jc1, List.take_succ_cons, List.take_zero, List.drop_succ_cons, List.drop_zero, List.reverse_cons, List.reverse_nil, List.nil_append, List.cons_append, List.length_cons, List.length_nil, Nat.zero_add, Nat.reduceAdd, beq_self_eq_true, true_and, and_true, Nat.reduceLeDiff, Nat.le_refl, Nat.zero_le, Bool.or_true, Bool.true_or, Bool.or_false, Bool.false_or, Bool.or_self]
    simp (disch := omega) only [Nat.reduceEqDiff, Prod.mk.injEq, Option.some.injEq, true_and, and_true, exists_eq_left', exists_eq_right, exists_and_left, exists_const, true_or, or_true, ne_eq, not_true_eq_false, not_false_eq_true, reduceCtorEq, false_and, and_false, if_true, if_false, forall_const, true_implies, false_implies, implies_true, qI_wI, qI_wP, qP_wI, qP_wP, qN_wI, qN_wP, and_self, nI_add, pk_mul, nI_clamp, vp_in_nI, ng_1, ng_10, nI_eq32, cs_0, cs_1, cs_2, cs_3, cs_4, cs_5, cs_6, cs_7, cs_8, cs_9, cs_10, cs_11, cs_12, cs_13, cs_14, cs_15, cs_16, cs_17, cs_18, cs_19, cs_20, cs_21, cs_22, cs_23, cs_24, cs_25, cs_26, cs_27, cs_28, cs_29, cs_30, cs_31, cs_32, cs_33, cs_34, cs_35, cs_36, cs_37, cs_38, cs_39, cs_40, cs_41, cs_42, cs_43, cs_44, cs_45, cs_46, cs_47, cs_48, cs_49, cs_50, cs_51, cs_52, cs_53, cs_54, cs_55, cs_56, cs_57, cs_58, cs_59, cs_60, cs_61, cs_62, cs_63, cs_64, cs_97, cs_100, cs_122, cs_200, cs_300, cs_448, cs_1000, al_11, al_12, al_13, al_14, al_15, al_16, al_17, al_18, al_19, al_20, al_21, al_22, al_23, al_24, al_25, al_26, al_27, al_28, al_29, al_30, al_31, al_32, al_33, al_34, al_35, al_36, al_37, al_38, al_39, al_40, al_41, al_42, al_43, al_44, al_45, al_46, al_47, h7, h8]
    rcases out_lt (by omega) h1 with q | q
    · exact ⟨fun _ => hQ, fun z => absurd q z⟩
    · exact ⟨fun _ => hQ, fun _ => ⟨fun _ => hQ, fun z => absurd q z⟩⟩
/-- what a line's methods need of the line -/
def CLm (M : jx_M) (S : jS) (o l : Nat) : Prop := CLn M S o l ∧ CA M ∧ o < 12 ∧ S 35 l ≤ 60 ∧ S 38 l ≤ 60
def stP (S : jS) (l : Nat) (x : Int32) : Option Nat := if inR x 0 (nI (S 35 l) - nI 1) then some (S 36 (64 * l + jn x)) else none
set_option maxRecDepth 20000 in
set_option maxHeartbeats 20000000 in
theorem cc_lsort (G : jx_G) {M : jx_M} {S : jS} {o l : Nat} {Q : jx_O → jx_M → Prop} {x : Int32} (hM : CLm M S o l) (hQ : Q (rP 6 (stP S l x)) M) : Mt G m_X3_sortOn [oR 3 o, .inl x] M Q := by
  refine Mt.of (sc_X3_sortOn G) (by decide +kernel) (jArgs.of rfl) (Nat.le_of_ble_eq_true rfl) (fun Wn hC => ?_)
  obtain ⟨⟨⟨a1, a2, a3, a4, a5⟩, b, c⟩, hA, ho, h60, h61⟩ := hM
  have h0 := (hA o ho).1
  have hp : ∀ k, k < S 35 l → qP M 16 o k = some (S 36 (64 * l + k)) := fun k hk => (b k hk).1
  unfold stP at hQ
  by_cases h1 : inR x 0 (nI (S 35 l) - nI 1)
  · rw [if_pos h1] at hQ
    obtain ⟨h3, hx⟩ := in_lt (by omega) h1
    generalize jn x = k at *
    subst hx
    refine ev_at hC (fun pc => false) 9 0 (ls := [some (oR 3 o), some (vI k)]) ?_
    simp only [↓cb_X3_sortOn_0, ↓cb_X3_sortOn_30, ↓cb_X3_sortOn_31, ↓te_aldP, ↓te_alen, ↓te_aload, ↓te_aret, ↓te_getI, ↓te_getP, ↓te_goto, ↓te_icmp, ↓te_if, ↓te_iload, ↓te_null, ↓evb_c, ↓evb_n, ↓evk_ap, ↓evm_ap, ↓evm_0, ↓jret_v, ↓jret_n, jget, jset, cond_true, cond_false, Nat.reduceBEq, jc1, List.take_succ_cons, List.take_zero, List.drop_succ_cons, List.drop_zero, List.reverse_cons, List.reverse_nil, List.nil_append, List.cons_append, List.length_cons, List.length_nil, Nat.zero_add, Nat.reduceAdd, beq_self_eq_true, true_and, and_true, Nat.reduceLeDiff, Nat.le_refl, Nat.zero_le, Bool.or_true, Bool.true_or, Bool.or_false, Bool.false_or, Bool.or_self]
    simp (disch := omega) only [Nat.reduceEqDiff, Prod.mk.injEq, Option.some.injEq, true_and, and_true, exists_eq_left', exists_eq_right, exists_and_left, exists_const, true_or, or_true, ne_eq, not_true_eq_false, not_false_eq_true, reduceCtorEq, false_and, and_false, if_true, if_false, forall_const, true_implies, false_implies, implies_true, qI_wI, qI_wP, qP_wI, qP_wP, qN_wI, qN_wP, and_self, nI_add, pk_mul, nI_clamp, vp_in_nI, ng_1, ng_10, nI_eq32, cs_0, cs_1, cs_2, cs_3, cs_4, cs_5, cs_6, cs_7, cs_8, cs_9, cs_10, cs_11, cs_12, cs_13, cs_14, cs_15, cs_16, cs_17, cs_18, cs_19, cs_20, cs_21, cs_22, cs_23, cs_24, cs_25, cs_26, cs_27, cs_28, cs_29, cs_30, cs_31, cs_32, cs_33, cs_34, cs_35, cs_36, cs_37, cs_38, cs_39, cs_40, cs_41, cs_42, cs_43, cs_44, cs_45, cs_46, cs_47, cs_48, cs_49, cs_50, cs_51, cs_52, cs_53, cs_54, cs_55, cs_56, cs_57, cs_58, cs_59, cs_60, cs_61, cs_62, cs_63, cs_64, cs_97, cs_100, cs_122, cs_200, cs_300, cs_448, cs_1000, al_11, al_12, al_13, al_14, al_15, al_16, al_17, al_18, al_19, al_20, al_21, al_22, al_23, al_24, al_25, al_26, al_27, al_28, al_29, al_30, al_31, al_32, al_33, al_34, al_35, al_36, al_37, al_38, al_39, al_40, al_41, al_42, al_43, al_44, al_45, al_46, al_47, h0, a2, hp, nI_leI, nI_ltI]
    repeat (first | exact hQ | (refine ⟨fun h9 => absurd h9 (by first | omega | assumption), fun _ => ?_⟩) | (refine ⟨fun _ => ?_, fun h9 => absurd (by first | omega | assumption) h9⟩))
  · rw [if_neg h1] at hQ
    refine ev_at hC (fun pc => false) 9 0 (ls := [some (oR 3 o), some (.inl x)]) ?_
    simp only [↓cb_X3_sortOn_0, ↓cb_X3_sortOn_30, ↓cb_X3_sortOn_31, ↓te_aldP, ↓te_alen, ↓te_aload, ↓te_aret, ↓te_getI, ↓te_getP, ↓te_goto, ↓te_icmp, ↓te_if, ↓te_iload, ↓te_null, ↓evb_c, ↓evb_n, ↓evk_ap, ↓evm_ap, ↓evm_0, ↓jret_v, ↓jret_n, jget, jset, cond_true, cond_false, Nat.reduceBEq, jc1, List.take_succ_cons, List.take_zero, List.drop_succ_cons, List.drop_zero, List.reverse_cons, List.reverse_nil, List.nil_append, List.cons_append, List.length_cons, List.length_nil, Nat.zero_add, Nat.reduceAdd, beq_self_eq_true, true_and, and_true, Nat.reduceLeDiff, Nat.le_refl, Nat.zero_le, Bool.or_true, Bool.true_or, Bool.or_false, Bool.false_or, Bool.or_self]
    simp (disch := omega) only [Nat.reduceEqDiff, Prod.mk.injEq, Option.some.injEq, true_and, and_true, exists_eq_left', exists_eq_right, exists_and_left, exists_const, true_or, or_true, ne_eq, not_true_eq_false, not_false_eq_true, reduceCtorEq, false_and, and_false, if_true, if_false, forall_const, true_implies, false_implies, implies_true, qI_wI, qI_wP, qP_wI, qP_wP, qN_wI, qN_wP, and_self, nI_add, pk_mul, nI_clamp, vp_in_nI, ng_1, ng_10, nI_eq32, cs_0, cs_1, cs_2, cs_3, cs_4, cs_5, cs_6, cs_7, cs_8, cs_9, cs_10, cs_11, cs_12, cs_13, cs_14, cs_15, cs_16, cs_17, cs_18, cs_19, cs_20, cs_21, cs_22, cs_23, cs_24, cs_25, cs_26, cs_27, cs_28, cs_29, cs_30, cs_31, cs_32, cs_33, cs_34, cs_35, cs_36, cs_37, cs_38, cs_39, cs_40, cs_41, cs_42, cs_43, cs_44, cs_45, cs_46, cs_47, cs_48, cs_49, cs_50, cs_51, cs_52, cs_53, cs_54, cs_55, cs_56, cs_57, cs_58, cs_59, cs_60, cs_61, cs_62, cs_63, cs_64, cs_97, cs_100, cs_122, cs_200, cs_300, cs_448, cs_1000, al_11, al_12, al_13, al_14, al_15, al_16, al_17, al_18, al_19, al_20, al_21, al_22, al_23, al_24, al_25, al_26, al_27, al_28, al_29, al_30, al_31, al_32, al_33, al_34, al_35, al_36, al_37, al_38, al_39, al_40, al_41, al_42, al_43, al_44, al_45, al_46, al_47, h0, a2]
    rcases out_lt (by omega) h1 with q | q
    · exact ⟨fun _ => hQ, fun z => absurd q z⟩
    · exact ⟨fun _ => hQ, fun _ => ⟨fun _ => hQ, fun z => absurd q z⟩⟩
theorem in_at {k n : Nat} (h : k < n) (hn : n < 2 ^ 31) : inR (nI k) 0 (nI n - nI 1) := by
  rw [pk_sub (by omega)]
  exact ⟨by rw [show (0 : Int32) = nI 0 from rfl, nI_leI (by omega) (by omega)]; omega, by rw [nI_leI (by omega) (by omega)]; omega⟩
theorem jn_nI {k : Nat} (h : k < 2 ^ 31) : jn (nI k) = k := nI_clamp h
set_option maxRecDepth 20000 in
set_option maxHeartbeats 20000000 in
theorem cc_lsort_in (G : jx_G) {M : jx_M} {S : jS} {o l k : Nat} {Q : jx_O → jx_M → Prop} (hM : CLm M S o l) (hk : k < S 35 l) (hQ : Q (rP 6 (some (S 36 (64 * l + k)))) M) : Mt G m_X3_sortOn [oR 3 o, vI k] M Q := by
  have h60 := hM.2.2.2.1
  refine cc_lsort G hM ?_
  unfold stP
  rw [if_pos (in_at hk (by omega)), jn_nI (by omega)]
  exact hQ
set_option maxRecDepth 20000 in
set_option maxHeartbeats 20000000 in
theorem cc_asked_in (G : jx_G) {M : jx_M} {S : jS} {o l k : Nat} {Q : jx_O → jx_M → Prop} (hM : CLm M S o l) (hk : k < S 35 l) (hQ : Q (rI (S 37 (64 * l + k) - 29 * S 34 l)) M) : Mt G m_X3_askedOn [oR 3 o, vI k] M Q := by
  refine Mt.of (sc_X3_askedOn G) (by decide +kernel) (jArgs.of rfl) (Nat.le_of_ble_eq_true rfl) (fun Wn hC => ?_)
  obtain ⟨⟨⟨a1, a2, a3, a4, a5⟩, b, c⟩, hA, ho, h60, h61⟩ := hM
  have h0 := (hA o ho).2.1
  have hp : ∀ k, k < S 35 l → qI M 17 o k = nI (S 37 (64 * l + k) - 29 * S 34 l) := fun k hk => (b k hk).2.1
  refine ev_at hC (fun pc => false) 9 0 (ls := [some (oR 3 o), some (vI k)]) ?_
  simp only [↓cb_X3_askedOn_0, ↓cb_X3_askedOn_30, ↓cb_X3_askedOn_31, ↓te_ald, ↓te_alen, ↓te_aload, ↓te_const, ↓te_getI, ↓te_getP, ↓te_goto, ↓te_icmp, ↓te_if, ↓te_iload, ↓te_iret, ↓evb_c, ↓evb_n, ↓evk_ap, ↓evm_ap, ↓evm_0, ↓jret_v, ↓jret_n, jget, jset, cond_true, cond_false, Nat.reduceBEq, jc1, List.take_succ_cons, List.take_zero, List.drop_succ_cons, List.drop_zero, List.reverse_cons, List.reverse_nil, List.nil_append, List.cons_append, List.length_cons, List.length_nil, Nat.zero_add, Nat.reduceAdd, beq_self_eq_true, true_and, and_true, Nat.reduceLeDiff, Nat.le_refl, Nat.zero_le, Bool.or_true, Bool.true_or, Bool.or_false, Bool.false_or, Bool.or_self]
  simp (disch := omega) only [Nat.reduceEqDiff, Prod.mk.injEq, Option.some.injEq, true_and, and_true, exists_eq_left', exists_eq_right, exists_and_left, exists_const, true_or, or_true, ne_eq, not_true_eq_false, not_false_eq_true, reduceCtorEq, false_and, and_false, if_true, if_false, forall_const, true_implies, false_implies, implies_true, qI_wI, qI_wP, qP_wI, qP_wP, qN_wI, qN_wP, and_self, nI_add, pk_mul, nI_clamp, vp_in_nI, ng_1, ng_10, nI_eq32, cs_0, cs_1, cs_2, cs_3, cs_4, cs_5, cs_6, cs_7, cs_8, cs_9, cs_10, cs_11, cs_12, cs_13, cs_14, cs_15, cs_16, cs_17, cs_18, cs_19, cs_20, cs_21, cs_22, cs_23, cs_24, cs_25, cs_26, cs_27, cs_28, cs_29, cs_30, cs_31, cs_32, cs_33, cs_34, cs_35, cs_36, cs_37, cs_38, cs_39, cs_40, cs_41, cs_42, cs_43, cs_44, cs_45, cs_46, cs_47, cs_48, cs_49, cs_50, cs_51, cs_52, cs_53, cs_54, cs_55, cs_56, cs_57, cs_58, cs_59, cs_60, cs_61, cs_62, cs_63, cs_64, cs_97, cs_100, cs_122, cs_200, cs_300, cs_448, cs_1000, al_11, al_12, al_13, al_14, al_15, al_16, al_17, al_18, al_19, al_20, al_21, al_22, al_23, al_24, al_25, al_26, al_27, al_28, al_29, al_30, al_31, al_32, al_33, al_34, al_35, al_36, al_37, al_38, al_39, al_40, al_41, al_42, al_43, al_44, al_45, al_46, al_47, h0, a2, hp, nI_leI, nI_ltI]
  repeat (first | exact hQ | (refine ⟨fun h9 => absurd h9 (by first | omega | assumption), fun _ => ?_⟩) | (refine ⟨fun _ => ?_, fun h9 => absurd (by first | omega | assumption) h9⟩))
/-- what the sorts' own numbers are -/
def COs (M : jx_M) (S : jS) (s : Nat) : Prop := qI M 6 s 0 = nI s ∧ qI M 6 s 1 = nI (S 25 s / 29) ∧ qI M 6 s 2 = nI (S 25 s % 29) ∧ qI M 6 s 3 = nI (S 26 s) ∧ qI M 6 s 4 = nI (S 28 s) ∧ qI M 6 s 5 = nI (S 27 s)
set_option maxRecDepth 20000 in
set_option maxHeartbeats 20000000 in
theorem cc_hasFace (G : jx_G) {M : jx_M} {S : jS} {s f b : Nat} {Q : jx_O → jx_M → Prop} (hM : COs M S s) (hF : S 25 s < 58) (hf : f < 2) (hb : b < 29) (hQ : Q (rI (jb (S 25 s = 29 * f + b))) M) : Mt G m_X6_hasFace [oR 6 s, vI f, vI b] M Q := by
  refine Mt.of (sc_X6_hasFace G) (by decide +kernel) (jArgs.of rfl) (Nat.le_of_ble_eq_true rfl) (fun Wn hC => ?_)
  obtain ⟨-, a1, a2, -⟩ := hM
  refine ev_at hC (fun pc => false) 9 0 (ls := [some (oR 6 s), some (vI f), some (vI b)]) ?_
  simp only [↓cb_X6_hasFace_0, ↓cb_X6_hasFace_20, ↓cb_X6_hasFace_21, ↓te_aload, ↓te_const, ↓te_getI, ↓te_goto, ↓te_icmp, ↓te_iload, ↓te_zret, ↓evb_c, ↓evb_n, ↓evk_ap, ↓evm_ap, ↓evm_0, ↓jret_v, ↓jret_n, jget, jset, cond_true, cond_false, Nat.reduceBEq, jc1, List.take_succ_cons, List.take_zero, List.drop_succ_cons, List.drop_zero, List.reverse_cons, List.reverse_nil, List.nil_append, List.cons_append, List.length_cons, List.length_nil, Nat.zero_add, Nat.reduceAdd, beq_self_eq_true, true_and, and_true, Nat.reduceLeDiff, Nat.le_refl, Nat.zero_le, Bool.or_true, Bool.true_or, Bool.or_false, Bool.false_or, Bool.or_self]
  simp (disch := omega) only [Nat.reduceEqDiff, Prod.mk.injEq, Option.some.injEq, true_and, and_true, exists_eq_left', exists_eq_right, exists_and_left, exists_const, true_or, or_true, ne_eq, not_true_eq_false, not_false_eq_true, reduceCtorEq, false_and, and_false, if_true, if_false, forall_const, true_implies, false_implies, implies_true, qI_wI, qI_wP, qP_wI, qP_wP, qN_wI, qN_wP, and_self, nI_add, pk_mul, nI_clamp, vp_in_nI, ng_1, ng_10, nI_eq32, cs_0, cs_1, cs_2, cs_3, cs_4, cs_5, cs_6, cs_7, cs_8, cs_9, cs_10, cs_11, cs_12, cs_13, cs_14, cs_15, cs_16, cs_17, cs_18, cs_19, cs_20, cs_21, cs_22, cs_23, cs_24, cs_25, cs_26, cs_27, cs_28, cs_29, cs_30, cs_31, cs_32, cs_33, cs_34, cs_35, cs_36, cs_37, cs_38, cs_39, cs_40, cs_41, cs_42, cs_43, cs_44, cs_45, cs_46, cs_47, cs_48, cs_49, cs_50, cs_51, cs_52, cs_53, cs_54, cs_55, cs_56, cs_57, cs_58, cs_59, cs_60, cs_61, cs_62, cs_63, cs_64, cs_97, cs_100, cs_122, cs_200, cs_300, cs_448, cs_1000, al_11, al_12, al_13, al_14, al_15, al_16, al_17, al_18, al_19, al_20, al_21, al_22, al_23, al_24, al_25, al_26, al_27, al_28, al_29, al_30, al_31, al_32, al_33, al_34, al_35, al_36, al_37, al_38, al_39, al_40, al_41, al_42, al_43, al_44, al_45, al_46, al_47, a1, a2]
  refine ⟨fun h => rbF hQ (fun q => h (by omega)), fun h => ⟨fun h2 => rbF hQ (fun q => h2 (by omega)), fun h2 => rbT hQ ?_⟩⟩
  have h3 : S 25 s / 29 = f := by first | exact h | exact Classical.not_not.mp h
  have h4 : S 25 s % 29 = b := by first | exact h2 | exact Classical.not_not.mp h2
  omega
theorem jx_wid_at {b : Nat} (hb : b < 29) : ∀ f, jx_wid.getD b 0 + nI f = nI (spFw (29 * f + b)) := fun f => by
  have h : ∀ b : Fin 29, jx_wid.getD b.val 0 = nI (spFw b.val) := by decide +kernel
  have h1 := h ⟨b, hb⟩
  simp only at h1
  rw [h1, nI_add]
  congr 1
  unfold spFw
  have e1 : (29 * f + b) % 29 = b := by omega
  have e2 : (29 * f + b) / 29 = f := by omega
  have e3 : b % 29 = b := by omega
  have e4 : b / 29 = 0 := by omega
  rw [e1, e2, e3, e4]
  omega
set_option maxRecDepth 20000 in
set_option maxHeartbeats 20000000 in
theorem cc_width (G : jx_G) {M : jx_M} {Q : jx_O → jx_M → Prop} {f b : Nat} (hb : b < 29) (hQ : Q (rI (spFw (29 * f + b))) M) : Mt G m_X9_widthOf [vI f, vI b] M Q := by
  refine Mt.of (sc_X9_widthOf G) (by decide +kernel) (jArgs.of rfl) (Nat.le_of_ble_eq_true rfl) (fun Wn hC => ?_)
  have hw := jx_wid_at hb f
  refine ev_at hC (fun pc => false) 9 0 (ls := [some (vI f), some (vI b)]) ?_
  simp only [↓cb_X9_widthOf_0, ↓cb_X9_widthOf_22, ↓cb_X9_widthOf_23, ↓te_bin, ↓te_const, ↓te_getst, ↓te_goto, ↓te_icmp, ↓te_if, ↓te_iload, ↓te_iret, ↓te_ldW, ↓te_lenW, ↓evb_c, ↓evb_n, ↓evk_ap, ↓evm_ap, ↓evm_0, ↓jret_v, ↓jret_n, jget, jset, cond_true, cond_false, Nat.reduceBEq, jc1, List.take_succ_cons, List.take_zero, List.drop_succ_cons, List.drop_zero, List.reverse_cons, List.reverse_nil, List.nil_append, List.cons_append, List.length_cons, List.length_nil, Nat.zero_add, Nat.reduceAdd, beq_self_eq_true, true_and, and_true, Nat.reduceLeDiff, Nat.le_refl, Nat.zero_le, Bool.or_true, Bool.true_or, Bool.or_false, Bool.false_or, Bool.or_self]
  simp (disch := omega) only [Nat.reduceEqDiff, Prod.mk.injEq, Option.some.injEq, true_and, and_true, exists_eq_left', exists_eq_right, exists_and_left, exists_const, true_or, or_true, ne_eq, not_true_eq_false, not_false_eq_true, reduceCtorEq, false_and, and_false, if_true, if_false, forall_const, true_implies, false_implies, implies_true, qI_wI, qI_wP, qP_wI, qP_wP, qN_wI, qN_wP, and_self, nI_add, pk_mul, nI_clamp, vp_in_nI, ng_1, ng_10, nI_eq32, cs_0, cs_1, cs_2, cs_3, cs_4, cs_5, cs_6, cs_7, cs_8, cs_9, cs_10, cs_11, cs_12, cs_13, cs_14, cs_15, cs_16, cs_17, cs_18, cs_19, cs_20, cs_21, cs_22, cs_23, cs_24, cs_25, cs_26, cs_27, cs_28, cs_29, cs_30, cs_31, cs_32, cs_33, cs_34, cs_35, cs_36, cs_37, cs_38, cs_39, cs_40, cs_41, cs_42, cs_43, cs_44, cs_45, cs_46, cs_47, cs_48, cs_49, cs_50, cs_51, cs_52, cs_53, cs_54, cs_55, cs_56, cs_57, cs_58, cs_59, cs_60, cs_61, cs_62, cs_63, cs_64, cs_97, cs_100, cs_122, cs_200, cs_300, cs_448, cs_1000, al_11, al_12, al_13, al_14, al_15, al_16, al_17, al_18, al_19, al_20, al_21, al_22, al_23, al_24, al_25, al_26, al_27, al_28, al_29, al_30, al_31, al_32, al_33, al_34, al_35, al_36, al_37, al_38, al_39, al_40, al_41, al_42, al_43, al_44, al_45, al_46, al_47, nI_leI, nI_ltI]
  have hg : jx_wid.getD b 0 + nI f = nI (spFw (29 * f + b)) := hw
  try simp only [hg]
  try simp only [hw]
  repeat (first | exact hQ | (refine ⟨fun h9 => absurd h9 (by first | omega | assumption), fun _ => ?_⟩) | (refine ⟨fun _ => ?_, fun h9 => absurd (by first | omega | assumption) h9⟩))
set_option maxRecDepth 20000 in
set_option maxHeartbeats 20000000 in
theorem cc_boxFor (G : jx_G) {M : jx_M} {Q : jx_O → jx_M → Prop} {c : Nat} (hc : c < 65536) (hQ : Q (rI (if c = 32 ∨ ¬ okc c then jNo else spBox c)) M) : Mt G m_X9_boxFor [vI c] M Q := by
  refine Mt.of (sc_X9_boxFor G) (by decide +kernel) (jArgs.of rfl) (Nat.le_of_ble_eq_true rfl) (fun Wn hC => ?_)
  by_cases h : 97 ≤ c ∧ c ≤ 122
  · rw [if_neg (by unfold okc; omega)] at hQ
    have e : spBox c = c - 97 := by unfold spBox; rw [if_neg (by omega), if_neg (by omega), if_neg (by omega)]
    rw [e] at hQ
    refine ev_at hC (fun pc => pc == 17) 9 0 (ls := [some (vI c)]) ?_
    simp only [↓cb_X9_boxFor_0, ↓cb_X9_boxFor_17, ↓cb_X9_boxFor_44, ↓cb_X9_boxFor_47, ↓cb_X9_boxFor_50, ↓cb_X9_boxFor_53, ↓te_bin, ↓te_const, ↓te_icmp, ↓te_iload, ↓te_iret, ↓te_tsw, ↓evb_c, ↓evb_n, ↓evk_ap, ↓evm_ap, ↓evm_0, ↓jret_v, ↓jret_n, jget, jset, cond_true, cond_false, Nat.reduceBEq, jc1, List.take_succ_cons, List.take_zero, List.drop_succ_cons, List.drop_zero, List.reverse_cons, List.reverse_nil, List.nil_append, List.cons_append, List.length_cons, List.length_nil, Nat.zero_add, Nat.reduceAdd, beq_self_eq_true, true_and, and_true, Nat.reduceLeDiff, Nat.le_refl, Nat.zero_le, Bool.or_true, Bool.true_or, Bool.or_false, Bool.false_or, Bool.or_self]
    simp (disch := omega) only [Nat.reduceEqDiff, Prod.mk.injEq, Option.some.injEq, true_and, and_true, exists_eq_left', exists_eq_right, exists_and_left, exists_const, true_or, or_true, ne_eq, not_true_eq_false, not_false_eq_true, reduceCtorEq, false_and, and_false, if_true, if_false, forall_const, true_implies, false_implies, implies_true, qI_wI, qI_wP, qP_wI, qP_wP, qN_wI, qN_wP, and_self, nI_add, pk_mul, nI_clamp, vp_in_nI, ng_1, ng_10, nI_eq32, cs_0, cs_1, cs_2, cs_3, cs_4, cs_5, cs_6, cs_7, cs_8, cs_9, cs_10, cs_11, cs_12, cs_13, cs_14, cs_15, cs_16, cs_17, cs_18, cs_19, cs_20, cs_21, cs_22, cs_23, cs_24, cs_25, cs_26, cs_27, cs_28, cs_29, cs_30, cs_31, cs_32, cs_33, cs_34, cs_35, cs_36, cs_37, cs_38, cs_39, cs_40, cs_41, cs_42, cs_43, cs_44, cs_45, cs_46, cs_47, cs_48, cs_49, cs_50, cs_51, cs_52, cs_53, cs_54, cs_55, cs_56, cs_57, cs_58, cs_59, cs_60, cs_61, cs_62, cs_63, cs_64, cs_97, cs_100, cs_122, cs_200, cs_300, cs_448, cs_1000, al_11, al_12, al_13, al_14, al_15, al_16, al_17, al_18, al_19, al_20, al_21, al_22, al_23, al_24, al_25, al_26, al_27, al_28, al_29, al_30, al_31, al_32, al_33, al_34, al_35, al_36, al_37, al_38, al_39, al_40, al_41, al_42, al_43, al_44, al_45, al_46, al_47, nI_ltI, pk_sub]
    repeat (first | exact hQ | (refine ⟨fun h9 => absurd h9 (by first | omega | assumption), fun _ => ?_⟩) | (refine ⟨fun _ => ?_, fun h9 => absurd (by first | omega | assumption) h9⟩))
  · have k17 : Wn 17 [some (vI c)] [] M 0 0 := by
      refine ev_at hC (fun pc => false) 9 17 (ls := [some (vI c)]) ?_
      simp only [↓cb_X9_boxFor_0, ↓cb_X9_boxFor_17, ↓cb_X9_boxFor_44, ↓cb_X9_boxFor_47, ↓cb_X9_boxFor_50, ↓cb_X9_boxFor_53, ↓te_bin, ↓te_const, ↓te_icmp, ↓te_iload, ↓te_iret, ↓te_tsw, ↓evb_c, ↓evb_n, ↓evk_ap, ↓evm_ap, ↓evm_0, ↓jret_v, ↓jret_n, jget, jset, cond_true, cond_false, Nat.reduceBEq, jc1, List.take_succ_cons, List.take_zero, List.drop_succ_cons, List.drop_zero, List.reverse_cons, List.reverse_nil, List.nil_append, List.cons_append, List.length_cons, List.length_nil, Nat.zero_add, Nat.reduceAdd, beq_self_eq_true, true_and, and_true, Nat.reduceLeDiff, Nat.le_refl, Nat.zero_le, Bool.or_true, Bool.true_or, Bool.or_false, Bool.false_or, Bool.or_self]
      simp (disch := omega) only [Nat.reduceEqDiff, Prod.mk.injEq, Option.some.injEq, true_and, and_true, exists_eq_left', exists_eq_right, exists_and_left, exists_const, true_or, or_true, ne_eq, not_true_eq_false, not_false_eq_true, reduceCtorEq, false_and, and_false, if_true, if_false, forall_const, true_implies, false_implies, implies_true, qI_wI, qI_wP, qP_wI, qP_wP, qN_wI, qN_wP, and_self, nI_add, pk_mul, nI_clamp, vp_in_nI, ng_1, ng_10, nI_eq32, cs_0, cs_1, cs_2, cs_3, cs_4, cs_5, cs_6, cs_7, cs_8, cs_9, cs_10, cs_11, cs_12, cs_13, cs_14, cs_15, cs_16, cs_17, cs_18, cs_19, cs_20, cs_21, cs_22, cs_23, cs_24, cs_25, cs_26, cs_27, cs_28, cs_29, cs_30, cs_31, cs_32, cs_33, cs_34, cs_35, cs_36, cs_37, cs_38, cs_39, cs_40, cs_41, cs_42, cs_43, cs_44, cs_45, cs_46, cs_47, cs_48, cs_49, cs_50, cs_51, cs_52, cs_53, cs_54, cs_55, cs_56, cs_57, cs_58, cs_59, cs_60, cs_61, cs_62, cs_63, cs_64, cs_97, cs_100, cs_122, cs_200, cs_300, cs_448, cs_1000, al_11, al_12, al_13, al_14, al_15, al_16, al_17, al_18, al_19, al_20, al_21, al_22, al_23, al_24, al_25, al_26, al_27, al_28, al_29, al_30, al_31, al_32, al_33, al_34, al_35, al_36, al_37, al_38, al_39, al_40, al_41, al_42, al_43, al_44, al_45, al_46, al_47, jsw, nI_toInt]
      refine ⟨fun h1 => ?_, fun h1 => ⟨fun h2 => ?_, fun h2 => ⟨fun h3 => ?_, fun h3 => ?_⟩⟩⟩
      · have e : c = 44 := by omega
        subst e
        exact hQ
      · have e : c = 45 := by omega
        subst e
        exact hQ
      · have e : c = 46 := by omega
        subst e
        exact hQ
      · rw [if_pos (by unfold okc; omega)] at hQ
        exact hQ
    refine ev_at hC (fun pc => pc == 17) 9 0 (ls := [some (vI c)]) ?_
    simp only [↓cb_X9_boxFor_0, ↓cb_X9_boxFor_17, ↓cb_X9_boxFor_44, ↓cb_X9_boxFor_47, ↓cb_X9_boxFor_50, ↓cb_X9_boxFor_53, ↓te_bin, ↓te_const, ↓te_icmp, ↓te_iload, ↓te_iret, ↓te_tsw, ↓evb_c, ↓evb_n, ↓evk_ap, ↓evm_ap, ↓evm_0, ↓jret_v, ↓jret_n, jget, jset, cond_true, cond_false, Nat.reduceBEq, jc1, List.take_succ_cons, List.take_zero, List.drop_succ_cons, List.drop_zero, List.reverse_cons, List.reverse_nil, List.nil_append, List.cons_append, List.length_cons, List.length_nil, Nat.zero_add, Nat.reduceAdd, beq_self_eq_true, true_and, and_true, Nat.reduceLeDiff, Nat.le_refl, Nat.zero_le, Bool.or_true, Bool.true_or, Bool.or_false, Bool.false_or, Bool.or_self]
    simp (disch := omega) only [Nat.reduceEqDiff, Prod.mk.injEq, Option.some.injEq, true_and, and_true, exists_eq_left', exists_eq_right, exists_and_left, exists_const, true_or, or_true, ne_eq, not_true_eq_false, not_false_eq_true, reduceCtorEq, false_and, and_false, if_true, if_false, forall_const, true_implies, false_implies, implies_true, qI_wI, qI_wP, qP_wI, qP_wP, qN_wI, qN_wP, and_self, nI_add, pk_mul, nI_clamp, vp_in_nI, ng_1, ng_10, nI_eq32, cs_0, cs_1, cs_2, cs_3, cs_4, cs_5, cs_6, cs_7, cs_8, cs_9, cs_10, cs_11, cs_12, cs_13, cs_14, cs_15, cs_16, cs_17, cs_18, cs_19, cs_20, cs_21, cs_22, cs_23, cs_24, cs_25, cs_26, cs_27, cs_28, cs_29, cs_30, cs_31, cs_32, cs_33, cs_34, cs_35, cs_36, cs_37, cs_38, cs_39, cs_40, cs_41, cs_42, cs_43, cs_44, cs_45, cs_46, cs_47, cs_48, cs_49, cs_50, cs_51, cs_52, cs_53, cs_54, cs_55, cs_56, cs_57, cs_58, cs_59, cs_60, cs_61, cs_62, cs_63, cs_64, cs_97, cs_100, cs_122, cs_200, cs_300, cs_448, cs_1000, al_11, al_12, al_13, al_14, al_15, al_16, al_17, al_18, al_19, al_20, al_21, al_22, al_23, al_24, al_25, al_26, al_27, al_28, al_29, al_30, al_31, al_32, al_33, al_34, al_35, al_36, al_37, al_38, al_39, al_40, al_41, al_42, al_43, al_44, al_45, al_46, al_47, nI_ltI]
    refine ⟨fun _ => k17, fun h1 => ⟨fun _ => k17, fun h2 => absurd (by omega) h⟩⟩
