/-! THE REFERENCE: what only reads -/
theorem nI_rem (a d : Nat) : nI a - nI (a / d * d) = nI (a % d) := by
  rw [pk_sub (Nat.div_mul_le_self a d)]
  congr 1
  have := Nat.div_add_mod a d
  rw [Nat.mul_comm] at this
  omega
abbrev okc (c : Nat) : Prop := c = 32 ∨ c = 44 ∨ c = 45 ∨ c = 46 ∨ (97 ≤ c ∧ c ≤ 122)
theorem okc.lt {c : Nat} (h : okc c) : c < 128 := by unfold okc at h; omega
theorem okc.box {c : Nat} (h : okc c) (h2 : ¬ c = 32) : spBox c < 29 := by by_cases h3 : c = 46 <;> by_cases h4 : c = 44 <;> by_cases h5 : c = 45 <;> simp [spBox, h3, h4, h5] <;> unfold okc at h <;> omega
def TXT (S : jS) : Prop := S 10 12 ≤ 60 ∧ (∀ k, S 33 k < 65536) ∧ ∀ k, k < S 10 12 → okc (S 33 k)
theorem spFw_le {f : Nat} (h : f < 58) : spFw f ≤ 7 := by
  unfold spFw
  have : f / 29 ≤ 1 := by omega
  by_cases h1 : f % 29 = 8 ∨ f % 29 = 9 ∨ f % 29 = 11 ∨ 25 < f % 29
  · rw [if_pos h1]; omega
  · rw [if_neg h1]
    by_cases h2 : f % 29 = 17 ∨ f % 29 = 18 ∨ f % 29 = 19 ∨ f % 29 = 5
    · rw [if_pos h2]; omega
    · rw [if_neg h2]
      by_cases h3 : f % 29 = 12 ∨ f % 29 = 22
      · rw [if_pos h3]; omega
      · rw [if_neg h3]; omega
theorem spFw_ge {f : Nat} : 2 ≤ spFw f := by
  unfold spFw
  by_cases h1 : f % 29 = 8 ∨ f % 29 = 9 ∨ f % 29 = 11 ∨ 25 < f % 29
  · rw [if_pos h1]; omega
  · rw [if_neg h1]
    by_cases h2 : f % 29 = 17 ∨ f % 29 = 18 ∨ f % 29 = 19 ∨ f % 29 = 5
    · rw [if_pos h2]; omega
    · rw [if_neg h2]
      by_cases h3 : f % 29 = 12 ∨ f % 29 = 22
      · rw [if_pos h3]; omega
      · rw [if_neg h3]; omega
theorem sumr_le {f : Nat → Nat} {a B : Nat} : ∀ (d : Nat), (∀ k, a ≤ k → k < a + d → f k ≤ B) → sumr f a d ≤ B * d
  | 0, _ => Nat.le_refl _
  | d + 1, h => by
    have h1 := sumr_le d (fun k h1 h2 => h k h1 (by omega))
    have h2 := h (a + d) (by omega) (by omega)
    show sumr f a d + f (a + d) ≤ B * (d + 1)
    rw [Nat.mul_add]
    omega
theorem sumr_congr {f g : Nat → Nat} {a : Nat} : ∀ (d : Nat), (∀ k, a ≤ k → k < a + d → f k = g k) → sumr f a d = sumr g a d
  | 0, _ => rfl
  | d + 1, h => by
    show sumr f a d + f (a + d) = sumr g a d + g (a + d)
    rw [sumr_congr d (fun k h1 h2 => h k h1 (by omega)), h (a + d) (by omega) (by omega)]
set_option maxRecDepth 20000 in
set_option maxHeartbeats 20000000 in
theorem mm_signOf (G : jx_G) {M : jx_M} {Q : jx_O → jx_M → Prop} {f : Nat} (hf : f < 58) (hQ : Q (rI (spSign f)) M) : Mt G m_X10_signOf [vI f] M Q := by
  refine Mt.of (sc_X10_signOf G) (by decide +kernel) (jArgs.of rfl) (Nat.le_of_ble_eq_true rfl) (fun Wn hC => ?_)
  refine ev_at hC (fun pc => false) 9 0 (ls := [some (vI f), none]) ?_
  simp only [↓cb_X10_signOf_0, ↓cb_X10_signOf_16, ↓cb_X10_signOf_27, ↓cb_X10_signOf_38, ↓cb_X10_signOf_43, ↓te_bin, ↓te_const, ↓te_cret, ↓te_goto, ↓te_i2c, ↓te_icmp, ↓te_iload, ↓te_istore, ↓te_rem, ↓evb_c, ↓evb_n, ↓evk_ap, ↓evm_ap, ↓evm_0, ↓jret_v, ↓jret_n, jget, jset, cond_true, cond_false, Nat.reduceBEq, jc1, List.take_succ_cons, List.take_zero, List.drop_succ_cons, List.drop_zero, List.reverse_cons, List.reverse_nil, List.nil_append, List.cons_append, List.length_cons, List.length_nil, Nat.zero_add, Nat.reduceAdd, beq_self_eq_true, true_and, and_true, Nat.reduceLeDiff, Nat.le_refl, Nat.zero_le, Bool.or_true, Bool.true_or, Bool.or_false, Bool.false_or, Bool.or_self]
  simp (disch := omega) only [Nat.reduceEqDiff, Prod.mk.injEq, Option.some.injEq, true_and, and_true, exists_eq_left', exists_eq_right, exists_and_left, exists_const, true_or, or_true, ne_eq, not_true_eq_false, not_false_eq_true, reduceCtorEq, false_and, and_false, if_true, if_false, forall_const, true_implies, false_implies, implies_true, qI_wI, qI_wP, qP_wI, qP_wP, qN_wI, qN_wP, and_self, nI_add, pk_mul, nI_clamp, vp_in_nI, ng_1, ng_10, nI_eq32, cs_0, cs_1, cs_2, cs_3, cs_4, cs_5, cs_6, cs_7, cs_8, cs_9, cs_10, cs_11, cs_12, cs_13, cs_14, cs_15, cs_16, cs_17, cs_18, cs_19, cs_20, cs_21, cs_22, cs_23, cs_24, cs_25, cs_26, cs_27, cs_28, cs_29, cs_30, cs_31, cs_32, cs_33, cs_34, cs_35, cs_36, cs_37, cs_38, cs_39, cs_40, cs_41, cs_42, cs_43, cs_44, cs_45, cs_46, cs_47, cs_48, cs_49, cs_50, cs_51, cs_52, cs_53, cs_54, cs_55, cs_56, cs_57, cs_58, cs_59, cs_60, cs_61, cs_62, cs_63, cs_64, cs_97, cs_100, cs_122, cs_200, cs_300, cs_448, cs_1000, al_11, al_12, al_13, al_14, al_15, al_16, al_17, al_18, al_19, al_20, al_21, al_22, al_23, al_24, al_25, al_26, al_27, al_28, al_29, al_30, al_31, al_32, al_33, al_34, al_35, al_36, al_37, al_38, al_39, al_40, al_41, al_42, al_43, al_44, al_45, al_46, al_47, pk_div, nI_rem, pk_char, pk_tn]
  unfold spSign at hQ
  have h9 : f % 29 < 29 := Nat.mod_lt _ (by omega)
  by_cases h1 : f % 29 = 26
  · rw [if_pos h1] at hQ
    simpa [h1] using hQ
  · rw [if_neg h1] at hQ
    by_cases h2 : f % 29 = 27
    · rw [if_pos h2] at hQ
      simpa [h2] using hQ
    · rw [if_neg h2] at hQ
      by_cases h3 : f % 29 = 28
      · rw [if_pos h3] at hQ
        simpa [h3] using hQ
      · rw [if_neg h3] at hQ
        rw [← Nat.mod_eq_of_lt (show 97 + f % 29 < 65536 by omega)] at hQ
        simpa [h1, h2, h3] using hQ
set_option maxRecDepth 20000 in
set_option maxHeartbeats 20000000 in
theorem mm_widthOf (G : jx_G) {M : jx_M} {Q : jx_O → jx_M → Prop} {f : Nat} (hf : f < 58) (hQ : Q (rI (spFw f)) M) : Mt G m_X10_widthOf [vI f] M Q := by
  refine Mt.of (sc_X10_widthOf G) (by decide +kernel) (jArgs.of rfl) (Nat.le_of_ble_eq_true rfl) (fun Wn hC => ?_)
  have k110 : ∀ (x : Nat) (a b c d : Option jx_V), spFw f = x + f / 29 → Wn 110 [some (vI f), a, b, c, d] [vI x] M 0 0 := by
    intro x a b c d h
    rw [h] at hQ
    refine ev_at hC (fun pc => false) 3 110 (ls := [some (vI f), a, b, c, d]) ?_
    try simp only [↓cb_X10_widthOf_0, ↓cb_X10_widthOf_29, ↓cb_X10_widthOf_33, ↓cb_X10_widthOf_34, ↓cb_X10_widthOf_58, ↓cb_X10_widthOf_62, ↓cb_X10_widthOf_63, ↓cb_X10_widthOf_76, ↓cb_X10_widthOf_80, ↓cb_X10_widthOf_81, ↓cb_X10_widthOf_91, ↓cb_X10_widthOf_99, ↓cb_X10_widthOf_109, ↓cb_X10_widthOf_110, ↓te_bin, ↓te_const, ↓te_div, ↓te_goto, ↓te_icmp, ↓te_if, ↓te_iload, ↓te_iret, ↓te_istore, ↓te_rem, ↓evb_c, ↓evb_n, ↓evk_ap, ↓evm_ap, ↓evm_0, ↓jret_v, ↓jret_n, jget, jset, cond_true, cond_false, Nat.reduceBEq, jc1, List.take_succ_cons, List.take_zero, List.drop_succ_cons, List.drop_zero, List.reverse_cons, List.reverse_nil, List.nil_append, List.cons_append, List.length_cons, List.length_nil, Nat.zero_add, Nat.reduceAdd, beq_self_eq_true, true_and, and_true, Nat.reduceLeDiff, Nat.le_refl, Nat.zero_le, Bool.or_true, Bool.true_or, Bool.or_false, Bool.false_or, Bool.or_self]
    try simp (disch := omega) only [Nat.reduceEqDiff, Prod.mk.injEq, Option.some.injEq, true_and, and_true, exists_eq_left', exists_eq_right, exists_and_left, exists_const, true_or, or_true, ne_eq, not_true_eq_false, not_false_eq_true, reduceCtorEq, false_and, and_false, if_true, if_false, forall_const, true_implies, false_implies, implies_true, qI_wI, qI_wP, qP_wI, qP_wP, qN_wI, qN_wP, and_self, nI_add, pk_mul, nI_clamp, vp_in_nI, ng_1, ng_10, nI_eq32, cs_0, cs_1, cs_2, cs_3, cs_4, cs_5, cs_6, cs_7, cs_8, cs_9, cs_10, cs_11, cs_12, cs_13, cs_14, cs_15, cs_16, cs_17, cs_18, cs_19, cs_20, cs_21, cs_22, cs_23, cs_24, cs_25, cs_26, cs_27, cs_28, cs_29, cs_30, cs_31, cs_32, cs_33, cs_34, cs_35, cs_36, cs_37, cs_38, cs_39, cs_40, cs_41, cs_42, cs_43, cs_44, cs_45, cs_46, cs_47, cs_48, cs_49, cs_50, cs_51, cs_52, cs_53, cs_54, cs_55, cs_56, cs_57, cs_58, cs_59, cs_60, cs_61, cs_62, cs_63, cs_64, cs_97, cs_100, cs_122, cs_200, cs_300, cs_448, cs_1000, al_11, al_12, al_13, al_14, al_15, al_16, al_17, al_18, al_19, al_20, al_21, al_22, al_23, al_24, al_25, al_26, al_27, al_28, al_29, al_30, al_31, al_32, al_33, al_34, al_35, al_36, al_37, al_38, al_39, al_40, al_41, al_42, al_43, al_44, al_45, al_46, al_47, pk_div, nI_rem]
    exact hQ
  have k81 : ∀ (t n w : Nat) (a d : Option jx_V), t = jb (f % 29 = 8 ∨ f % 29 = 9 ∨ f % 29 = 11 ∨ 25 < f % 29) → n = jb (f % 29 = 17 ∨ f % 29 = 18 ∨ f % 29 = 19 ∨ f % 29 = 5) → w = jb (f % 29 = 12 ∨ f % 29 = 22) → Wn 81 [some (vI f), a, some (vI t), some (vI n), d] [vI w] M 0 0 := by
    intro t n w a d ht hn hw
    refine ev_at hC (fun pc => pc == 110) 9 81 (ls := [some (vI f), a, some (vI t), some (vI n), d]) ?_
    try simp only [↓cb_X10_widthOf_0, ↓cb_X10_widthOf_29, ↓cb_X10_widthOf_33, ↓cb_X10_widthOf_34, ↓cb_X10_widthOf_58, ↓cb_X10_widthOf_62, ↓cb_X10_widthOf_63, ↓cb_X10_widthOf_76, ↓cb_X10_widthOf_80, ↓cb_X10_widthOf_81, ↓cb_X10_widthOf_91, ↓cb_X10_widthOf_99, ↓cb_X10_widthOf_109, ↓cb_X10_widthOf_110, ↓te_bin, ↓te_const, ↓te_div, ↓te_goto, ↓te_icmp, ↓te_if, ↓te_iload, ↓te_iret, ↓te_istore, ↓te_rem, ↓evb_c, ↓evb_n, ↓evk_ap, ↓evm_ap, ↓evm_0, ↓jret_v, ↓jret_n, jget, jset, cond_true, cond_false, Nat.reduceBEq, jc1, List.take_succ_cons, List.take_zero, List.drop_succ_cons, List.drop_zero, List.reverse_cons, List.reverse_nil, List.nil_append, List.cons_append, List.length_cons, List.length_nil, Nat.zero_add, Nat.reduceAdd, beq_self_eq_true, true_and, and_true, Nat.reduceLeDiff, Nat.le_refl, Nat.zero_le, Bool.or_true, Bool.true_or, Bool.or_false, Bool.false_or, Bool.or_self]
    subst ht hn hw
    simp only [cs_0, jb_0]
    refine ⟨fun h1 => ⟨fun h2 => ⟨fun h3 => k110 4 _ _ _ _ ?_, fun h3 => k110 6 _ _ _ _ ?_⟩, fun h2 => k110 3 _ _ _ _ ?_⟩, fun h1 => k110 2 _ _ _ _ ?_⟩
    · unfold spFw; rw [if_neg h1, if_neg h2, if_neg h3]
    · unfold spFw; rw [if_neg h1, if_neg h2, if_pos (Classical.not_not.mp h3)]
    · unfold spFw; rw [if_neg h1, if_pos (Classical.not_not.mp h2)]
    · unfold spFw; rw [if_pos (Classical.not_not.mp h1)]
  have k63 : ∀ (t n : Nat) (c d : Option jx_V), t = jb (f % 29 = 8 ∨ f % 29 = 9 ∨ f % 29 = 11 ∨ 25 < f % 29) → n = jb (f % 29 = 17 ∨ f % 29 = 18 ∨ f % 29 = 19 ∨ f % 29 = 5) → Wn 63 [some (vI f), some (vI (f % 29)), some (vI t), c, d] [vI n] M 0 0 := by
    intro t n c d ht hn
    refine ev_at hC (fun pc => pc == 81) 9 63 (ls := [some (vI f), some (vI (f % 29)), some (vI t), c, d]) ?_
    try simp only [↓cb_X10_widthOf_0, ↓cb_X10_widthOf_29, ↓cb_X10_widthOf_33, ↓cb_X10_widthOf_34, ↓cb_X10_widthOf_58, ↓cb_X10_widthOf_62, ↓cb_X10_widthOf_63, ↓cb_X10_widthOf_76, ↓cb_X10_widthOf_80, ↓cb_X10_widthOf_81, ↓cb_X10_widthOf_91, ↓cb_X10_widthOf_99, ↓cb_X10_widthOf_109, ↓cb_X10_widthOf_110, ↓te_bin, ↓te_const, ↓te_div, ↓te_goto, ↓te_icmp, ↓te_if, ↓te_iload, ↓te_iret, ↓te_istore, ↓te_rem, ↓evb_c, ↓evb_n, ↓evk_ap, ↓evm_ap, ↓evm_0, ↓jret_v, ↓jret_n, jget, jset, cond_true, cond_false, Nat.reduceBEq, jc1, List.take_succ_cons, List.take_zero, List.drop_succ_cons, List.drop_zero, List.reverse_cons, List.reverse_nil, List.nil_append, List.cons_append, List.length_cons, List.length_nil, Nat.zero_add, Nat.reduceAdd, beq_self_eq_true, true_and, and_true, Nat.reduceLeDiff, Nat.le_refl, Nat.zero_le, Bool.or_true, Bool.true_or, Bool.or_false, Bool.false_or, Bool.or_self]
    try simp (disch := omega) only [Nat.reduceEqDiff, Prod.mk.injEq, Option.some.injEq, true_and, and_true, exists_eq_left', exists_eq_right, exists_and_left, exists_const, true_or, or_true, ne_eq, not_true_eq_false, not_false_eq_true, reduceCtorEq, false_and, and_false, if_true, if_false, forall_const, true_implies, false_implies, implies_true, qI_wI, qI_wP, qP_wI, qP_wP, qN_wI, qN_wP, and_self, nI_add, pk_mul, nI_clamp, vp_in_nI, ng_1, ng_10, nI_eq32, cs_0, cs_1, cs_2, cs_3, cs_4, cs_5, cs_6, cs_7, cs_8, cs_9, cs_10, cs_11, cs_12, cs_13, cs_14, cs_15, cs_16, cs_17, cs_18, cs_19, cs_20, cs_21, cs_22, cs_23, cs_24, cs_25, cs_26, cs_27, cs_28, cs_29, cs_30, cs_31, cs_32, cs_33, cs_34, cs_35, cs_36, cs_37, cs_38, cs_39, cs_40, cs_41, cs_42, cs_43, cs_44, cs_45, cs_46, cs_47, cs_48, cs_49, cs_50, cs_51, cs_52, cs_53, cs_54, cs_55, cs_56, cs_57, cs_58, cs_59, cs_60, cs_61, cs_62, cs_63, cs_64, cs_97, cs_100, cs_122, cs_200, cs_300, cs_448, cs_1000, al_11, al_12, al_13, al_14, al_15, al_16, al_17, al_18, al_19, al_20, al_21, al_22, al_23, al_24, al_25, al_26, al_27, al_28, al_29, al_30, al_31, al_32, al_33, al_34, al_35, al_36, al_37, al_38, al_39, al_40, al_41, al_42, al_43, al_44, al_45, al_46, al_47]
    refine ⟨fun h => k81 t n 1 _ _ ht hn (jb_t (Or.inl h)).symm, fun h => ⟨fun h2 => k81 t n 0 _ _ ht hn (jb_f (fun q => q.elim h h2)).symm, fun h2 => k81 t n 1 _ _ ht hn (jb_t (Or.inr (Classical.not_not.mp h2))).symm⟩⟩
  have k34 : ∀ (t : Nat) (b c d : Option jx_V), t = jb (f % 29 = 8 ∨ f % 29 = 9 ∨ f % 29 = 11 ∨ 25 < f % 29) → Wn 34 [some (vI f), some (vI (f % 29)), b, c, d] [vI t] M 0 0 := by
    intro t b c d ht
    refine ev_at hC (fun pc => pc == 63) 9 34 (ls := [some (vI f), some (vI (f % 29)), b, c, d]) ?_
    try simp only [↓cb_X10_widthOf_0, ↓cb_X10_widthOf_29, ↓cb_X10_widthOf_33, ↓cb_X10_widthOf_34, ↓cb_X10_widthOf_58, ↓cb_X10_widthOf_62, ↓cb_X10_widthOf_63, ↓cb_X10_widthOf_76, ↓cb_X10_widthOf_80, ↓cb_X10_widthOf_81, ↓cb_X10_widthOf_91, ↓cb_X10_widthOf_99, ↓cb_X10_widthOf_109, ↓cb_X10_widthOf_110, ↓te_bin, ↓te_const, ↓te_div, ↓te_goto, ↓te_icmp, ↓te_if, ↓te_iload, ↓te_iret, ↓te_istore, ↓te_rem, ↓evb_c, ↓evb_n, ↓evk_ap, ↓evm_ap, ↓evm_0, ↓jret_v, ↓jret_n, jget, jset, cond_true, cond_false, Nat.reduceBEq, jc1, List.take_succ_cons, List.take_zero, List.drop_succ_cons, List.drop_zero, List.reverse_cons, List.reverse_nil, List.nil_append, List.cons_append, List.length_cons, List.length_nil, Nat.zero_add, Nat.reduceAdd, beq_self_eq_true, true_and, and_true, Nat.reduceLeDiff, Nat.le_refl, Nat.zero_le, Bool.or_true, Bool.true_or, Bool.or_false, Bool.false_or, Bool.or_self]
    try simp (disch := omega) only [Nat.reduceEqDiff, Prod.mk.injEq, Option.some.injEq, true_and, and_true, exists_eq_left', exists_eq_right, exists_and_left, exists_const, true_or, or_true, ne_eq, not_true_eq_false, not_false_eq_true, reduceCtorEq, false_and, and_false, if_true, if_false, forall_const, true_implies, false_implies, implies_true, qI_wI, qI_wP, qP_wI, qP_wP, qN_wI, qN_wP, and_self, nI_add, pk_mul, nI_clamp, vp_in_nI, ng_1, ng_10, nI_eq32, cs_0, cs_1, cs_2, cs_3, cs_4, cs_5, cs_6, cs_7, cs_8, cs_9, cs_10, cs_11, cs_12, cs_13, cs_14, cs_15, cs_16, cs_17, cs_18, cs_19, cs_20, cs_21, cs_22, cs_23, cs_24, cs_25, cs_26, cs_27, cs_28, cs_29, cs_30, cs_31, cs_32, cs_33, cs_34, cs_35, cs_36, cs_37, cs_38, cs_39, cs_40, cs_41, cs_42, cs_43, cs_44, cs_45, cs_46, cs_47, cs_48, cs_49, cs_50, cs_51, cs_52, cs_53, cs_54, cs_55, cs_56, cs_57, cs_58, cs_59, cs_60, cs_61, cs_62, cs_63, cs_64, cs_97, cs_100, cs_122, cs_200, cs_300, cs_448, cs_1000, al_11, al_12, al_13, al_14, al_15, al_16, al_17, al_18, al_19, al_20, al_21, al_22, al_23, al_24, al_25, al_26, al_27, al_28, al_29, al_30, al_31, al_32, al_33, al_34, al_35, al_36, al_37, al_38, al_39, al_40, al_41, al_42, al_43, al_44, al_45, al_46, al_47]
    subst ht
    refine ⟨fun h => k63 _ 1 _ _ rfl (jb_t (by omega)).symm, fun h => ⟨fun h2 => k63 _ 1 _ _ rfl (jb_t (by omega)).symm, fun h2 => ⟨fun h3 => k63 _ 1 _ _ rfl (jb_t (by omega)).symm, fun h3 => ⟨fun h4 => k63 _ 0 _ _ rfl (jb_f (by omega)).symm, fun h4 => k63 _ 1 _ _ rfl (jb_t (by omega)).symm⟩⟩⟩⟩
  refine ev_at hC (fun pc => pc == 34) 9 0 (ls := [some (vI f), none, none, none, none]) ?_
  simp only [↓cb_X10_widthOf_0, ↓cb_X10_widthOf_29, ↓cb_X10_widthOf_33, ↓cb_X10_widthOf_34, ↓cb_X10_widthOf_58, ↓cb_X10_widthOf_62, ↓cb_X10_widthOf_63, ↓cb_X10_widthOf_76, ↓cb_X10_widthOf_80, ↓cb_X10_widthOf_81, ↓cb_X10_widthOf_91, ↓cb_X10_widthOf_99, ↓cb_X10_widthOf_109, ↓cb_X10_widthOf_110, ↓te_bin, ↓te_const, ↓te_div, ↓te_goto, ↓te_icmp, ↓te_if, ↓te_iload, ↓te_iret, ↓te_istore, ↓te_rem, ↓evb_c, ↓evb_n, ↓evk_ap, ↓evm_ap, ↓evm_0, ↓jret_v, ↓jret_n, jget, jset, cond_true, cond_false, Nat.reduceBEq, jc1, List.take_succ_cons, List.take_zero, List.drop_succ_cons, List.drop_zero, List.reverse_cons, List.reverse_nil, List.nil_append, List.cons_append, List.length_cons, List.length_nil, Nat.zero_add, Nat.reduceAdd, beq_self_eq_true, true_and, and_true, Nat.reduceLeDiff, Nat.le_refl, Nat.zero_le, Bool.or_true, Bool.true_or, Bool.or_false, Bool.false_or, Bool.or_self]
  simp (disch := omega) only [Nat.reduceEqDiff, Prod.mk.injEq, Option.some.injEq, true_and, and_true, exists_eq_left', exists_eq_right, exists_and_left, exists_const, true_or, or_true, ne_eq, not_true_eq_false, not_false_eq_true, reduceCtorEq, false_and, and_false, if_true, if_false, forall_const, true_implies, false_implies, implies_true, qI_wI, qI_wP, qP_wI, qP_wP, qN_wI, qN_wP, and_self, nI_add, pk_mul, nI_clamp, vp_in_nI, ng_1, ng_10, nI_eq32, cs_0, cs_1, cs_2, cs_3, cs_4, cs_5, cs_6, cs_7, cs_8, cs_9, cs_10, cs_11, cs_12, cs_13, cs_14, cs_15, cs_16, cs_17, cs_18, cs_19, cs_20, cs_21, cs_22, cs_23, cs_24, cs_25, cs_26, cs_27, cs_28, cs_29, cs_30, cs_31, cs_32, cs_33, cs_34, cs_35, cs_36, cs_37, cs_38, cs_39, cs_40, cs_41, cs_42, cs_43, cs_44, cs_45, cs_46, cs_47, cs_48, cs_49, cs_50, cs_51, cs_52, cs_53, cs_54, cs_55, cs_56, cs_57, cs_58, cs_59, cs_60, cs_61, cs_62, cs_63, cs_64, cs_97, cs_100, cs_122, cs_200, cs_300, cs_448, cs_1000, al_11, al_12, al_13, al_14, al_15, al_16, al_17, al_18, al_19, al_20, al_21, al_22, al_23, al_24, al_25, al_26, al_27, al_28, al_29, al_30, al_31, al_32, al_33, al_34, al_35, al_36, al_37, al_38, al_39, al_40, al_41, al_42, al_43, al_44, al_45, al_46, al_47, pk_div, nI_rem, nI_leI]
  have h9 : f % 29 < 29 := Nat.mod_lt _ (by omega)
  refine ⟨fun h => k34 1 _ _ _ (jb_t (by omega)).symm, fun h => ⟨fun h2 => k34 1 _ _ _ (jb_t (by omega)).symm, fun h2 => ⟨fun h3 => k34 1 _ _ _ (jb_t (by omega)).symm, fun h3 => ⟨fun h4 => k34 0 _ _ _ (jb_f (by omega)).symm, fun h4 => k34 1 _ _ _ (jb_t (by omega)).symm⟩⟩⟩⟩
set_option maxRecDepth 20000 in
set_option maxHeartbeats 20000000 in
theorem mm_behindWord (G : jx_G) {M0 M : jx_M} {S : jS} {Q : jx_O → jx_M → Prop} {k0 : Nat} (hk0 : k0 ≤ 60) (hn : S 10 12 ≤ 60) (ht : ∀ k, S 33 k < 65536) (hM : RF M0 M S) (hQ : Q (rI (spWord S k0)) M) : Mt G m_X10_behindWord [vm, vI k0] M Q := by
  refine Mt.of (sc_X10_behindWord G) (by decide +kernel) (jArgs.of rfl) (Nat.le_of_ble_eq_true rfl) (fun Wn hC => ?_)
  obtain ⟨p2, p3, p4, p5, p6, p7, p8, p10, p11, p15, p16, p17, p18, p19, p20, p21, p22, p23, p25, p26, p27, p32⟩ := hM.1.1
  obtain ⟨f10, f25, f26, f27, f28, f29, f30, f31, f32, f33, f34, f35, f36, f37, f38, f39, f40, f41, f42, f43, f44, f45, f46⟩ := hM.fs
  have key : ∀ (d k : Nat), k ≤ 60 → S 10 12 - k ≤ d → Q (rI (spWord S k)) M → Wn 2 [some vm, some (vI k0), some (vI k)] [] M 0 0 := by
    intro d
    induction d with
    | zero =>
      intro k hk h1 h2
      refine ev_at hC (fun pc => pc == 2) 9 2 (ls := [some (vm), some (vI k0), some (vI k)]) ?_
      simp only [↓cb_X10_behindWord_0, ↓cb_X10_behindWord_2, ↓cb_X10_behindWord_27, ↓te_ald, ↓te_aload, ↓te_const, ↓te_getI, ↓te_getP, ↓te_goto, ↓te_icmp, ↓te_iinc, ↓te_iload, ↓te_iret, ↓te_istore, ↓evb_c, ↓evb_n, ↓evk_ap, ↓evm_ap, ↓evm_0, ↓jret_v, ↓jret_n, jget, jset, cond_true, cond_false, Nat.reduceBEq, jc1, List.take_succ_cons, List.take_zero, List.drop_succ_cons, List.drop_zero, List.reverse_cons, List.reverse_nil, List.nil_append, List.cons_append, List.length_cons, List.length_nil, Nat.zero_add, Nat.reduceAdd, beq_self_eq_true, true_and, and_true, Nat.reduceLeDiff, Nat.le_refl, Nat.zero_le, Bool.or_true, Bool.true_or, Bool.or_false, Bool.false_or, Bool.or_self]
      simp (disch := omega) only [Nat.reduceEqDiff, Prod.mk.injEq, Option.some.injEq, true_and, and_true, exists_eq_left', exists_eq_right, exists_and_left, exists_const, true_or, or_true, ne_eq, not_true_eq_false, not_false_eq_true, reduceCtorEq, false_and, and_false, if_true, if_false, forall_const, true_implies, false_implies, implies_true, qI_wI, qI_wP, qP_wI, qP_wP, qN_wI, qN_wP, and_self, nI_add, pk_mul, nI_clamp, vp_in_nI, ng_1, ng_10, nI_eq32, cs_0, cs_1, cs_2, cs_3, cs_4, cs_5, cs_6, cs_7, cs_8, cs_9, cs_10, cs_11, cs_12, cs_13, cs_14, cs_15, cs_16, cs_17, cs_18, cs_19, cs_20, cs_21, cs_22, cs_23, cs_24, cs_25, cs_26, cs_27, cs_28, cs_29, cs_30, cs_31, cs_32, cs_33, cs_34, cs_35, cs_36, cs_37, cs_38, cs_39, cs_40, cs_41, cs_42, cs_43, cs_44, cs_45, cs_46, cs_47, cs_48, cs_49, cs_50, cs_51, cs_52, cs_53, cs_54, cs_55, cs_56, cs_57, cs_58, cs_59, cs_60, cs_61, cs_62, cs_63, cs_64, cs_97, cs_100, cs_122, cs_200, cs_300, cs_448, cs_1000, al_11, al_12, al_13, al_14, al_15, al_16, al_17, al_18, al_19, al_20, al_21, al_22, al_23, al_24, al_25, al_26, al_27, al_28, al_29, al_30, al_31, al_32, al_33, al_34, al_35, al_36, al_37, al_38, al_39, al_40, al_41, al_42, al_43, al_44, al_45, al_46, al_47, p2, p3, p4, p5, p6, p7, p8, p10, p11, p15, p16, p17, p18, p19, p20, p21, p22, p23, p25, p26, p27, p32, f10, f25, f26, f27, f28, f29, f30, f31, f32, f33, f34, f35, f36, f37, f38, f39, f40, f41, f42, f43, f44, f45, f46, nI_leI]
      have h3 : spWord S k = k := scan_stop (by simp; omega)
      rw [h3] at h2
      exact ⟨fun _ => h2, fun h => absurd (show S 10 12 ≤ k by omega) h⟩
    | succ d ih =>
      intro k hk h1 h2
      have hb := ht k
      refine ev_at hC (fun pc => pc == 2) 9 2 (ls := [some (vm), some (vI k0), some (vI k)]) ?_
      simp only [↓cb_X10_behindWord_0, ↓cb_X10_behindWord_2, ↓cb_X10_behindWord_27, ↓te_ald, ↓te_aload, ↓te_const, ↓te_getI, ↓te_getP, ↓te_goto, ↓te_icmp, ↓te_iinc, ↓te_iload, ↓te_iret, ↓te_istore, ↓evb_c, ↓evb_n, ↓evk_ap, ↓evm_ap, ↓evm_0, ↓jret_v, ↓jret_n, jget, jset, cond_true, cond_false, Nat.reduceBEq, jc1, List.take_succ_cons, List.take_zero, List.drop_succ_cons, List.drop_zero, List.reverse_cons, List.reverse_nil, List.nil_append, List.cons_append, List.length_cons, List.length_nil, Nat.zero_add, Nat.reduceAdd, beq_self_eq_true, true_and, and_true, Nat.reduceLeDiff, Nat.le_refl, Nat.zero_le, Bool.or_true, Bool.true_or, Bool.or_false, Bool.false_or, Bool.or_self]
      simp (disch := omega) only [Nat.reduceEqDiff, Prod.mk.injEq, Option.some.injEq, true_and, and_true, exists_eq_left', exists_eq_right, exists_and_left, exists_const, true_or, or_true, ne_eq, not_true_eq_false, not_false_eq_true, reduceCtorEq, false_and, and_false, if_true, if_false, forall_const, true_implies, false_implies, implies_true, qI_wI, qI_wP, qP_wI, qP_wP, qN_wI, qN_wP, and_self, nI_add, pk_mul, nI_clamp, vp_in_nI, ng_1, ng_10, nI_eq32, cs_0, cs_1, cs_2, cs_3, cs_4, cs_5, cs_6, cs_7, cs_8, cs_9, cs_10, cs_11, cs_12, cs_13, cs_14, cs_15, cs_16, cs_17, cs_18, cs_19, cs_20, cs_21, cs_22, cs_23, cs_24, cs_25, cs_26, cs_27, cs_28, cs_29, cs_30, cs_31, cs_32, cs_33, cs_34, cs_35, cs_36, cs_37, cs_38, cs_39, cs_40, cs_41, cs_42, cs_43, cs_44, cs_45, cs_46, cs_47, cs_48, cs_49, cs_50, cs_51, cs_52, cs_53, cs_54, cs_55, cs_56, cs_57, cs_58, cs_59, cs_60, cs_61, cs_62, cs_63, cs_64, cs_97, cs_100, cs_122, cs_200, cs_300, cs_448, cs_1000, al_11, al_12, al_13, al_14, al_15, al_16, al_17, al_18, al_19, al_20, al_21, al_22, al_23, al_24, al_25, al_26, al_27, al_28, al_29, al_30, al_31, al_32, al_33, al_34, al_35, al_36, al_37, al_38, al_39, al_40, al_41, al_42, al_43, al_44, al_45, al_46, al_47, p2, p3, p4, p5, p6, p7, p8, p10, p11, p15, p16, p17, p18, p19, p20, p21, p22, p23, p25, p26, p27, p32, f10, f25, f26, f27, f28, f29, f30, f31, f32, f33, f34, f35, f36, f37, f38, f39, f40, f41, f42, f43, f44, f45, f46, nI_leI]
      refine ⟨fun h => ?_, fun h => ⟨vp_in_nI (by omega) (by omega), fun h3 => ?_, fun h3 => ?_⟩⟩
      · have h3 : spWord S k = k := scan_stop (by simp; omega)
        rw [h3] at h2
        exact h2
      · have h4 : spWord S k = k := scan_stop (by simp [h3])
        rw [h4] at h2
        exact h2
      · refine ih (k + 1) (by omega) (by omega) ?_
        have h4 : spWord S k = spWord S (k + 1) := by
          unfold spWord
          rw [show S 10 12 - k = (S 10 12 - (k + 1)) + 1 by omega]
          exact scan_go (by simp only [decide_eq_true_eq]; exact ⟨by omega, h3⟩)
        rw [h4] at h2
        exact h2
  refine ev_at hC (fun pc => pc == 2) 3 0 (ls := [some vm, some (vI k0), none]) ?_
  try simp only [↓cb_X10_behindWord_0, ↓cb_X10_behindWord_2, ↓cb_X10_behindWord_27, ↓te_ald, ↓te_aload, ↓te_const, ↓te_getI, ↓te_getP, ↓te_goto, ↓te_icmp, ↓te_iinc, ↓te_iload, ↓te_iret, ↓te_istore, ↓evb_c, ↓evb_n, ↓evk_ap, ↓evm_ap, ↓evm_0, ↓jret_v, ↓jret_n, jget, jset, cond_true, cond_false, Nat.reduceBEq, jc1, List.take_succ_cons, List.take_zero, List.drop_succ_cons, List.drop_zero, List.reverse_cons, List.reverse_nil, List.nil_append, List.cons_append, List.length_cons, List.length_nil, Nat.zero_add, Nat.reduceAdd, beq_self_eq_true, true_and, and_true, Nat.reduceLeDiff, Nat.le_refl, Nat.zero_le, Bool.or_true, Bool.true_or, Bool.or_false, Bool.false_or, Bool.or_self]
  exact key _ k0 hk0 (Nat.le_refl _) hQ
set_option maxRecDepth 20000 in
set_option maxHeartbeats 20000000 in
theorem mm_widthOfSigns (G : jx_G) {M0 M : jx_M} {S : jS} {Q : jx_O → jx_M → Prop} {a b font : Nat} (hab : a ≤ b) (hb : b ≤ S 10 12) (hf : font < 2) (hT : TXT S) (hw : ∀ k, a ≤ k → k < b → ¬ S 33 k = 32) (hM : RF M0 M S) (hQ : Q (rI (spSigns S a b font)) M) : Mt G m_X10_widthOfSigns [vm, vI a, vI b, vI font] M Q := by
  refine Mt.of (sc_X10_widthOfSigns G) (by decide +kernel) (jArgs.of rfl) (Nat.le_of_ble_eq_true rfl) (fun Wn hC => ?_)
  obtain ⟨p2, p3, p4, p5, p6, p7, p8, p10, p11, p15, p16, p17, p18, p19, p20, p21, p22, p23, p25, p26, p27, p32⟩ := hM.1.1
  obtain ⟨f10, f25, f26, f27, f28, f29, f30, f31, f32, f33, f34, f35, f36, f37, f38, f39, f40, f41, f42, f43, f44, f45, f46⟩ := hM.fs
  have hn := hT.1
  have key : ∀ (d k : Nat), a ≤ k → k ≤ b → b - k ≤ d → Wn 6 [some vm, some (vI a), some (vI b), some (vI font), some (vI (sumr (fun k => spFw (29 * font + spBox (S 33 k))) a (k - a))), some (vI k)] [] M 0 0 := by
    intro d
    induction d with
    | zero =>
      intro k h1 h2 h3
      have h4 : k = b := by omega
      subst h4
      refine ev_at hC (fun pc => pc == 6) 9 6 (ls := [some (vm), some (vI a), some (vI k), some (vI font), some (vI (sumr (fun k => spFw (29 * font + spBox (S 33 k))) a (k - a))), some (vI k)]) ?_
      simp only [↓cb_X10_widthOfSigns_0, ↓cb_X10_widthOfSigns_6, ↓cb_X10_widthOfSigns_41, ↓te_ald, ↓te_aload, ↓te_bin, ↓te_call, ↓te_const, ↓te_getP, ↓te_goto, ↓te_icmp, ↓te_iinc, ↓te_iload, ↓te_iret, ↓te_istore, ↓evb_c, ↓evb_n, ↓evk_ap, ↓evm_ap, ↓evm_0, ↓jret_v, ↓jret_n, jget, jset, cond_true, cond_false, Nat.reduceBEq, jc1, List.take_succ_cons, List.take_zero, List.drop_succ_cons, List.drop_zero, List.reverse_cons, List.reverse_nil, List.nil_append, List.cons_append, List.length_cons, List.length_nil, Nat.zero_add, Nat.reduceAdd, beq_self_eq_true, true_and, and_true, Nat.reduceLeDiff, Nat.le_refl, Nat.zero_le, Bool.or_true, Bool.true_or, Bool.or_false, Bool.false_or, Bool.or_self]
      simp (disch := omega) only [Nat.reduceEqDiff, Prod.mk.injEq, Option.some.injEq, true_and, and_true, exists_eq_left', exists_eq_right, exists_and_left, exists_const, true_or, or_true, ne_eq, not_true_eq_false, not_false_eq_true, reduceCtorEq, false_and, and_false, if_true, if_false, forall_const, true_implies, false_implies, implies_true, qI_wI, qI_wP, qP_wI, qP_wP, qN_wI, qN_wP, and_self, nI_add, pk_mul, nI_clamp, vp_in_nI, ng_1, ng_10, nI_eq32, cs_0, cs_1, cs_2, cs_3, cs_4, cs_5, cs_6, cs_7, cs_8, cs_9, cs_10, cs_11, cs_12, cs_13, cs_14, cs_15, cs_16, cs_17, cs_18, cs_19, cs_20, cs_21, cs_22, cs_23, cs_24, cs_25, cs_26, cs_27, cs_28, cs_29, cs_30, cs_31, cs_32, cs_33, cs_34, cs_35, cs_36, cs_37, cs_38, cs_39, cs_40, cs_41, cs_42, cs_43, cs_44, cs_45, cs_46, cs_47, cs_48, cs_49, cs_50, cs_51, cs_52, cs_53, cs_54, cs_55, cs_56, cs_57, cs_58, cs_59, cs_60, cs_61, cs_62, cs_63, cs_64, cs_97, cs_100, cs_122, cs_200, cs_300, cs_448, cs_1000, al_11, al_12, al_13, al_14, al_15, al_16, al_17, al_18, al_19, al_20, al_21, al_22, al_23, al_24, al_25, al_26, al_27, al_28, al_29, al_30, al_31, al_32, al_33, al_34, al_35, al_36, al_37, al_38, al_39, al_40, al_41, al_42, al_43, al_44, al_45, al_46, al_47, p2, p3, p4, p5, p6, p7, p8, p10, p11, p15, p16, p17, p18, p19, p20, p21, p22, p23, p25, p26, p27, p32, f10, f25, f26, f27, f28, f29, f30, f31, f32, f33, f34, f35, f36, f37, f38, f39, f40, f41, f42, f43, f44, f45, f46, nI_leI]
      exact ⟨fun _ => hQ, fun h => absurd (Nat.le_refl _) h⟩
    | succ d ih =>
      intro k h1 h2 h3
      have hb1 := hT.2.1 k
      refine ev_at hC (fun pc => pc == 6) 9 6 (ls := [some (vm), some (vI a), some (vI b), some (vI font), some (vI (sumr (fun k => spFw (29 * font + spBox (S 33 k))) a (k - a))), some (vI k)]) ?_
      simp only [↓cb_X10_widthOfSigns_0, ↓cb_X10_widthOfSigns_6, ↓cb_X10_widthOfSigns_41, ↓te_ald, ↓te_aload, ↓te_bin, ↓te_call, ↓te_const, ↓te_getP, ↓te_goto, ↓te_icmp, ↓te_iinc, ↓te_iload, ↓te_iret, ↓te_istore, ↓evb_c, ↓evb_n, ↓evk_ap, ↓evm_ap, ↓evm_0, ↓jret_v, ↓jret_n, jget, jset, cond_true, cond_false, Nat.reduceBEq, jc1, List.take_succ_cons, List.take_zero, List.drop_succ_cons, List.drop_zero, List.reverse_cons, List.reverse_nil, List.nil_append, List.cons_append, List.length_cons, List.length_nil, Nat.zero_add, Nat.reduceAdd, beq_self_eq_true, true_and, and_true, Nat.reduceLeDiff, Nat.le_refl, Nat.zero_le, Bool.or_true, Bool.true_or, Bool.or_false, Bool.false_or, Bool.or_self]
      simp (disch := omega) only [Nat.reduceEqDiff, Prod.mk.injEq, Option.some.injEq, true_and, and_true, exists_eq_left', exists_eq_right, exists_and_left, exists_const, true_or, or_true, ne_eq, not_true_eq_false, not_false_eq_true, reduceCtorEq, false_and, and_false, if_true, if_false, forall_const, true_implies, false_implies, implies_true, qI_wI, qI_wP, qP_wI, qP_wP, qN_wI, qN_wP, and_self, nI_add, pk_mul, nI_clamp, vp_in_nI, ng_1, ng_10, nI_eq32, cs_0, cs_1, cs_2, cs_3, cs_4, cs_5, cs_6, cs_7, cs_8, cs_9, cs_10, cs_11, cs_12, cs_13, cs_14, cs_15, cs_16, cs_17, cs_18, cs_19, cs_20, cs_21, cs_22, cs_23, cs_24, cs_25, cs_26, cs_27, cs_28, cs_29, cs_30, cs_31, cs_32, cs_33, cs_34, cs_35, cs_36, cs_37, cs_38, cs_39, cs_40, cs_41, cs_42, cs_43, cs_44, cs_45, cs_46, cs_47, cs_48, cs_49, cs_50, cs_51, cs_52, cs_53, cs_54, cs_55, cs_56, cs_57, cs_58, cs_59, cs_60, cs_61, cs_62, cs_63, cs_64, cs_97, cs_100, cs_122, cs_200, cs_300, cs_448, cs_1000, al_11, al_12, al_13, al_14, al_15, al_16, al_17, al_18, al_19, al_20, al_21, al_22, al_23, al_24, al_25, al_26, al_27, al_28, al_29, al_30, al_31, al_32, al_33, al_34, al_35, al_36, al_37, al_38, al_39, al_40, al_41, al_42, al_43, al_44, al_45, al_46, al_47, p2, p3, p4, p5, p6, p7, p8, p10, p11, p15, p16, p17, p18, p19, p20, p21, p22, p23, p25, p26, p27, p32, f10, f25, f26, f27, f28, f29, f30, f31, f32, f33, f34, f35, f36, f37, f38, f39, f40, f41, f42, f43, f44, f45, f46, nI_leI]
      refine ⟨fun h => ?_, fun h => ⟨vp_in_nI (by omega) (by omega), ?_⟩⟩
      · have h4 : k = b := by omega
        subst h4
        exact hQ
      · have hc := hT.2.2 k (by omega)
        have hx := hc.box (hw k h1 (by omega))
        refine mm_boxOf G hb1 (by have := hw k h1 (by omega); unfold okc at hc; omega) ?_
        try simp only [↓cb_X10_widthOfSigns_0, ↓cb_X10_widthOfSigns_6, ↓cb_X10_widthOfSigns_41, ↓te_ald, ↓te_aload, ↓te_bin, ↓te_call, ↓te_const, ↓te_getP, ↓te_goto, ↓te_icmp, ↓te_iinc, ↓te_iload, ↓te_iret, ↓te_istore, ↓evb_c, ↓evb_n, ↓evk_ap, ↓evm_ap, ↓evm_0, ↓jret_v, ↓jret_n, jget, jset, cond_true, cond_false, Nat.reduceBEq, jc1, List.take_succ_cons, List.take_zero, List.drop_succ_cons, List.drop_zero, List.reverse_cons, List.reverse_nil, List.nil_append, List.cons_append, List.length_cons, List.length_nil, Nat.zero_add, Nat.reduceAdd, beq_self_eq_true, true_and, and_true, Nat.reduceLeDiff, Nat.le_refl, Nat.zero_le, Bool.or_true, Bool.true_or, Bool.or_false, Bool.false_or, Bool.or_self]
        try simp (disch := omega) only [Nat.reduceEqDiff, Prod.mk.injEq, Option.some.injEq, true_and, and_true, exists_eq_left', exists_eq_right, exists_and_left, exists_const, true_or, or_true, ne_eq, not_true_eq_false, not_false_eq_true, reduceCtorEq, false_and, and_false, if_true, if_false, forall_const, true_implies, false_implies, implies_true, qI_wI, qI_wP, qP_wI, qP_wP, qN_wI, qN_wP, and_self, nI_add, pk_mul, nI_clamp, vp_in_nI, ng_1, ng_10, nI_eq32, cs_0, cs_1, cs_2, cs_3, cs_4, cs_5, cs_6, cs_7, cs_8, cs_9, cs_10, cs_11, cs_12, cs_13, cs_14, cs_15, cs_16, cs_17, cs_18, cs_19, cs_20, cs_21, cs_22, cs_23, cs_24, cs_25, cs_26, cs_27, cs_28, cs_29, cs_30, cs_31, cs_32, cs_33, cs_34, cs_35, cs_36, cs_37, cs_38, cs_39, cs_40, cs_41, cs_42, cs_43, cs_44, cs_45, cs_46, cs_47, cs_48, cs_49, cs_50, cs_51, cs_52, cs_53, cs_54, cs_55, cs_56, cs_57, cs_58, cs_59, cs_60, cs_61, cs_62, cs_63, cs_64, cs_97, cs_100, cs_122, cs_200, cs_300, cs_448, cs_1000, al_11, al_12, al_13, al_14, al_15, al_16, al_17, al_18, al_19, al_20, al_21, al_22, al_23, al_24, al_25, al_26, al_27, al_28, al_29, al_30, al_31, al_32, al_33, al_34, al_35, al_36, al_37, al_38, al_39, al_40, al_41, al_42, al_43, al_44, al_45, al_46, al_47]
        refine mm_widthOf G (by omega) ?_
        try simp only [↓cb_X10_widthOfSigns_0, ↓cb_X10_widthOfSigns_6, ↓cb_X10_widthOfSigns_41, ↓te_ald, ↓te_aload, ↓te_bin, ↓te_call, ↓te_const, ↓te_getP, ↓te_goto, ↓te_icmp, ↓te_iinc, ↓te_iload, ↓te_iret, ↓te_istore, ↓evb_c, ↓evb_n, ↓evk_ap, ↓evm_ap, ↓evm_0, ↓jret_v, ↓jret_n, jget, jset, cond_true, cond_false, Nat.reduceBEq, jc1, List.take_succ_cons, List.take_zero, List.drop_succ_cons, List.drop_zero, List.reverse_cons, List.reverse_nil, List.nil_append, List.cons_append, List.length_cons, List.length_nil, Nat.zero_add, Nat.reduceAdd, beq_self_eq_true, true_and, and_true, Nat.reduceLeDiff, Nat.le_refl, Nat.zero_le, Bool.or_true, Bool.true_or, Bool.or_false, Bool.false_or, Bool.or_self]
        try simp (disch := omega) only [Nat.reduceEqDiff, Prod.mk.injEq, Option.some.injEq, true_and, and_true, exists_eq_left', exists_eq_right, exists_and_left, exists_const, true_or, or_true, ne_eq, not_true_eq_false, not_false_eq_true, reduceCtorEq, false_and, and_false, if_true, if_false, forall_const, true_implies, false_implies, implies_true, qI_wI, qI_wP, qP_wI, qP_wP, qN_wI, qN_wP, and_self, nI_add, pk_mul, nI_clamp, vp_in_nI, ng_1, ng_10, nI_eq32, cs_0, cs_1, cs_2, cs_3, cs_4, cs_5, cs_6, cs_7, cs_8, cs_9, cs_10, cs_11, cs_12, cs_13, cs_14, cs_15, cs_16, cs_17, cs_18, cs_19, cs_20, cs_21, cs_22, cs_23, cs_24, cs_25, cs_26, cs_27, cs_28, cs_29, cs_30, cs_31, cs_32, cs_33, cs_34, cs_35, cs_36, cs_37, cs_38, cs_39, cs_40, cs_41, cs_42, cs_43, cs_44, cs_45, cs_46, cs_47, cs_48, cs_49, cs_50, cs_51, cs_52, cs_53, cs_54, cs_55, cs_56, cs_57, cs_58, cs_59, cs_60, cs_61, cs_62, cs_63, cs_64, cs_97, cs_100, cs_122, cs_200, cs_300, cs_448, cs_1000, al_11, al_12, al_13, al_14, al_15, al_16, al_17, al_18, al_19, al_20, al_21, al_22, al_23, al_24, al_25, al_26, al_27, al_28, al_29, al_30, al_31, al_32, al_33, al_34, al_35, al_36, al_37, al_38, al_39, al_40, al_41, al_42, al_43, al_44, al_45, al_46, al_47]
        have h9 := ih (k + 1) (by omega) (by omega) (by omega)
        rw [show k + 1 - a = (k - a) + 1 by omega] at h9
        have h8 : sumr (fun k => spFw (29 * font + spBox (S 33 k))) a (k - a + 1) = sumr (fun k => spFw (29 * font + spBox (S 33 k))) a (k - a) + spFw (29 * font + spBox (S 33 k)) := by
          show _ + _ = _
          rw [show a + (k - a) = k by omega]
        rw [h8] at h9
        exact h9
  refine ev_at hC (fun pc => pc == 6) 3 0 (ls := [some vm, some (vI a), some (vI b), some (vI font), none, none]) ?_
  try simp only [↓cb_X10_widthOfSigns_0, ↓cb_X10_widthOfSigns_6, ↓cb_X10_widthOfSigns_41, ↓te_ald, ↓te_aload, ↓te_bin, ↓te_call, ↓te_const, ↓te_getP, ↓te_goto, ↓te_icmp, ↓te_iinc, ↓te_iload, ↓te_iret, ↓te_istore, ↓evb_c, ↓evb_n, ↓evk_ap, ↓evm_ap, ↓evm_0, ↓jret_v, ↓jret_n, jget, jset, cond_true, cond_false, Nat.reduceBEq, jc1, List.take_succ_cons, List.take_zero, List.drop_succ_cons, List.drop_zero, List.reverse_cons, List.reverse_nil, List.nil_append, List.cons_append, List.length_cons, List.length_nil, Nat.zero_add, Nat.reduceAdd, beq_self_eq_true, true_and, and_true, Nat.reduceLeDiff, Nat.le_refl, Nat.zero_le, Bool.or_true, Bool.true_or, Bool.or_false, Bool.false_or, Bool.or_self]
  have h9 := key _ a (Nat.le_refl _) hab (Nat.le_refl _)
  rw [Nat.sub_self] at h9
  exact h9
