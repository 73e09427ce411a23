/-! THE REFERENCE: shown; lines moved, dropped, put back; where a sort is -/
set_option maxRecDepth 20000 in
set_option maxHeartbeats 20000000 in
theorem mm_show (G : jx_G) {M0 M : jx_M} {S : jS} {Q : jx_O → jx_M → Prop} {c : Nat} (hc : c < 65536) (hp : S 10 28 < 1600) (hM : RF M0 M S) (hQ : ∀ M', RF M0 M' (sw (sw S 45 (S 10 28) c) 10 28 (S 10 28 + 1)) → Q (.inl none) M') : Mt G m_X10_show [vm, vI c] M Q := by
  refine Mt.of (sc_X10_show G) (by decide +kernel) (jArgs.of rfl) (Nat.le_of_ble_eq_true rfl) (fun Wn hC => ?_)
  obtain ⟨p2, p3, p4, p5, p6, p7, p8, p10, p11, p15, p16, p17, p18, p19, p20, p21, p22, p23, p25, p26, p27, p32⟩ := hM.1.1
  obtain ⟨f10, f25, f26, f27, f28, f29, f30, f31, f32, f33, f34, f35, f36, f37, f38, f39, f40, f41, f42, f43, f44, f45, f46⟩ := hM.fs
  refine ev_at hC (fun pc => false) 9 0 (ls := [some (vm), some (vI c)]) ?_
  simp only [↓cb_X10_show_0, ↓te_aload, ↓te_astC, ↓te_bin, ↓te_const, ↓te_dup, ↓te_getI, ↓te_getP, ↓te_iload, ↓te_putI, ↓te_vret, ↓evb_c, ↓evb_n, ↓evk_ap, ↓evm_ap, ↓evm_0, ↓jret_v, ↓jret_n, jget, jset, cond_true, cond_false, Nat.reduceBEq, jc1, List.take_succ_cons, List.take_zero, List.drop_succ_cons, List.drop_zero, List.reverse_cons, List.reverse_nil, List.nil_append, List.cons_append, List.length_cons, List.length_nil, Nat.zero_add, Nat.reduceAdd, beq_self_eq_true, true_and, and_true, Nat.reduceLeDiff, Nat.le_refl, Nat.zero_le, Bool.or_true, Bool.true_or, Bool.or_false, Bool.false_or, Bool.or_self]
  simp (disch := omega) only [Nat.reduceEqDiff, Prod.mk.injEq, Option.some.injEq, true_and, and_true, exists_eq_left', exists_eq_right, exists_and_left, exists_const, true_or, or_true, ne_eq, not_true_eq_false, not_false_eq_true, reduceCtorEq, false_and, and_false, if_true, if_false, forall_const, true_implies, false_implies, implies_true, qI_wI, qI_wP, qP_wI, qP_wP, qN_wI, qN_wP, and_self, nI_add, pk_mul, nI_clamp, vp_in_nI, ng_1, ng_10, nI_eq32, cs_0, cs_1, cs_2, cs_3, cs_4, cs_5, cs_6, cs_7, cs_8, cs_9, cs_10, cs_11, cs_12, cs_13, cs_14, cs_15, cs_16, cs_17, cs_18, cs_19, cs_20, cs_21, cs_22, cs_23, cs_24, cs_25, cs_26, cs_27, cs_28, cs_29, cs_30, cs_31, cs_32, cs_33, cs_34, cs_35, cs_36, cs_37, cs_38, cs_39, cs_40, cs_41, cs_42, cs_43, cs_44, cs_45, cs_46, cs_47, cs_48, cs_49, cs_50, cs_51, cs_52, cs_53, cs_54, cs_55, cs_56, cs_57, cs_58, cs_59, cs_60, cs_61, cs_62, cs_63, cs_64, cs_97, cs_100, cs_122, cs_200, cs_300, cs_448, cs_1000, al_11, al_12, al_13, al_14, al_15, al_16, al_17, al_18, al_19, al_20, al_21, al_22, al_23, al_24, al_25, al_26, al_27, al_28, al_29, al_30, al_31, al_32, al_33, al_34, al_35, al_36, al_37, al_38, al_39, al_40, al_41, al_42, al_43, al_44, al_45, al_46, al_47, p2, p3, p4, p5, p6, p7, p8, p10, p11, p15, p16, p17, p18, p19, p20, p21, p22, p23, p25, p26, p27, p32, f10, f25, f26, f27, f28, f29, f30, f31, f32, f33, f34, f35, f36, f37, f38, f39, f40, f41, f42, f43, f44, f45, f46, pk_char, pk_tn, Nat.mod_eq_of_lt]
  exact hQ _ (RF.w (by decide) (RF.w (by decide) hM))
def spCopyK (S : jS) (s t k k2 : Nat) : jS := fun a b => if (a = 34 ∨ a = 35 ∨ a = 38 ∨ a = 41 ∨ a = 42) ∧ b = t then S a s else if (a = 36 ∨ a = 37 ∨ a = 39) ∧ 64 * t ≤ b ∧ b < 64 * t + k then S a (64 * s + (b - 64 * t)) else if a = 40 ∧ 448 * t ≤ b ∧ b < 448 * t + k2 then S a (448 * s + (b - 448 * t)) else S a b
theorem spCopyK_0 (S : jS) (s t a b : Nat) (hst : ¬ s = t) : spCopyK S s t 0 0 a b = sw (sw (sw (sw (sw S 34 t (S 34 s)) 35 t (S 35 s)) 38 t (S 38 s)) 41 t (S 41 s)) 42 t (S 42 s) a b := by
  simp only [spCopyK, sw_at]
  grind
theorem spCopyK_1 (S : jS) (s t k a b : Nat) (hst : ¬ s = t) (hk : k < 64) : spCopyK S s t (k + 1) 0 a b = sw (sw (sw (spCopyK S s t k 0) 36 (64 * t + k) (S 36 (64 * s + k))) 37 (64 * t + k) (S 37 (64 * s + k))) 39 (64 * t + k) (S 39 (64 * s + k)) a b := by
  simp only [spCopyK, sw_at]
  grind
theorem spCopyK_2 (S : jS) (s t k a b : Nat) (hst : ¬ s = t) (hk : k < 448) : spCopyK S s t 64 (k + 1) a b = sw (spCopyK S s t 64 k) 40 (448 * t + k) (S 40 (448 * s + k)) a b := by
  simp only [spCopyK, sw_at]
  grind
theorem spCopyK_r (S : jS) (s t k k2 a : Nat) (b : Nat) (hst : ¬ s = t) (hk : k ≤ 64) (hk2 : k2 ≤ 448) (hb : ((a = 36 ∨ a = 37 ∨ a = 39) ∧ ∃ j, j < 64 ∧ b = 64 * s + j) ∨ (a = 40 ∧ ∃ j, j < 448 ∧ b = 448 * s + j)) : spCopyK S s t k k2 a b = S a b := by
  unfold spCopyK
  rcases hb with ⟨h1, j, h2, h3⟩ | ⟨h1, j, h2, h3⟩
  · rw [if_neg (by omega), if_neg (by omega), if_neg (by omega)]
  · rw [if_neg (by omega), if_neg (by omega), if_neg (by omega)]
set_option maxRecDepth 20000 in
set_option maxHeartbeats 20000000 in
theorem mm_copyLine (G : jx_G) {M0 M : jx_M} {S : jS} {Q : jx_O → jx_M → Prop} {s t : Nat} (hs : s < 12) (ht : t < 12) (hst : ¬ s = t) (h41 : S 41 s < 2) (hM : RF M0 M S) (hQ : ∀ M', RF M0 M' (spCopyK S s t 64 448) → Q (.inl none) M') : Mt G m_X10_copyLine [vm, vI s, vI t] M Q := by
  refine Mt.of (sc_X10_copyLine G) (by decide +kernel) (jArgs.of rfl) (Nat.le_of_ble_eq_true rfl) (fun Wn hC => ?_)
  have k142 : ∀ (d k : Nat) (M1 : jx_M), k + d = 448 → RF M0 M1 (spCopyK S s t 64 k) → Wn 142 [some vm, some (vI s), some (vI t), some (vI k)] [] M1 0 0 := by
    intro d
    induction d with
    | zero =>
      intro k M1 h1 hM1
      have h4 : k = 448 := by omega
      subst h4
      obtain ⟨p2, p3, p4, p5, p6, p7, p8, p10, p11, p15, p16, p17, p18, p19, p20, p21, p22, p23, p25, p26, p27, p32⟩ := hM1.1.1
      obtain ⟨f10, f25, f26, f27, f28, f29, f30, f31, f32, f33, f34, f35, f36, f37, f38, f39, f40, f41, f42, f43, f44, f45, f46⟩ := hM1.fs
      refine ev_at hC (fun pc => pc == 142) 9 142 (ls := [some (vm), some (vI s), some (vI t), some (vI 448)]) ?_
      simp only [↓cb_X10_copyLine_0, ↓cb_X10_copyLine_62, ↓cb_X10_copyLine_140, ↓cb_X10_copyLine_142, ↓cb_X10_copyLine_179, ↓te_ald, ↓te_aload, ↓te_ast, ↓te_astZ, ↓te_bin, ↓te_const, ↓te_getP, ↓te_goto, ↓te_icmp, ↓te_iinc, ↓te_iload, ↓te_istore, ↓te_vret, ↓evb_c, ↓evb_n, ↓evk_ap, ↓evm_ap, ↓evm_0, ↓jret_v, ↓jret_n, jget, jset, cond_true, cond_false, Nat.reduceBEq, jc1, List.take_succ_cons, List.take_zero, List.drop_succ_cons, List.drop_zero, List.reverse_cons, List.reverse_nil, List.nil_append, List.cons_append, List.length_cons, List.length_nil, Nat.zero_add, Nat.reduceAdd, beq_self_eq_true, true_and, and_true, Nat.reduceLeDiff, Nat.le_refl, Nat.zero_le, Bool.or_true, Bool.true_or, Bool.or_false, Bool.false_or, Bool.or_self]
      simp (disch := omega) only [Nat.reduceEqDiff, Prod.mk.injEq, Option.some.injEq, true_and, and_true, exists_eq_left', exists_eq_right, exists_and_left, exists_const, true_or, or_true, ne_eq, not_true_eq_false, not_false_eq_true, reduceCtorEq, false_and, and_false, if_true, if_false, forall_const, true_implies, false_implies, implies_true, qI_wI, qI_wP, qP_wI, qP_wP, qN_wI, qN_wP, and_self, nI_add, pk_mul, nI_clamp, vp_in_nI, ng_1, ng_10, nI_eq32, cs_0, cs_1, cs_2, cs_3, cs_4, cs_5, cs_6, cs_7, cs_8, cs_9, cs_10, cs_11, cs_12, cs_13, cs_14, cs_15, cs_16, cs_17, cs_18, cs_19, cs_20, cs_21, cs_22, cs_23, cs_24, cs_25, cs_26, cs_27, cs_28, cs_29, cs_30, cs_31, cs_32, cs_33, cs_34, cs_35, cs_36, cs_37, cs_38, cs_39, cs_40, cs_41, cs_42, cs_43, cs_44, cs_45, cs_46, cs_47, cs_48, cs_49, cs_50, cs_51, cs_52, cs_53, cs_54, cs_55, cs_56, cs_57, cs_58, cs_59, cs_60, cs_61, cs_62, cs_63, cs_64, cs_97, cs_100, cs_122, cs_200, cs_300, cs_448, cs_1000, al_11, al_12, al_13, al_14, al_15, al_16, al_17, al_18, al_19, al_20, al_21, al_22, al_23, al_24, al_25, al_26, al_27, al_28, al_29, al_30, al_31, al_32, al_33, al_34, al_35, al_36, al_37, al_38, al_39, al_40, al_41, al_42, al_43, al_44, al_45, al_46, al_47, p2, p3, p4, p5, p6, p7, p8, p10, p11, p15, p16, p17, p18, p19, p20, p21, p22, p23, p25, p26, p27, p32, f10, f25, f26, f27, f28, f29, f30, f31, f32, f33, f34, f35, f36, f37, f38, f39, f40, f41, f42, f43, f44, f45, f46, nI_leI]
      exact ⟨fun _ => hQ _ hM1, fun h => absurd (Nat.le_refl _) h⟩
    | succ d ih =>
      intro k M1 h1 hM1
      obtain ⟨p2, p3, p4, p5, p6, p7, p8, p10, p11, p15, p16, p17, p18, p19, p20, p21, p22, p23, p25, p26, p27, p32⟩ := hM1.1.1
      obtain ⟨f10, f25, f26, f27, f28, f29, f30, f31, f32, f33, f34, f35, f36, f37, f38, f39, f40, f41, f42, f43, f44, f45, f46⟩ := hM1.fs
      have hr := spCopyK_r S s t 64 k 40 (448 * s + k) hst (by omega) (by omega) (Or.inr ⟨rfl, k, by omega, rfl⟩)
      refine ev_at hC (fun pc => pc == 142) 9 142 (ls := [some (vm), some (vI s), some (vI t), some (vI k)]) ?_
      simp only [↓cb_X10_copyLine_0, ↓cb_X10_copyLine_62, ↓cb_X10_copyLine_140, ↓cb_X10_copyLine_142, ↓cb_X10_copyLine_179, ↓te_ald, ↓te_aload, ↓te_ast, ↓te_astZ, ↓te_bin, ↓te_const, ↓te_getP, ↓te_goto, ↓te_icmp, ↓te_iinc, ↓te_iload, ↓te_istore, ↓te_vret, ↓evb_c, ↓evb_n, ↓evk_ap, ↓evm_ap, ↓evm_0, ↓jret_v, ↓jret_n, jget, jset, cond_true, cond_false, Nat.reduceBEq, jc1, List.take_succ_cons, List.take_zero, List.drop_succ_cons, List.drop_zero, List.reverse_cons, List.reverse_nil, List.nil_append, List.cons_append, List.length_cons, List.length_nil, Nat.zero_add, Nat.reduceAdd, beq_self_eq_true, true_and, and_true, Nat.reduceLeDiff, Nat.le_refl, Nat.zero_le, Bool.or_true, Bool.true_or, Bool.or_false, Bool.false_or, Bool.or_self]
      simp (disch := omega) only [Nat.reduceEqDiff, Prod.mk.injEq, Option.some.injEq, true_and, and_true, exists_eq_left', exists_eq_right, exists_and_left, exists_const, true_or, or_true, ne_eq, not_true_eq_false, not_false_eq_true, reduceCtorEq, false_and, and_false, if_true, if_false, forall_const, true_implies, false_implies, implies_true, qI_wI, qI_wP, qP_wI, qP_wP, qN_wI, qN_wP, and_self, nI_add, pk_mul, nI_clamp, vp_in_nI, ng_1, ng_10, nI_eq32, cs_0, cs_1, cs_2, cs_3, cs_4, cs_5, cs_6, cs_7, cs_8, cs_9, cs_10, cs_11, cs_12, cs_13, cs_14, cs_15, cs_16, cs_17, cs_18, cs_19, cs_20, cs_21, cs_22, cs_23, cs_24, cs_25, cs_26, cs_27, cs_28, cs_29, cs_30, cs_31, cs_32, cs_33, cs_34, cs_35, cs_36, cs_37, cs_38, cs_39, cs_40, cs_41, cs_42, cs_43, cs_44, cs_45, cs_46, cs_47, cs_48, cs_49, cs_50, cs_51, cs_52, cs_53, cs_54, cs_55, cs_56, cs_57, cs_58, cs_59, cs_60, cs_61, cs_62, cs_63, cs_64, cs_97, cs_100, cs_122, cs_200, cs_300, cs_448, cs_1000, al_11, al_12, al_13, al_14, al_15, al_16, al_17, al_18, al_19, al_20, al_21, al_22, al_23, al_24, al_25, al_26, al_27, al_28, al_29, al_30, al_31, al_32, al_33, al_34, al_35, al_36, al_37, al_38, al_39, al_40, al_41, al_42, al_43, al_44, al_45, al_46, al_47, p2, p3, p4, p5, p6, p7, p8, p10, p11, p15, p16, p17, p18, p19, p20, p21, p22, p23, p25, p26, p27, p32, f10, f25, f26, f27, f28, f29, f30, f31, f32, f33, f34, f35, f36, f37, f38, f39, f40, f41, f42, f43, f44, f45, f46, hr, nI_leI]
      exact ⟨fun h => absurd h (by omega), fun _ => ih (k + 1) _ (by omega) ((RF.w (r := 40) (k := 448 * t + k) (v := S 40 (448 * s + k)) (by decide) hM1).eq (fun a b => spCopyK_2 S s t k a b hst (by omega)))⟩
  have k62 : ∀ (d k : Nat) (M1 : jx_M), k + d = 64 → RF M0 M1 (spCopyK S s t k 0) → Wn 62 [some vm, some (vI s), some (vI t), some (vI k)] [] M1 0 0 := by
    intro d
    induction d with
    | zero =>
      intro k M1 h1 hM1
      have h4 : k = 64 := by omega
      subst h4
      obtain ⟨p2, p3, p4, p5, p6, p7, p8, p10, p11, p15, p16, p17, p18, p19, p20, p21, p22, p23, p25, p26, p27, p32⟩ := hM1.1.1
      obtain ⟨f10, f25, f26, f27, f28, f29, f30, f31, f32, f33, f34, f35, f36, f37, f38, f39, f40, f41, f42, f43, f44, f45, f46⟩ := hM1.fs
      refine ev_at hC (fun pc => pc == 62 || pc == 142) 9 62 (ls := [some (vm), some (vI s), some (vI t), some (vI 64)]) ?_
      simp only [↓cb_X10_copyLine_0, ↓cb_X10_copyLine_62, ↓cb_X10_copyLine_140, ↓cb_X10_copyLine_142, ↓cb_X10_copyLine_179, ↓te_ald, ↓te_aload, ↓te_ast, ↓te_astZ, ↓te_bin, ↓te_const, ↓te_getP, ↓te_goto, ↓te_icmp, ↓te_iinc, ↓te_iload, ↓te_istore, ↓te_vret, ↓evb_c, ↓evb_n, ↓evk_ap, ↓evm_ap, ↓evm_0, ↓jret_v, ↓jret_n, jget, jset, cond_true, cond_false, Nat.reduceBEq, jc1, List.take_succ_cons, List.take_zero, List.drop_succ_cons, List.drop_zero, List.reverse_cons, List.reverse_nil, List.nil_append, List.cons_append, List.length_cons, List.length_nil, Nat.zero_add, Nat.reduceAdd, beq_self_eq_true, true_and, and_true, Nat.reduceLeDiff, Nat.le_refl, Nat.zero_le, Bool.or_true, Bool.true_or, Bool.or_false, Bool.false_or, Bool.or_self]
      simp (disch := omega) only [Nat.reduceEqDiff, Prod.mk.injEq, Option.some.injEq, true_and, and_true, exists_eq_left', exists_eq_right, exists_and_left, exists_const, true_or, or_true, ne_eq, not_true_eq_false, not_false_eq_true, reduceCtorEq, false_and, and_false, if_true, if_false, forall_const, true_implies, false_implies, implies_true, qI_wI, qI_wP, qP_wI, qP_wP, qN_wI, qN_wP, and_self, nI_add, pk_mul, nI_clamp, vp_in_nI, ng_1, ng_10, nI_eq32, cs_0, cs_1, cs_2, cs_3, cs_4, cs_5, cs_6, cs_7, cs_8, cs_9, cs_10, cs_11, cs_12, cs_13, cs_14, cs_15, cs_16, cs_17, cs_18, cs_19, cs_20, cs_21, cs_22, cs_23, cs_24, cs_25, cs_26, cs_27, cs_28, cs_29, cs_30, cs_31, cs_32, cs_33, cs_34, cs_35, cs_36, cs_37, cs_38, cs_39, cs_40, cs_41, cs_42, cs_43, cs_44, cs_45, cs_46, cs_47, cs_48, cs_49, cs_50, cs_51, cs_52, cs_53, cs_54, cs_55, cs_56, cs_57, cs_58, cs_59, cs_60, cs_61, cs_62, cs_63, cs_64, cs_97, cs_100, cs_122, cs_200, cs_300, cs_448, cs_1000, al_11, al_12, al_13, al_14, al_15, al_16, al_17, al_18, al_19, al_20, al_21, al_22, al_23, al_24, al_25, al_26, al_27, al_28, al_29, al_30, al_31, al_32, al_33, al_34, al_35, al_36, al_37, al_38, al_39, al_40, al_41, al_42, al_43, al_44, al_45, al_46, al_47, p2, p3, p4, p5, p6, p7, p8, p10, p11, p15, p16, p17, p18, p19, p20, p21, p22, p23, p25, p26, p27, p32, f10, f25, f26, f27, f28, f29, f30, f31, f32, f33, f34, f35, f36, f37, f38, f39, f40, f41, f42, f43, f44, f45, f46, nI_leI]
      exact ⟨fun _ => k142 448 0 _ rfl hM1, fun h => absurd (Nat.le_refl _) h⟩
    | succ d ih =>
      intro k M1 h1 hM1
      obtain ⟨p2, p3, p4, p5, p6, p7, p8, p10, p11, p15, p16, p17, p18, p19, p20, p21, p22, p23, p25, p26, p27, p32⟩ := hM1.1.1
      obtain ⟨f10, f25, f26, f27, f28, f29, f30, f31, f32, f33, f34, f35, f36, f37, f38, f39, f40, f41, f42, f43, f44, f45, f46⟩ := hM1.fs
      have hr1 := spCopyK_r S s t k 0 36 (64 * s + k) hst (by omega) (by omega) (Or.inl ⟨Or.inl rfl, k, by omega, rfl⟩)
      have hr2 := spCopyK_r S s t k 0 37 (64 * s + k) hst (by omega) (by omega) (Or.inl ⟨Or.inr (Or.inl rfl), k, by omega, rfl⟩)
      have hr3 := spCopyK_r S s t k 0 39 (64 * s + k) hst (by omega) (by omega) (Or.inl ⟨Or.inr (Or.inr rfl), k, by omega, rfl⟩)
      refine ev_at hC (fun pc => pc == 62 || pc == 142) 9 62 (ls := [some (vm), some (vI s), some (vI t), some (vI k)]) ?_
      simp only [↓cb_X10_copyLine_0, ↓cb_X10_copyLine_62, ↓cb_X10_copyLine_140, ↓cb_X10_copyLine_142, ↓cb_X10_copyLine_179, ↓te_ald, ↓te_aload, ↓te_ast, ↓te_astZ, ↓te_bin, ↓te_const, ↓te_getP, ↓te_goto, ↓te_icmp, ↓te_iinc, ↓te_iload, ↓te_istore, ↓te_vret, ↓evb_c, ↓evb_n, ↓evk_ap, ↓evm_ap, ↓evm_0, ↓jret_v, ↓jret_n, jget, jset, cond_true, cond_false, Nat.reduceBEq, jc1, List.take_succ_cons, List.take_zero, List.drop_succ_cons, List.drop_zero, List.reverse_cons, List.reverse_nil, List.nil_append, List.cons_append, List.length_cons, List.length_nil, Nat.zero_add, Nat.reduceAdd, beq_self_eq_true, true_and, and_true, Nat.reduceLeDiff, Nat.le_refl, Nat.zero_le, Bool.or_true, Bool.true_or, Bool.or_false, Bool.false_or, Bool.or_self]
      simp (disch := omega) only [Nat.reduceEqDiff, Prod.mk.injEq, Option.some.injEq, true_and, and_true, exists_eq_left', exists_eq_right, exists_and_left, exists_const, true_or, or_true, ne_eq, not_true_eq_false, not_false_eq_true, reduceCtorEq, false_and, and_false, if_true, if_false, forall_const, true_implies, false_implies, implies_true, qI_wI, qI_wP, qP_wI, qP_wP, qN_wI, qN_wP, and_self, nI_add, pk_mul, nI_clamp, vp_in_nI, ng_1, ng_10, nI_eq32, cs_0, cs_1, cs_2, cs_3, cs_4, cs_5, cs_6, cs_7, cs_8, cs_9, cs_10, cs_11, cs_12, cs_13, cs_14, cs_15, cs_16, cs_17, cs_18, cs_19, cs_20, cs_21, cs_22, cs_23, cs_24, cs_25, cs_26, cs_27, cs_28, cs_29, cs_30, cs_31, cs_32, cs_33, cs_34, cs_35, cs_36, cs_37, cs_38, cs_39, cs_40, cs_41, cs_42, cs_43, cs_44, cs_45, cs_46, cs_47, cs_48, cs_49, cs_50, cs_51, cs_52, cs_53, cs_54, cs_55, cs_56, cs_57, cs_58, cs_59, cs_60, cs_61, cs_62, cs_63, cs_64, cs_97, cs_100, cs_122, cs_200, cs_300, cs_448, cs_1000, al_11, al_12, al_13, al_14, al_15, al_16, al_17, al_18, al_19, al_20, al_21, al_22, al_23, al_24, al_25, al_26, al_27, al_28, al_29, al_30, al_31, al_32, al_33, al_34, al_35, al_36, al_37, al_38, al_39, al_40, al_41, al_42, al_43, al_44, al_45, al_46, al_47, p2, p3, p4, p5, p6, p7, p8, p10, p11, p15, p16, p17, p18, p19, p20, p21, p22, p23, p25, p26, p27, p32, f10, f25, f26, f27, f28, f29, f30, f31, f32, f33, f34, f35, f36, f37, f38, f39, f40, f41, f42, f43, f44, f45, f46, hr1, hr2, hr3, nI_leI]
      exact ⟨fun h => absurd h (by omega), fun _ => ih (k + 1) _ (by omega) ((RF.w (r := 39) (k := 64 * t + k) (v := S 39 (64 * s + k)) (by decide) (RF.w (r := 37) (k := 64 * t + k) (v := S 37 (64 * s + k)) (by decide) (RF.w (r := 36) (k := 64 * t + k) (v := S 36 (64 * s + k)) (by decide) hM1))).eq (fun a b => spCopyK_1 S s t k a b hst (by omega)))⟩
  obtain ⟨p2, p3, p4, p5, p6, p7, p8, p10, p11, p15, p16, p17, p18, p19, p20, p21, p22, p23, p25, p26, p27, p32⟩ := hM.1.1
  obtain ⟨f10, f25, f26, f27, f28, f29, f30, f31, f32, f33, f34, f35, f36, f37, f38, f39, f40, f41, f42, f43, f44, f45, f46⟩ := hM.fs
  have h41b : nI (S 41 s) = nI 0 ∨ nI (S 41 s) = nI 1 := by
    rcases (show S 41 s = 0 ∨ S 41 s = 1 by omega) with h | h <;> rw [h]
    · exact Or.inl rfl
    · exact Or.inr rfl
  refine ev_at hC (fun pc => pc == 62) 9 0 (ls := [some (vm), some (vI s), some (vI t), none]) ?_
  simp only [↓cb_X10_copyLine_0, ↓cb_X10_copyLine_62, ↓cb_X10_copyLine_140, ↓cb_X10_copyLine_142, ↓cb_X10_copyLine_179, ↓te_ald, ↓te_aload, ↓te_ast, ↓te_astZ, ↓te_bin, ↓te_const, ↓te_getP, ↓te_goto, ↓te_icmp, ↓te_iinc, ↓te_iload, ↓te_istore, ↓te_vret, ↓evb_c, ↓evb_n, ↓evk_ap, ↓evm_ap, ↓evm_0, ↓jret_v, ↓jret_n, jget, jset, cond_true, cond_false, Nat.reduceBEq, jc1, List.take_succ_cons, List.take_zero, List.drop_succ_cons, List.drop_zero, List.reverse_cons, List.reverse_nil, List.nil_append, List.cons_append, List.length_cons, List.length_nil, Nat.zero_add, Nat.reduceAdd, beq_self_eq_true, true_and, and_true, Nat.reduceLeDiff, Nat.le_refl, Nat.zero_le, Bool.or_true, Bool.true_or, Bool.or_false, Bool.false_or, Bool.or_self]
  simp (disch := omega) only [Nat.reduceEqDiff, Prod.mk.injEq, Option.some.injEq, true_and, and_true, exists_eq_left', exists_eq_right, exists_and_left, exists_const, true_or, or_true, ne_eq, not_true_eq_false, not_false_eq_true, reduceCtorEq, false_and, and_false, if_true, if_false, forall_const, true_implies, false_implies, implies_true, qI_wI, qI_wP, qP_wI, qP_wP, qN_wI, qN_wP, and_self, nI_add, pk_mul, nI_clamp, vp_in_nI, ng_1, ng_10, nI_eq32, cs_0, cs_1, cs_2, cs_3, cs_4, cs_5, cs_6, cs_7, cs_8, cs_9, cs_10, cs_11, cs_12, cs_13, cs_14, cs_15, cs_16, cs_17, cs_18, cs_19, cs_20, cs_21, cs_22, cs_23, cs_24, cs_25, cs_26, cs_27, cs_28, cs_29, cs_30, cs_31, cs_32, cs_33, cs_34, cs_35, cs_36, cs_37, cs_38, cs_39, cs_40, cs_41, cs_42, cs_43, cs_44, cs_45, cs_46, cs_47, cs_48, cs_49, cs_50, cs_51, cs_52, cs_53, cs_54, cs_55, cs_56, cs_57, cs_58, cs_59, cs_60, cs_61, cs_62, cs_63, cs_64, cs_97, cs_100, cs_122, cs_200, cs_300, cs_448, cs_1000, al_11, al_12, al_13, al_14, al_15, al_16, al_17, al_18, al_19, al_20, al_21, al_22, al_23, al_24, al_25, al_26, al_27, al_28, al_29, al_30, al_31, al_32, al_33, al_34, al_35, al_36, al_37, al_38, al_39, al_40, al_41, al_42, al_43, al_44, al_45, al_46, al_47, p2, p3, p4, p5, p6, p7, p8, p10, p11, p15, p16, p17, p18, p19, p20, p21, p22, p23, p25, p26, p27, p32, f10, f25, f26, f27, f28, f29, f30, f31, f32, f33, f34, f35, f36, f37, f38, f39, f40, f41, f42, f43, f44, f45, f46]
  refine ⟨by omega, ?_⟩
  exact k62 64 0 _ rfl ((RF.w (r := 42) (k := t) (v := S 42 s) (by decide) (RF.w (r := 41) (k := t) (v := S 41 s) (by decide) (RF.w (r := 38) (k := t) (v := S 38 s) (by decide) (RF.w (r := 35) (k := t) (v := S 35 s) (by decide) (RF.w (r := 34) (k := t) (v := S 34 s) (by decide) hM))))).eq (fun a b => spCopyK_0 S s t a b hst))
def spDropK (S : jS) (l k : Nat) : jS := fun a b => if (a = 34 ∨ a = 35 ∨ a = 38 ∨ a = 41 ∨ a = 42) ∧ l ≤ b ∧ b < k then S a (b + 1) else if (a = 36 ∨ a = 37 ∨ a = 39) ∧ 64 * l ≤ b ∧ b < 64 * k then S a (b + 64) else if a = 40 ∧ 448 * l ≤ b ∧ b < 448 * k then S a (b + 448) else S a b
theorem spDropK_s (S : jS) (l k a b : Nat) (h : l ≤ k) : spDropK S l (k + 1) a b = spCopyK (spDropK S l k) (k + 1) k 64 448 a b := by
  simp only [spCopyK, spDropK]
  by_cases h5 : a = 34 ∨ a = 35 ∨ a = 38 ∨ a = 41 ∨ a = 42
  · have h6 : ¬ (a = 36 ∨ a = 37 ∨ a = 39) := by omega
    have h7 : ¬ a = 40 := by omega
    simp only [h5, h6, h7, true_and, false_and, if_false]
    grind
  · by_cases h6 : a = 36 ∨ a = 37 ∨ a = 39
    · have h7 : ¬ a = 40 := by omega
      simp only [h5, h6, h7, true_and, false_and, if_false]
      by_cases h8 : 64 * k ≤ b ∧ b < 64 * k + 64
      · rw [if_pos h8, if_pos (by omega), if_neg (by omega), show 64 * (k + 1) + (b - 64 * k) = b + 64 by omega]
      · rw [if_neg h8]
        by_cases h9 : 64 * l ≤ b ∧ b < 64 * k
        · rw [if_pos h9, if_pos (by omega)]
        · rw [if_neg h9, if_neg (by omega)]
    · by_cases h7 : a = 40
      · subst h7
        by_cases h8 : 448 * k ≤ b ∧ b < 448 * k + 448
        · rw [if_neg (by omega), if_neg (by omega), if_pos (by omega), if_neg (by omega), if_neg (by omega), if_pos (by omega), if_neg (by omega), if_neg (by omega), if_neg (by omega), show 448 * (k + 1) + (b - 448 * k) = b + 448 by omega]
        · by_cases h9 : 448 * l ≤ b ∧ b < 448 * k
          · rw [if_neg (by omega), if_neg (by omega), if_pos (by omega), if_neg (by omega), if_neg (by omega), if_neg (by omega), if_neg (by omega), if_neg (by omega), if_pos (by omega)]
          · rw [if_neg (by omega), if_neg (by omega), if_neg (by omega), if_neg (by omega), if_neg (by omega), if_neg (by omega), if_neg (by omega), if_neg (by omega), if_neg (by omega)]
      · simp only [h5, h6, h7, false_and, if_false]
def spDrop (S : jS) (l : Nat) : jS := sw (spDropK S l (S 10 14 - 1)) 10 14 (S 10 14 - 1)
set_option maxRecDepth 20000 in
set_option maxHeartbeats 20000000 in
theorem mm_drop (G : jx_G) {M0 M : jx_M} {S : jS} {Q : jx_O → jx_M → Prop} {l : Nat} (hl : l < S 10 14) (hn : S 10 14 ≤ 12) (h41 : ∀ k, S 41 k < 2) (hM : RF M0 M S) (hQ : ∀ M', RF M0 M' (spDrop S l) → Q (.inl none) M') : Mt G m_X10_drop [vm, vI l] M Q := by
  refine Mt.of (sc_X10_drop G) (by decide +kernel) (jArgs.of rfl) (Nat.le_of_ble_eq_true rfl) (fun Wn hC => ?_)
  have key : ∀ (d k : Nat) (M1 : jx_M), k + d + 1 = S 10 14 → l ≤ k → RF M0 M1 (spDropK S l k) → Wn 2 [some vm, some (vI l), some (vI k)] [] M1 0 0 := by
    intro d
    induction d with
    | zero =>
      intro k M1 h1 h2 hM1
      have h4 : k = S 10 14 - 1 := by omega
      have h14 : spDropK S l k 10 14 = S 10 14 := rfl
      obtain ⟨p2, p3, p4, p5, p6, p7, p8, p10, p11, p15, p16, p17, p18, p19, p20, p21, p22, p23, p25, p26, p27, p32⟩ := hM1.1.1
      obtain ⟨f10, f25, f26, f27, f28, f29, f30, f31, f32, f33, f34, f35, f36, f37, f38, f39, f40, f41, f42, f43, f44, f45, f46⟩ := hM1.fs
      refine ev_at hC (fun pc => pc == 2) 9 2 (ls := [some (vm), some (vI l), some (vI k)]) ?_
      simp only [↓cb_X10_drop_0, ↓cb_X10_drop_2, ↓cb_X10_drop_26, ↓te_aload, ↓te_bin, ↓te_callV, ↓te_const, ↓te_dup, ↓te_getI, ↓te_goto, ↓te_icmp, ↓te_iinc, ↓te_iload, ↓te_istore, ↓te_putI, ↓te_vret, ↓evb_c, ↓evb_n, ↓evk_ap, ↓evm_ap, ↓evm_0, ↓jret_v, ↓jret_n, jget, jset, cond_true, cond_false, Nat.reduceBEq, jc1, List.take_succ_cons, List.take_zero, List.drop_succ_cons, List.drop_zero, List.reverse_cons, List.reverse_nil, List.nil_append, List.cons_append, List.length_cons, List.length_nil, Nat.zero_add, Nat.reduceAdd, beq_self_eq_true, true_and, and_true, Nat.reduceLeDiff, Nat.le_refl, Nat.zero_le, Bool.or_true, Bool.true_or, Bool.or_false, Bool.false_or, Bool.or_self]
      simp (disch := omega) only [Nat.reduceEqDiff, Prod.mk.injEq, Option.some.injEq, true_and, and_true, exists_eq_left', exists_eq_right, exists_and_left, exists_const, true_or, or_true, ne_eq, not_true_eq_false, not_false_eq_true, reduceCtorEq, false_and, and_false, if_true, if_false, forall_const, true_implies, false_implies, implies_true, qI_wI, qI_wP, qP_wI, qP_wP, qN_wI, qN_wP, and_self, nI_add, pk_mul, nI_clamp, vp_in_nI, ng_1, ng_10, nI_eq32, cs_0, cs_1, cs_2, cs_3, cs_4, cs_5, cs_6, cs_7, cs_8, cs_9, cs_10, cs_11, cs_12, cs_13, cs_14, cs_15, cs_16, cs_17, cs_18, cs_19, cs_20, cs_21, cs_22, cs_23, cs_24, cs_25, cs_26, cs_27, cs_28, cs_29, cs_30, cs_31, cs_32, cs_33, cs_34, cs_35, cs_36, cs_37, cs_38, cs_39, cs_40, cs_41, cs_42, cs_43, cs_44, cs_45, cs_46, cs_47, cs_48, cs_49, cs_50, cs_51, cs_52, cs_53, cs_54, cs_55, cs_56, cs_57, cs_58, cs_59, cs_60, cs_61, cs_62, cs_63, cs_64, cs_97, cs_100, cs_122, cs_200, cs_300, cs_448, cs_1000, al_11, al_12, al_13, al_14, al_15, al_16, al_17, al_18, al_19, al_20, al_21, al_22, al_23, al_24, al_25, al_26, al_27, al_28, al_29, al_30, al_31, al_32, al_33, al_34, al_35, al_36, al_37, al_38, al_39, al_40, al_41, al_42, al_43, al_44, al_45, al_46, al_47, p2, p3, p4, p5, p6, p7, p8, p10, p11, p15, p16, p17, p18, p19, p20, p21, p22, p23, p25, p26, p27, p32, f10, f25, f26, f27, f28, f29, f30, f31, f32, f33, f34, f35, f36, f37, f38, f39, f40, f41, f42, f43, f44, f45, f46, h14, nI_leI]
      refine ⟨fun _ => ?_, fun h => absurd h (by omega)⟩
      rw [pk_sub (by omega)]
      exact hQ _ ((RF.w (r := 10) (k := 14) (v := S 10 14 - 1) (by decide) hM1).eq (fun a b => by rw [h4]; rfl))
    | succ d ih =>
      intro k M1 h1 h2 hM1
      have h14 : spDropK S l k 10 14 = S 10 14 := rfl
      obtain ⟨p2, p3, p4, p5, p6, p7, p8, p10, p11, p15, p16, p17, p18, p19, p20, p21, p22, p23, p25, p26, p27, p32⟩ := hM1.1.1
      obtain ⟨f10, f25, f26, f27, f28, f29, f30, f31, f32, f33, f34, f35, f36, f37, f38, f39, f40, f41, f42, f43, f44, f45, f46⟩ := hM1.fs
      refine ev_at hC (fun pc => pc == 2) 9 2 (ls := [some (vm), some (vI l), some (vI k)]) ?_
      simp only [↓cb_X10_drop_0, ↓cb_X10_drop_2, ↓cb_X10_drop_26, ↓te_aload, ↓te_bin, ↓te_callV, ↓te_const, ↓te_dup, ↓te_getI, ↓te_goto, ↓te_icmp, ↓te_iinc, ↓te_iload, ↓te_istore, ↓te_putI, ↓te_vret, ↓evb_c, ↓evb_n, ↓evk_ap, ↓evm_ap, ↓evm_0, ↓jret_v, ↓jret_n, jget, jset, cond_true, cond_false, Nat.reduceBEq, jc1, List.take_succ_cons, List.take_zero, List.drop_succ_cons, List.drop_zero, List.reverse_cons, List.reverse_nil, List.nil_append, List.cons_append, List.length_cons, List.length_nil, Nat.zero_add, Nat.reduceAdd, beq_self_eq_true, true_and, and_true, Nat.reduceLeDiff, Nat.le_refl, Nat.zero_le, Bool.or_true, Bool.true_or, Bool.or_false, Bool.false_or, Bool.or_self]
      simp (disch := omega) only [Nat.reduceEqDiff, Prod.mk.injEq, Option.some.injEq, true_and, and_true, exists_eq_left', exists_eq_right, exists_and_left, exists_const, true_or, or_true, ne_eq, not_true_eq_false, not_false_eq_true, reduceCtorEq, false_and, and_false, if_true, if_false, forall_const, true_implies, false_implies, implies_true, qI_wI, qI_wP, qP_wI, qP_wP, qN_wI, qN_wP, and_self, nI_add, pk_mul, nI_clamp, vp_in_nI, ng_1, ng_10, nI_eq32, cs_0, cs_1, cs_2, cs_3, cs_4, cs_5, cs_6, cs_7, cs_8, cs_9, cs_10, cs_11, cs_12, cs_13, cs_14, cs_15, cs_16, cs_17, cs_18, cs_19, cs_20, cs_21, cs_22, cs_23, cs_24, cs_25, cs_26, cs_27, cs_28, cs_29, cs_30, cs_31, cs_32, cs_33, cs_34, cs_35, cs_36, cs_37, cs_38, cs_39, cs_40, cs_41, cs_42, cs_43, cs_44, cs_45, cs_46, cs_47, cs_48, cs_49, cs_50, cs_51, cs_52, cs_53, cs_54, cs_55, cs_56, cs_57, cs_58, cs_59, cs_60, cs_61, cs_62, cs_63, cs_64, cs_97, cs_100, cs_122, cs_200, cs_300, cs_448, cs_1000, al_11, al_12, al_13, al_14, al_15, al_16, al_17, al_18, al_19, al_20, al_21, al_22, al_23, al_24, al_25, al_26, al_27, al_28, al_29, al_30, al_31, al_32, al_33, al_34, al_35, al_36, al_37, al_38, al_39, al_40, al_41, al_42, al_43, al_44, al_45, al_46, al_47, p2, p3, p4, p5, p6, p7, p8, p10, p11, p15, p16, p17, p18, p19, p20, p21, p22, p23, p25, p26, p27, p32, f10, f25, f26, f27, f28, f29, f30, f31, f32, f33, f34, f35, f36, f37, f38, f39, f40, f41, f42, f43, f44, f45, f46, h14, nI_leI]
      refine ⟨fun h => absurd h (by omega), fun _ => ?_⟩
      refine mm_copyLine G (M0 := M0) (S := spDropK S l k) (by omega) (by omega) (by omega) ?_ hM1 (fun M2 hM2 => ?_)
      · unfold spDropK
        rw [if_neg (by omega), if_neg (by omega), if_neg (by omega)]
        exact h41 _
      · try simp only [↓cb_X10_drop_0, ↓cb_X10_drop_2, ↓cb_X10_drop_26, ↓te_aload, ↓te_bin, ↓te_callV, ↓te_const, ↓te_dup, ↓te_getI, ↓te_goto, ↓te_icmp, ↓te_iinc, ↓te_iload, ↓te_istore, ↓te_putI, ↓te_vret, ↓evb_c, ↓evb_n, ↓evk_ap, ↓evm_ap, ↓evm_0, ↓jret_v, ↓jret_n, jget, jset, cond_true, cond_false, Nat.reduceBEq, jc1, List.take_succ_cons, List.take_zero, List.drop_succ_cons, List.drop_zero, List.reverse_cons, List.reverse_nil, List.nil_append, List.cons_append, List.length_cons, List.length_nil, Nat.zero_add, Nat.reduceAdd, beq_self_eq_true, true_and, and_true, Nat.reduceLeDiff, Nat.le_refl, Nat.zero_le, Bool.or_true, Bool.true_or, Bool.or_false, Bool.false_or, Bool.or_self]
        try simp (disch := omega) only [Nat.reduceEqDiff, Prod.mk.injEq, Option.some.injEq, true_and, and_true, exists_eq_left', exists_eq_right, exists_and_left, exists_const, true_or, or_true, ne_eq, not_true_eq_false, not_false_eq_true, reduceCtorEq, false_and, and_false, if_true, if_false, forall_const, true_implies, false_implies, implies_true, qI_wI, qI_wP, qP_wI, qP_wP, qN_wI, qN_wP, and_self, nI_add, pk_mul, nI_clamp, vp_in_nI, ng_1, ng_10, nI_eq32, cs_0, cs_1, cs_2, cs_3, cs_4, cs_5, cs_6, cs_7, cs_8, cs_9, cs_10, cs_11, cs_12, cs_13, cs_14, cs_15, cs_16, cs_17, cs_18, cs_19, cs_20, cs_21, cs_22, cs_23, cs_24, cs_25, cs_26, cs_27, cs_28, cs_29, cs_30, cs_31, cs_32, cs_33, cs_34, cs_35, cs_36, cs_37, cs_38, cs_39, cs_40, cs_41, cs_42, cs_43, cs_44, cs_45, cs_46, cs_47, cs_48, cs_49, cs_50, cs_51, cs_52, cs_53, cs_54, cs_55, cs_56, cs_57, cs_58, cs_59, cs_60, cs_61, cs_62, cs_63, cs_64, cs_97, cs_100, cs_122, cs_200, cs_300, cs_448, cs_1000, al_11, al_12, al_13, al_14, al_15, al_16, al_17, al_18, al_19, al_20, al_21, al_22, al_23, al_24, al_25, al_26, al_27, al_28, al_29, al_30, al_31, al_32, al_33, al_34, al_35, al_36, al_37, al_38, al_39, al_40, al_41, al_42, al_43, al_44, al_45, al_46, al_47]
        exact ih (k + 1) M2 (by omega) (by omega) (hM2.eq (fun a b => spDropK_s S l k a b h2))
  refine ev_at hC (fun pc => pc == 2) 3 0 (ls := [some vm, some (vI l), none]) ?_
  try simp only [↓cb_X10_drop_0, ↓cb_X10_drop_2, ↓cb_X10_drop_26, ↓te_aload, ↓te_bin, ↓te_callV, ↓te_const, ↓te_dup, ↓te_getI, ↓te_goto, ↓te_icmp, ↓te_iinc, ↓te_iload, ↓te_istore, ↓te_putI, ↓te_vret, ↓evb_c, ↓evb_n, ↓evk_ap, ↓evm_ap, ↓evm_0, ↓jret_v, ↓jret_n, jget, jset, cond_true, cond_false, Nat.reduceBEq, jc1, List.take_succ_cons, List.take_zero, List.drop_succ_cons, List.drop_zero, List.reverse_cons, List.reverse_nil, List.nil_append, List.cons_append, List.length_cons, List.length_nil, Nat.zero_add, Nat.reduceAdd, beq_self_eq_true, true_and, and_true, Nat.reduceLeDiff, Nat.le_refl, Nat.zero_le, Bool.or_true, Bool.true_or, Bool.or_false, Bool.false_or, Bool.or_self]
  refine key (S 10 14 - 1 - l) l M (by omega) (Nat.le_refl _) (hM.eq (fun a b => ?_))
  unfold spDropK
  rw [if_neg (by omega), if_neg (by omega), if_neg (by omega)]
theorem spHome_row {S : jS} {s a b : Nat} (h : ¬ (a = 27 ∨ a = 28 ∨ a = 29 ∨ a = 30)) : spHome S s a b = S a b := by
  unfold spHome spPut
  split
  · simp only [sw_at]
    rw [if_neg (by omega), if_neg (by omega), if_neg (by omega), if_neg (by omega), if_neg (by omega)]
  · simp only [sw_at]
    rw [if_neg (by omega), if_neg (by omega)]
theorem spHome_30 {S : jS} {s b : Nat} : spHome S s 30 b ≤ S 30 b + 1 := by
  unfold spHome spPut
  split
  · simp only [sw_at]
    by_cases h : b = S 25 s
    · subst h
      simp [sw_at]
    · simp [sw_at, h]
  · simp [sw_at]
def spHomes (l : Nat) : Nat → jS → jS
  | 0, S => S
  | n + 1, S => spHomes l n (spHome S (S 36 (64 * l + n)))
def spKept (S : jS) (l n : Nat) : Nat := sumr (fun k => jb (nI (S 26 (S 36 (64 * l + k))) < nI 12)) 0 n
theorem spHomes_row {l a b : Nat} (h : ¬ (a = 27 ∨ a = 28 ∨ a = 29 ∨ a = 30)) : ∀ (n : Nat) (S : jS), spHomes l n S a b = S a b
  | 0, _ => rfl
  | n + 1, S => by
    unfold spHomes
    rw [spHomes_row h n]
    exact spHome_row h
theorem spKept_home {S : jS} {s l n : Nat} : spKept (spHome S s) l n = spKept S l n := by
  unfold spKept
  refine sumr_congr n (fun k _ _ => ?_)
  rw [spHome_row (a := 36) (by omega), spHome_row (a := 26) (by omega)]
theorem nI_wrap (n : Nat) : nI (n + 4294967296) = nI n := by
  have h1 : nI 4294967296 = 0 := by decide +kernel
  rw [← nI_add, h1]
  simp
theorem sumr_jb {P : Nat → Prop} {hd : ∀ k, Decidable (P k)} : ∀ n, sumr (fun k => @jb (P k) (hd k)) 0 n ≤ n
  | 0 => Nat.le_refl _
  | n + 1 => by
    rw [sumr_s]
    have h1 := sumr_jb (P := P) (hd := hd) n
    have h2 : @jb (P n) (hd n) ≤ 1 := by unfold jb; split <;> omega
    omega
set_option maxRecDepth 20000 in
set_option maxHeartbeats 20000000 in
theorem mm_putLineBack (G : jx_G) {M0 M : jx_M} {S : jS} {Q : jx_O → jx_M → Prop} {l : Nat} (hll : l < S 10 14) (hnl : S 10 14 ≤ 12) (hL : LOK S l) (hF : FOK S) (h41 : ∀ k, S 41 k < 2) (hc : ∀ k, k < 58 → S 30 k + S 35 l ≤ 300) (hM : RF M0 M S) (hQ : ∀ M', RF M0 M' (spDrop (spEmpty (spHomes l (S 35 l) S) l) l) → Q (rI (spKept S l (S 35 l))) M') : Mt G m_X10_putLineBack [vm, vI l] M Q := by
  refine Mt.of (sc_X10_putLineBack G) (by decide +kernel) (jArgs.of rfl) (Nat.le_of_ble_eq_true rfl) (fun Wn hC => ?_)
  obtain ⟨hl, hm, hg, hs⟩ := hL
  have key : ∀ (n h : Nat) (M1 : jx_M) (S1 : jS), n ≤ 60 → h ≤ 60 → RF M0 M1 S1 → S1 10 14 = S 10 14 → S1 38 l = S 38 l → (∀ k, S1 41 k < 2) → FOK S1 → (∀ k, k < n → S1 36 (64 * l + k) < 300) → (∀ k, k < 58 → S1 30 k + n ≤ 300) → h + n ≤ 60 → (∀ M', RF M0 M' (spDrop (spEmpty (spHomes l n S1) l) l) → Q (rI (h + spKept S1 l n)) M') → Wn 11 [some vm, some (vI l), some (vI h), some (vI (n + 4294967295))] [] M1 0 0 := by
    intro n
    induction n with
    | zero =>
      intro h M1 S1 hn9 hh9 hM1 h14 h38 h41 hF hs hc hhn hQ1
      refine ev_at hC (fun pc => pc == 11 || pc == 39) 9 11 (ls := [some (vm), some (vI l), some (vI h), some (vI (0 + 4294967295))]) ?_
      simp only [↓cb_X10_putLineBack_0, ↓cb_X10_putLineBack_11, ↓cb_X10_putLineBack_38, ↓cb_X10_putLineBack_39, ↓cb_X10_putLineBack_47, ↓te_ald, ↓te_aload, ↓te_bin, ↓te_callV, ↓te_const, ↓te_getP, ↓te_goto, ↓te_if, ↓te_iinc, ↓te_iload, ↓te_iret, ↓te_istore, ↓evb_c, ↓evb_n, ↓evk_ap, ↓evm_ap, ↓evm_0, ↓jret_v, ↓jret_n, jget, jset, cond_true, cond_false, Nat.reduceBEq, jc1, List.take_succ_cons, List.take_zero, List.drop_succ_cons, List.drop_zero, List.reverse_cons, List.reverse_nil, List.nil_append, List.cons_append, List.length_cons, List.length_nil, Nat.zero_add, Nat.reduceAdd, beq_self_eq_true, true_and, and_true, Nat.reduceLeDiff, Nat.le_refl, Nat.zero_le, Bool.or_true, Bool.true_or, Bool.or_false, Bool.false_or, Bool.or_self]
      simp (disch := omega) only [Nat.reduceEqDiff, Prod.mk.injEq, Option.some.injEq, true_and, and_true, exists_eq_left', exists_eq_right, exists_and_left, exists_const, true_or, or_true, ne_eq, not_true_eq_false, not_false_eq_true, reduceCtorEq, false_and, and_false, if_true, if_false, forall_const, true_implies, false_implies, implies_true, qI_wI, qI_wP, qP_wI, qP_wP, qN_wI, qN_wP, and_self, nI_add, pk_mul, nI_clamp, vp_in_nI, ng_1, ng_10, nI_eq32, cs_0, cs_1, cs_2, cs_3, cs_4, cs_5, cs_6, cs_7, cs_8, cs_9, cs_10, cs_11, cs_12, cs_13, cs_14, cs_15, cs_16, cs_17, cs_18, cs_19, cs_20, cs_21, cs_22, cs_23, cs_24, cs_25, cs_26, cs_27, cs_28, cs_29, cs_30, cs_31, cs_32, cs_33, cs_34, cs_35, cs_36, cs_37, cs_38, cs_39, cs_40, cs_41, cs_42, cs_43, cs_44, cs_45, cs_46, cs_47, cs_48, cs_49, cs_50, cs_51, cs_52, cs_53, cs_54, cs_55, cs_56, cs_57, cs_58, cs_59, cs_60, cs_61, cs_62, cs_63, cs_64, cs_97, cs_100, cs_122, cs_200, cs_300, cs_448, cs_1000, al_11, al_12, al_13, al_14, al_15, al_16, al_17, al_18, al_19, al_20, al_21, al_22, al_23, al_24, al_25, al_26, al_27, al_28, al_29, al_30, al_31, al_32, al_33, al_34, al_35, al_36, al_37, al_38, al_39, al_40, al_41, al_42, al_43, al_44, al_45, al_46, al_47]
      refine ⟨fun _ => ?_, fun h9 => absurd (show nI (0 + 4294967295) < nI 0 by decide +kernel) h9⟩
      refine mm_empty G hl (by omega) hM1 (fun M2 hM2 => ?_)
      try simp only [↓cb_X10_putLineBack_0, ↓cb_X10_putLineBack_11, ↓cb_X10_putLineBack_38, ↓cb_X10_putLineBack_39, ↓cb_X10_putLineBack_47, ↓te_ald, ↓te_aload, ↓te_bin, ↓te_callV, ↓te_const, ↓te_getP, ↓te_goto, ↓te_if, ↓te_iinc, ↓te_iload, ↓te_iret, ↓te_istore, ↓evb_c, ↓evb_n, ↓evk_ap, ↓evm_ap, ↓evm_0, ↓jret_v, ↓jret_n, jget, jset, cond_true, cond_false, Nat.reduceBEq, jc1, List.take_succ_cons, List.take_zero, List.drop_succ_cons, List.drop_zero, List.reverse_cons, List.reverse_nil, List.nil_append, List.cons_append, List.length_cons, List.length_nil, Nat.zero_add, Nat.reduceAdd, beq_self_eq_true, true_and, and_true, Nat.reduceLeDiff, Nat.le_refl, Nat.zero_le, Bool.or_true, Bool.true_or, Bool.or_false, Bool.false_or, Bool.or_self]
      try simp (disch := omega) only [Nat.reduceEqDiff, Prod.mk.injEq, Option.some.injEq, true_and, and_true, exists_eq_left', exists_eq_right, exists_and_left, exists_const, true_or, or_true, ne_eq, not_true_eq_false, not_false_eq_true, reduceCtorEq, false_and, and_false, if_true, if_false, forall_const, true_implies, false_implies, implies_true, qI_wI, qI_wP, qP_wI, qP_wP, qN_wI, qN_wP, and_self, nI_add, pk_mul, nI_clamp, vp_in_nI, ng_1, ng_10, nI_eq32, cs_0, cs_1, cs_2, cs_3, cs_4, cs_5, cs_6, cs_7, cs_8, cs_9, cs_10, cs_11, cs_12, cs_13, cs_14, cs_15, cs_16, cs_17, cs_18, cs_19, cs_20, cs_21, cs_22, cs_23, cs_24, cs_25, cs_26, cs_27, cs_28, cs_29, cs_30, cs_31, cs_32, cs_33, cs_34, cs_35, cs_36, cs_37, cs_38, cs_39, cs_40, cs_41, cs_42, cs_43, cs_44, cs_45, cs_46, cs_47, cs_48, cs_49, cs_50, cs_51, cs_52, cs_53, cs_54, cs_55, cs_56, cs_57, cs_58, cs_59, cs_60, cs_61, cs_62, cs_63, cs_64, cs_97, cs_100, cs_122, cs_200, cs_300, cs_448, cs_1000, al_11, al_12, al_13, al_14, al_15, al_16, al_17, al_18, al_19, al_20, al_21, al_22, al_23, al_24, al_25, al_26, al_27, al_28, al_29, al_30, al_31, al_32, al_33, al_34, al_35, al_36, al_37, al_38, al_39, al_40, al_41, al_42, al_43, al_44, al_45, al_46, al_47]
      have e14 : spEmpty S1 l 10 14 = S1 10 14 := by unfold spEmpty spEmptyK; rw [if_neg (by omega), if_neg (by omega)]
      refine mm_drop G (S := spEmpty S1 l) (by omega) (by omega) (fun k => ?_) hM2 (fun M3 hM3 => ?_)
      · unfold spEmpty spEmptyK
        rw [if_neg (by omega), if_neg (by omega)]
        exact h41 k
      · try simp only [↓cb_X10_putLineBack_0, ↓cb_X10_putLineBack_11, ↓cb_X10_putLineBack_38, ↓cb_X10_putLineBack_39, ↓cb_X10_putLineBack_47, ↓te_ald, ↓te_aload, ↓te_bin, ↓te_callV, ↓te_const, ↓te_getP, ↓te_goto, ↓te_if, ↓te_iinc, ↓te_iload, ↓te_iret, ↓te_istore, ↓evb_c, ↓evb_n, ↓evk_ap, ↓evm_ap, ↓evm_0, ↓jret_v, ↓jret_n, jget, jset, cond_true, cond_false, Nat.reduceBEq, jc1, List.take_succ_cons, List.take_zero, List.drop_succ_cons, List.drop_zero, List.reverse_cons, List.reverse_nil, List.nil_append, List.cons_append, List.length_cons, List.length_nil, Nat.zero_add, Nat.reduceAdd, beq_self_eq_true, true_and, and_true, Nat.reduceLeDiff, Nat.le_refl, Nat.zero_le, Bool.or_true, Bool.true_or, Bool.or_false, Bool.false_or, Bool.or_self]
        exact hQ1 _ hM3
    | succ n ih =>
      intro h M1 S1 hn9 hh9 hM1 h14 h38 h41 hF hs hc hhn hQ1
      have hs1 := hs n (Nat.lt_succ_self n)
      have hf1 := hF (S1 36 (64 * l + n))
      have hc1 := hc _ hf1
      rw [show n + 1 + 4294967295 = n + 4294967296 by omega]
      have k39 : ∀ (v : Nat) (M2 : jx_M), v < 2 → RF M0 M2 (spHome S1 (S1 36 (64 * l + n))) → v = jb (nI (S1 26 (S1 36 (64 * l + n))) < nI 12) → Wn 39 [some vm, some (vI l), some (vI h), some (vI n)] [vI v, vI h] M2 0 0 := by
        intro v M2 hv hM2 hv2
        refine ev_at hC (fun pc => pc == 11) 9 39 (ls := [some vm, some (vI l), some (vI h), some (vI n)]) ?_
        try simp only [↓cb_X10_putLineBack_0, ↓cb_X10_putLineBack_11, ↓cb_X10_putLineBack_38, ↓cb_X10_putLineBack_39, ↓cb_X10_putLineBack_47, ↓te_ald, ↓te_aload, ↓te_bin, ↓te_callV, ↓te_const, ↓te_getP, ↓te_goto, ↓te_if, ↓te_iinc, ↓te_iload, ↓te_iret, ↓te_istore, ↓evb_c, ↓evb_n, ↓evk_ap, ↓evm_ap, ↓evm_0, ↓jret_v, ↓jret_n, jget, jset, cond_true, cond_false, Nat.reduceBEq, jc1, List.take_succ_cons, List.take_zero, List.drop_succ_cons, List.drop_zero, List.reverse_cons, List.reverse_nil, List.nil_append, List.cons_append, List.length_cons, List.length_nil, Nat.zero_add, Nat.reduceAdd, beq_self_eq_true, true_and, and_true, Nat.reduceLeDiff, Nat.le_refl, Nat.zero_le, Bool.or_true, Bool.true_or, Bool.or_false, Bool.false_or, Bool.or_self]
        rw [nI_add, show nI n + -1 = nI (n + 4294967295) by rw [← nI_add, ← ng_1]; rfl]
        refine ih (h + v) M2 _ (by omega) (by omega) hM2 ?_ ?_ ?_ ?_ ?_ ?_ (by omega) ?_
        · rw [spHome_row (by omega)]; exact h14
        · rw [spHome_row (by omega)]; exact h38
        · intro k; rw [spHome_row (by omega)]; exact h41 k
        · intro k; rw [spHome_row (by omega)]; exact hF k
        · intro k hk; rw [spHome_row (by omega)]; exact hs k (by omega)
        · intro k hk
          have h1 := hc k hk
          have h2 := spHome_30 (S := S1) (s := S1 36 (64 * l + n)) (b := k)
          omega
        · intro M' hM'
          have h1 := hQ1 M' hM'
          rw [show h + spKept S1 l (n + 1) = h + v + spKept (spHome S1 (S1 36 (64 * l + n))) l n by
            rw [spKept_home]
            unfold spKept
            rw [sumr_s, hv2]
            omega] at h1
          exact h1
      obtain ⟨p2, p3, p4, p5, p6, p7, p8, p10, p11, p15, p16, p17, p18, p19, p20, p21, p22, p23, p25, p26, p27, p32⟩ := hM1.1.1
      obtain ⟨f10, f25, f26, f27, f28, f29, f30, f31, f32, f33, f34, f35, f36, f37, f38, f39, f40, f41, f42, f43, f44, f45, f46⟩ := hM1.fs
      rw [show vI (n + 4294967296) = vI n from congrArg Sum.inl (nI_wrap n)]
      refine ev_at hC (fun pc => pc == 11 || pc == 39) 9 11 (ls := [some (vm), some (vI l), some (vI h), some (vI n)]) ?_
      simp only [↓cb_X10_putLineBack_0, ↓cb_X10_putLineBack_11, ↓cb_X10_putLineBack_38, ↓cb_X10_putLineBack_39, ↓cb_X10_putLineBack_47, ↓te_ald, ↓te_aload, ↓te_bin, ↓te_callV, ↓te_const, ↓te_getP, ↓te_goto, ↓te_if, ↓te_iinc, ↓te_iload, ↓te_iret, ↓te_istore, ↓evb_c, ↓evb_n, ↓evk_ap, ↓evm_ap, ↓evm_0, ↓jret_v, ↓jret_n, jget, jset, cond_true, cond_false, Nat.reduceBEq, jc1, List.take_succ_cons, List.take_zero, List.drop_succ_cons, List.drop_zero, List.reverse_cons, List.reverse_nil, List.nil_append, List.cons_append, List.length_cons, List.length_nil, Nat.zero_add, Nat.reduceAdd, beq_self_eq_true, true_and, and_true, Nat.reduceLeDiff, Nat.le_refl, Nat.zero_le, Bool.or_true, Bool.true_or, Bool.or_false, Bool.false_or, Bool.or_self]
      simp (disch := omega) only [Nat.reduceEqDiff, Prod.mk.injEq, Option.some.injEq, true_and, and_true, exists_eq_left', exists_eq_right, exists_and_left, exists_const, true_or, or_true, ne_eq, not_true_eq_false, not_false_eq_true, reduceCtorEq, false_and, and_false, if_true, if_false, forall_const, true_implies, false_implies, implies_true, qI_wI, qI_wP, qP_wI, qP_wP, qN_wI, qN_wP, and_self, nI_add, pk_mul, nI_clamp, vp_in_nI, ng_1, ng_10, nI_eq32, cs_0, cs_1, cs_2, cs_3, cs_4, cs_5, cs_6, cs_7, cs_8, cs_9, cs_10, cs_11, cs_12, cs_13, cs_14, cs_15, cs_16, cs_17, cs_18, cs_19, cs_20, cs_21, cs_22, cs_23, cs_24, cs_25, cs_26, cs_27, cs_28, cs_29, cs_30, cs_31, cs_32, cs_33, cs_34, cs_35, cs_36, cs_37, cs_38, cs_39, cs_40, cs_41, cs_42, cs_43, cs_44, cs_45, cs_46, cs_47, cs_48, cs_49, cs_50, cs_51, cs_52, cs_53, cs_54, cs_55, cs_56, cs_57, cs_58, cs_59, cs_60, cs_61, cs_62, cs_63, cs_64, cs_97, cs_100, cs_122, cs_200, cs_300, cs_448, cs_1000, al_11, al_12, al_13, al_14, al_15, al_16, al_17, al_18, al_19, al_20, al_21, al_22, al_23, al_24, al_25, al_26, al_27, al_28, al_29, al_30, al_31, al_32, al_33, al_34, al_35, al_36, al_37, al_38, al_39, al_40, al_41, al_42, al_43, al_44, al_45, al_46, al_47, p2, p3, p4, p5, p6, p7, p8, p10, p11, p15, p16, p17, p18, p19, p20, p21, p22, p23, p25, p26, p27, p32, f10, f25, f26, f27, f28, f29, f30, f31, f32, f33, f34, f35, f36, f37, f38, f39, f40, f41, f42, f43, f44, f45, f46, nI_ltI]
      refine ⟨fun h9 => absurd h9 (by omega), fun _ => ?_⟩
      refine mm_putHome G hs1 hf1 (by omega) hM1 (fun M2 hM2 => ?_)
      by_cases hw : nI (S1 26 (S1 36 (64 * l + n))) < nI 12
      · rw [jb_t hw]
        try simp only [↓cb_X10_putLineBack_0, ↓cb_X10_putLineBack_11, ↓cb_X10_putLineBack_38, ↓cb_X10_putLineBack_39, ↓cb_X10_putLineBack_47, ↓te_ald, ↓te_aload, ↓te_bin, ↓te_callV, ↓te_const, ↓te_getP, ↓te_goto, ↓te_if, ↓te_iinc, ↓te_iload, ↓te_iret, ↓te_istore, ↓evb_c, ↓evb_n, ↓evk_ap, ↓evm_ap, ↓evm_0, ↓jret_v, ↓jret_n, jget, jset, cond_true, cond_false, Nat.reduceBEq, jc1, List.take_succ_cons, List.take_zero, List.drop_succ_cons, List.drop_zero, List.reverse_cons, List.reverse_nil, List.nil_append, List.cons_append, List.length_cons, List.length_nil, Nat.zero_add, Nat.reduceAdd, beq_self_eq_true, true_and, and_true, Nat.reduceLeDiff, Nat.le_refl, Nat.zero_le, Bool.or_true, Bool.true_or, Bool.or_false, Bool.false_or, Bool.or_self]
        try simp (disch := omega) only [Nat.reduceEqDiff, Prod.mk.injEq, Option.some.injEq, true_and, and_true, exists_eq_left', exists_eq_right, exists_and_left, exists_const, true_or, or_true, ne_eq, not_true_eq_false, not_false_eq_true, reduceCtorEq, false_and, and_false, if_true, if_false, forall_const, true_implies, false_implies, implies_true, qI_wI, qI_wP, qP_wI, qP_wP, qN_wI, qN_wP, and_self, nI_add, pk_mul, nI_clamp, vp_in_nI, ng_1, ng_10, nI_eq32, cs_0, cs_1, cs_2, cs_3, cs_4, cs_5, cs_6, cs_7, cs_8, cs_9, cs_10, cs_11, cs_12, cs_13, cs_14, cs_15, cs_16, cs_17, cs_18, cs_19, cs_20, cs_21, cs_22, cs_23, cs_24, cs_25, cs_26, cs_27, cs_28, cs_29, cs_30, cs_31, cs_32, cs_33, cs_34, cs_35, cs_36, cs_37, cs_38, cs_39, cs_40, cs_41, cs_42, cs_43, cs_44, cs_45, cs_46, cs_47, cs_48, cs_49, cs_50, cs_51, cs_52, cs_53, cs_54, cs_55, cs_56, cs_57, cs_58, cs_59, cs_60, cs_61, cs_62, cs_63, cs_64, cs_97, cs_100, cs_122, cs_200, cs_300, cs_448, cs_1000, al_11, al_12, al_13, al_14, al_15, al_16, al_17, al_18, al_19, al_20, al_21, al_22, al_23, al_24, al_25, al_26, al_27, al_28, al_29, al_30, al_31, al_32, al_33, al_34, al_35, al_36, al_37, al_38, al_39, al_40, al_41, al_42, al_43, al_44, al_45, al_46, al_47]
        exact k39 1 M2 (by omega) hM2 (jb_t hw).symm
      · rw [jb_f hw]
        try simp only [↓cb_X10_putLineBack_0, ↓cb_X10_putLineBack_11, ↓cb_X10_putLineBack_38, ↓cb_X10_putLineBack_39, ↓cb_X10_putLineBack_47, ↓te_ald, ↓te_aload, ↓te_bin, ↓te_callV, ↓te_const, ↓te_getP, ↓te_goto, ↓te_if, ↓te_iinc, ↓te_iload, ↓te_iret, ↓te_istore, ↓evb_c, ↓evb_n, ↓evk_ap, ↓evm_ap, ↓evm_0, ↓jret_v, ↓jret_n, jget, jset, cond_true, cond_false, Nat.reduceBEq, jc1, List.take_succ_cons, List.take_zero, List.drop_succ_cons, List.drop_zero, List.reverse_cons, List.reverse_nil, List.nil_append, List.cons_append, List.length_cons, List.length_nil, Nat.zero_add, Nat.reduceAdd, beq_self_eq_true, true_and, and_true, Nat.reduceLeDiff, Nat.le_refl, Nat.zero_le, Bool.or_true, Bool.true_or, Bool.or_false, Bool.false_or, Bool.or_self]
        try simp (disch := omega) only [Nat.reduceEqDiff, Prod.mk.injEq, Option.some.injEq, true_and, and_true, exists_eq_left', exists_eq_right, exists_and_left, exists_const, true_or, or_true, ne_eq, not_true_eq_false, not_false_eq_true, reduceCtorEq, false_and, and_false, if_true, if_false, forall_const, true_implies, false_implies, implies_true, qI_wI, qI_wP, qP_wI, qP_wP, qN_wI, qN_wP, and_self, nI_add, pk_mul, nI_clamp, vp_in_nI, ng_1, ng_10, nI_eq32, cs_0, cs_1, cs_2, cs_3, cs_4, cs_5, cs_6, cs_7, cs_8, cs_9, cs_10, cs_11, cs_12, cs_13, cs_14, cs_15, cs_16, cs_17, cs_18, cs_19, cs_20, cs_21, cs_22, cs_23, cs_24, cs_25, cs_26, cs_27, cs_28, cs_29, cs_30, cs_31, cs_32, cs_33, cs_34, cs_35, cs_36, cs_37, cs_38, cs_39, cs_40, cs_41, cs_42, cs_43, cs_44, cs_45, cs_46, cs_47, cs_48, cs_49, cs_50, cs_51, cs_52, cs_53, cs_54, cs_55, cs_56, cs_57, cs_58, cs_59, cs_60, cs_61, cs_62, cs_63, cs_64, cs_97, cs_100, cs_122, cs_200, cs_300, cs_448, cs_1000, al_11, al_12, al_13, al_14, al_15, al_16, al_17, al_18, al_19, al_20, al_21, al_22, al_23, al_24, al_25, al_26, al_27, al_28, al_29, al_30, al_31, al_32, al_33, al_34, al_35, al_36, al_37, al_38, al_39, al_40, al_41, al_42, al_43, al_44, al_45, al_46, al_47]
        exact k39 0 M2 (by omega) hM2 (jb_f hw).symm
  obtain ⟨p2, p3, p4, p5, p6, p7, p8, p10, p11, p15, p16, p17, p18, p19, p20, p21, p22, p23, p25, p26, p27, p32⟩ := hM.1.1
  obtain ⟨f10, f25, f26, f27, f28, f29, f30, f31, f32, f33, f34, f35, f36, f37, f38, f39, f40, f41, f42, f43, f44, f45, f46⟩ := hM.fs
  refine ev_at hC (fun pc => pc == 11) 9 0 (ls := [some (vm), some (vI l), none, none]) ?_
  simp only [↓cb_X10_putLineBack_0, ↓cb_X10_putLineBack_11, ↓cb_X10_putLineBack_38, ↓cb_X10_putLineBack_39, ↓cb_X10_putLineBack_47, ↓te_ald, ↓te_aload, ↓te_bin, ↓te_callV, ↓te_const, ↓te_getP, ↓te_goto, ↓te_if, ↓te_iinc, ↓te_iload, ↓te_iret, ↓te_istore, ↓evb_c, ↓evb_n, ↓evk_ap, ↓evm_ap, ↓evm_0, ↓jret_v, ↓jret_n, jget, jset, cond_true, cond_false, Nat.reduceBEq, jc1, List.take_succ_cons, List.take_zero, List.drop_succ_cons, List.drop_zero, List.reverse_cons, List.reverse_nil, List.nil_append, List.cons_append, List.length_cons, List.length_nil, Nat.zero_add, Nat.reduceAdd, beq_self_eq_true, true_and, and_true, Nat.reduceLeDiff, Nat.le_refl, Nat.zero_le, Bool.or_true, Bool.true_or, Bool.or_false, Bool.false_or, Bool.or_self]
  simp (disch := omega) only [Nat.reduceEqDiff, Prod.mk.injEq, Option.some.injEq, true_and, and_true, exists_eq_left', exists_eq_right, exists_and_left, exists_const, true_or, or_true, ne_eq, not_true_eq_false, not_false_eq_true, reduceCtorEq, false_and, and_false, if_true, if_false, forall_const, true_implies, false_implies, implies_true, qI_wI, qI_wP, qP_wI, qP_wP, qN_wI, qN_wP, and_self, nI_add, pk_mul, nI_clamp, vp_in_nI, ng_1, ng_10, nI_eq32, cs_0, cs_1, cs_2, cs_3, cs_4, cs_5, cs_6, cs_7, cs_8, cs_9, cs_10, cs_11, cs_12, cs_13, cs_14, cs_15, cs_16, cs_17, cs_18, cs_19, cs_20, cs_21, cs_22, cs_23, cs_24, cs_25, cs_26, cs_27, cs_28, cs_29, cs_30, cs_31, cs_32, cs_33, cs_34, cs_35, cs_36, cs_37, cs_38, cs_39, cs_40, cs_41, cs_42, cs_43, cs_44, cs_45, cs_46, cs_47, cs_48, cs_49, cs_50, cs_51, cs_52, cs_53, cs_54, cs_55, cs_56, cs_57, cs_58, cs_59, cs_60, cs_61, cs_62, cs_63, cs_64, cs_97, cs_100, cs_122, cs_200, cs_300, cs_448, cs_1000, al_11, al_12, al_13, al_14, al_15, al_16, al_17, al_18, al_19, al_20, al_21, al_22, al_23, al_24, al_25, al_26, al_27, al_28, al_29, al_30, al_31, al_32, al_33, al_34, al_35, al_36, al_37, al_38, al_39, al_40, al_41, al_42, al_43, al_44, al_45, al_46, al_47, p2, p3, p4, p5, p6, p7, p8, p10, p11, p15, p16, p17, p18, p19, p20, p21, p22, p23, p25, p26, p27, p32, f10, f25, f26, f27, f28, f29, f30, f31, f32, f33, f34, f35, f36, f37, f38, f39, f40, f41, f42, f43, f44, f45, f46]
  rw [show nI (S 35 l) - nI 1 = nI (S 35 l + 4294967295) by rw [← nI_add, ← ng_1]; exact Int32.sub_eq_add_neg ..]
  refine key (S 35 l) 0 M S hm (by omega) hM rfl rfl h41 hF hs hc (by omega) (fun M' hM' => ?_)
  rw [Nat.zero_add]
  exact hQ M' hM'
