/-! THE REFERENCE: piles kept, brought back, pick; spaces -/
def spKeep (S : jS) : jS := fun a b => if a = 46 ∧ b < 58 then S 30 b else S a b
set_option maxRecDepth 20000 in
set_option maxHeartbeats 20000000 in
theorem mm_keepPiles (G : jx_G) {M0 M : jx_M} {S : jS} {Q : jx_O → jx_M → Prop} (hM : RF M0 M S) (hQ : ∀ M', RF M0 M' (spKeep S) → Q (.inl none) M') : Mt G m_X10_keepPiles [vm] M Q := by
  refine Mt.of (sc_X10_keepPiles G) (by decide +kernel) (jArgs.of rfl) (Nat.le_of_ble_eq_true rfl) (fun Wn hC => ?_)
  have key : ∀ (d k : Nat) (M1 : jx_M), k + d = 58 → RF M0 M1 (fun a b => if a = 46 ∧ b < k then S 30 b else S a b) → Wn 2 [some vm, some (vI k)] [] M1 0 0 := by
    intro d
    induction d with
    | zero =>
      intro k M1 h1 hM1
      have h4 : k = 58 := by omega
      subst h4
      refine ev_at hC (fun pc => pc == 2) 9 2 (ls := [some (vm), some (vI 58)]) ?_
      simp only [↓cb_X10_keepPiles_0, ↓cb_X10_keepPiles_2, ↓cb_X10_keepPiles_26, ↓te_ald, ↓te_aload, ↓te_ast, ↓te_const, ↓te_getP, ↓te_goto, ↓te_icmp, ↓te_iinc, ↓te_iload, ↓te_istore, ↓te_vret, ↓evb_c, ↓evb_n, ↓evk_ap, ↓evm_ap, ↓evm_0, ↓jret_v, ↓jret_n, jget, jset, cond_true, cond_false, Nat.reduceBEq, jc1, List.take_succ_cons, List.take_zero, List.drop_succ_cons, List.drop_zero, List.reverse_cons, List.reverse_nil, List.nil_append, List.cons_append, List.length_cons, List.length_nil, Nat.zero_add, Nat.reduceAdd, beq_self_eq_true, true_and, and_true, Nat.reduceLeDiff, Nat.le_refl, Nat.zero_le, Bool.or_true, Bool.true_or, Bool.or_false, Bool.false_or, Bool.or_self]
      simp (disch := omega) only [Nat.reduceEqDiff, Prod.mk.injEq, Option.some.injEq, true_and, and_true, exists_eq_left', exists_eq_right, exists_and_left, exists_const, true_or, or_true, ne_eq, not_true_eq_false, not_false_eq_true, reduceCtorEq, false_and, and_false, if_true, if_false, forall_const, true_implies, false_implies, implies_true, qI_wI, qI_wP, qP_wI, qP_wP, qN_wI, qN_wP, and_self, nI_add, pk_mul, nI_clamp, vp_in_nI, ng_1, ng_10, nI_eq32, cs_0, cs_1, cs_2, cs_3, cs_4, cs_5, cs_6, cs_7, cs_8, cs_9, cs_10, cs_11, cs_12, cs_13, cs_14, cs_15, cs_16, cs_17, cs_18, cs_19, cs_20, cs_21, cs_22, cs_23, cs_24, cs_25, cs_26, cs_27, cs_28, cs_29, cs_30, cs_31, cs_32, cs_33, cs_34, cs_35, cs_36, cs_37, cs_38, cs_39, cs_40, cs_41, cs_42, cs_43, cs_44, cs_45, cs_46, cs_47, cs_48, cs_49, cs_50, cs_51, cs_52, cs_53, cs_54, cs_55, cs_56, cs_57, cs_58, cs_59, cs_60, cs_61, cs_62, cs_63, cs_64, cs_97, cs_100, cs_122, cs_200, cs_300, cs_448, cs_1000, al_11, al_12, al_13, al_14, al_15, al_16, al_17, al_18, al_19, al_20, al_21, al_22, al_23, al_24, al_25, al_26, al_27, al_28, al_29, al_30, al_31, al_32, al_33, al_34, al_35, al_36, al_37, al_38, al_39, al_40, al_41, al_42, al_43, al_44, al_45, al_46, al_47, nI_leI]
      exact ⟨fun _ => hQ _ hM1, fun h => absurd (Nat.le_refl _) h⟩
    | succ d ih =>
      intro k M1 h1 hM1
      obtain ⟨p2, p3, p4, p5, p6, p7, p8, p10, p11, p15, p16, p17, p18, p19, p20, p21, p22, p23, p25, p26, p27, p32⟩ := hM1.1.1
      obtain ⟨f10, f25, f26, f27, f28, f29, f30, f31, f32, f33, f34, f35, f36, f37, f38, f39, f40, f41, f42, f43, f44, f45, f46⟩ := hM1.fs
      refine ev_at hC (fun pc => pc == 2) 9 2 (ls := [some (vm), some (vI k)]) ?_
      simp only [↓cb_X10_keepPiles_0, ↓cb_X10_keepPiles_2, ↓cb_X10_keepPiles_26, ↓te_ald, ↓te_aload, ↓te_ast, ↓te_const, ↓te_getP, ↓te_goto, ↓te_icmp, ↓te_iinc, ↓te_iload, ↓te_istore, ↓te_vret, ↓evb_c, ↓evb_n, ↓evk_ap, ↓evm_ap, ↓evm_0, ↓jret_v, ↓jret_n, jget, jset, cond_true, cond_false, Nat.reduceBEq, jc1, List.take_succ_cons, List.take_zero, List.drop_succ_cons, List.drop_zero, List.reverse_cons, List.reverse_nil, List.nil_append, List.cons_append, List.length_cons, List.length_nil, Nat.zero_add, Nat.reduceAdd, beq_self_eq_true, true_and, and_true, Nat.reduceLeDiff, Nat.le_refl, Nat.zero_le, Bool.or_true, Bool.true_or, Bool.or_false, Bool.false_or, Bool.or_self]
      simp (disch := omega) only [Nat.reduceEqDiff, Prod.mk.injEq, Option.some.injEq, true_and, and_true, exists_eq_left', exists_eq_right, exists_and_left, exists_const, true_or, or_true, ne_eq, not_true_eq_false, not_false_eq_true, reduceCtorEq, false_and, and_false, if_true, if_false, forall_const, true_implies, false_implies, implies_true, qI_wI, qI_wP, qP_wI, qP_wP, qN_wI, qN_wP, and_self, nI_add, pk_mul, nI_clamp, vp_in_nI, ng_1, ng_10, nI_eq32, cs_0, cs_1, cs_2, cs_3, cs_4, cs_5, cs_6, cs_7, cs_8, cs_9, cs_10, cs_11, cs_12, cs_13, cs_14, cs_15, cs_16, cs_17, cs_18, cs_19, cs_20, cs_21, cs_22, cs_23, cs_24, cs_25, cs_26, cs_27, cs_28, cs_29, cs_30, cs_31, cs_32, cs_33, cs_34, cs_35, cs_36, cs_37, cs_38, cs_39, cs_40, cs_41, cs_42, cs_43, cs_44, cs_45, cs_46, cs_47, cs_48, cs_49, cs_50, cs_51, cs_52, cs_53, cs_54, cs_55, cs_56, cs_57, cs_58, cs_59, cs_60, cs_61, cs_62, cs_63, cs_64, cs_97, cs_100, cs_122, cs_200, cs_300, cs_448, cs_1000, al_11, al_12, al_13, al_14, al_15, al_16, al_17, al_18, al_19, al_20, al_21, al_22, al_23, al_24, al_25, al_26, al_27, al_28, al_29, al_30, al_31, al_32, al_33, al_34, al_35, al_36, al_37, al_38, al_39, al_40, al_41, al_42, al_43, al_44, al_45, al_46, al_47, p2, p3, p4, p5, p6, p7, p8, p10, p11, p15, p16, p17, p18, p19, p20, p21, p22, p23, p25, p26, p27, p32, f10, f25, f26, f27, f28, f29, f30, f31, f32, f33, f34, f35, f36, f37, f38, f39, f40, f41, f42, f43, f44, f45, f46, nI_leI]
      refine ⟨fun h => absurd h (by omega), fun h => ?_⟩
      refine ih (k + 1) _ (by omega) ((RF.w (r := 46) (k := k) (by decide) hM1).eq (fun a b => ?_))
      rw [sw_at]
      by_cases e : a = 46 ∧ b = k
      · rw [if_pos e, if_pos (by omega), e.2]
      · rw [if_neg e]
        by_cases e2 : a = 46 ∧ b < k
        · rw [if_pos e2, if_pos (by omega)]
        · rw [if_neg e2, if_neg (by omega)]
  refine ev_at hC (fun pc => pc == 2) 3 0 (ls := [some vm, none]) ?_
  try simp only [↓cb_X10_keepPiles_0, ↓cb_X10_keepPiles_2, ↓cb_X10_keepPiles_26, ↓te_ald, ↓te_aload, ↓te_ast, ↓te_const, ↓te_getP, ↓te_goto, ↓te_icmp, ↓te_iinc, ↓te_iload, ↓te_istore, ↓te_vret, ↓evb_c, ↓evb_n, ↓evk_ap, ↓evm_ap, ↓evm_0, ↓jret_v, ↓jret_n, jget, jset, cond_true, cond_false, Nat.reduceBEq, jc1, List.take_succ_cons, List.take_zero, List.drop_succ_cons, List.drop_zero, List.reverse_cons, List.reverse_nil, List.nil_append, List.cons_append, List.length_cons, List.length_nil, Nat.zero_add, Nat.reduceAdd, beq_self_eq_true, true_and, and_true, Nat.reduceLeDiff, Nat.le_refl, Nat.zero_le, Bool.or_true, Bool.true_or, Bool.or_false, Bool.false_or, Bool.or_self]
  exact key 58 0 M rfl (hM.eq (fun a b => if_neg (by omega)))
/-- what bringPilesBack leaves -/
def spBring (S S' : jS) (n : Nat) : Prop := (∀ a b, ¬ a = 28 → S' a b = if a = 30 ∧ b < n then S 46 b else S a b) ∧ (∀ s, S' 28 s = S 28 s ∨ (S' 28 s = 0 ∧ ∃ k i, k < 58 ∧ S 30 k ≤ i ∧ i < S 46 k ∧ s = S 29 (300 * k + i))) ∧ ∀ k i, k < n → S 30 k ≤ i → i < S 46 k → S' 28 (S 29 (300 * k + i)) = 0
set_option maxRecDepth 20000 in
set_option maxHeartbeats 20000000 in
theorem mm_bringPilesBack (G : jx_G) {M0 M : jx_M} {S : jS} {Q : jx_O → jx_M → Prop} (hk : ∀ k, k < 58 → S 30 k ≤ S 46 k ∧ S 46 k ≤ 300) (hs : ∀ k i, k < 58 → i < S 46 k → S 29 (300 * k + i) < 300) (hM : RF M0 M S) (hQ : ∀ M' S', RF M0 M' S' → spBring S S' 58 → Q (.inl none) M') : Mt G m_X10_bringPilesBack [vm] M Q := by
  refine Mt.of (sc_X10_bringPilesBack G) (by decide +kernel) (jArgs.of rfl) (Nat.le_of_ble_eq_true rfl) (fun Wn hC => ?_)
  have key : ∀ (d k : Nat) (M1 : jx_M) (S1 : jS) (x : Option jx_V), k + d = 58 → RF M0 M1 S1 → spBring S S1 k → Wn 2 [some vm, some (vI k), x] [] M1 0 0 := by
    intro d
    induction d with
    | zero =>
      intro k M1 S1 x h1 hM1 hB
      have h4 : k = 58 := by omega
      subst h4
      refine ev_at hC (fun pc => pc == 2 || pc == 15) 9 2 (ls := [some vm, some (vI 58), x]) ?_
      simp only [↓cb_X10_bringPilesBack_0, ↓cb_X10_bringPilesBack_2, ↓cb_X10_bringPilesBack_15, ↓cb_X10_bringPilesBack_49, ↓cb_X10_bringPilesBack_67, ↓te_ald, ↓te_aload, ↓te_ast, ↓te_astZ, ↓te_bin, ↓te_const, ↓te_getP, ↓te_goto, ↓te_icmp, ↓te_iinc, ↓te_iload, ↓te_istore, ↓te_vret, ↓evb_c, ↓evb_n, ↓evk_ap, ↓evm_ap, ↓evm_0, ↓jret_v, ↓jret_n, jget, jset, cond_true, cond_false, Nat.reduceBEq, jc1, List.take_succ_cons, List.take_zero, List.drop_succ_cons, List.drop_zero, List.reverse_cons, List.reverse_nil, List.nil_append, List.cons_append, List.length_cons, List.length_nil, Nat.zero_add, Nat.reduceAdd, beq_self_eq_true, true_and, and_true, Nat.reduceLeDiff, Nat.le_refl, Nat.zero_le, Bool.or_true, Bool.true_or, Bool.or_false, Bool.false_or, Bool.or_self]
      simp (disch := omega) only [Nat.reduceEqDiff, Prod.mk.injEq, Option.some.injEq, true_and, and_true, exists_eq_left', exists_eq_right, exists_and_left, exists_const, true_or, or_true, ne_eq, not_true_eq_false, not_false_eq_true, reduceCtorEq, false_and, and_false, if_true, if_false, forall_const, true_implies, false_implies, implies_true, qI_wI, qI_wP, qP_wI, qP_wP, qN_wI, qN_wP, and_self, nI_add, pk_mul, nI_clamp, vp_in_nI, ng_1, ng_10, nI_eq32, cs_0, cs_1, cs_2, cs_3, cs_4, cs_5, cs_6, cs_7, cs_8, cs_9, cs_10, cs_11, cs_12, cs_13, cs_14, cs_15, cs_16, cs_17, cs_18, cs_19, cs_20, cs_21, cs_22, cs_23, cs_24, cs_25, cs_26, cs_27, cs_28, cs_29, cs_30, cs_31, cs_32, cs_33, cs_34, cs_35, cs_36, cs_37, cs_38, cs_39, cs_40, cs_41, cs_42, cs_43, cs_44, cs_45, cs_46, cs_47, cs_48, cs_49, cs_50, cs_51, cs_52, cs_53, cs_54, cs_55, cs_56, cs_57, cs_58, cs_59, cs_60, cs_61, cs_62, cs_63, cs_64, cs_97, cs_100, cs_122, cs_200, cs_300, cs_448, cs_1000, al_11, al_12, al_13, al_14, al_15, al_16, al_17, al_18, al_19, al_20, al_21, al_22, al_23, al_24, al_25, al_26, al_27, al_28, al_29, al_30, al_31, al_32, al_33, al_34, al_35, al_36, al_37, al_38, al_39, al_40, al_41, al_42, al_43, al_44, al_45, al_46, al_47, nI_leI]
      exact ⟨fun _ => hQ _ _ hM1 hB, fun h => absurd (Nat.le_refl _) h⟩
    | succ d ih =>
      intro k M1 S1 x h1 hM1 hB
      have hk1 := hk k (by omega)
      have inner : ∀ (d i : Nat) (M1 : jx_M) (S1 : jS), i + d = S 46 k → S 30 k ≤ i → RF M0 M1 S1 → spBring S S1 k → (∀ j, S 30 k ≤ j → j < i → S1 28 (S 29 (300 * k + j)) = 0) → Wn 15 [some vm, some (vI k), some (vI i)] [] M1 0 0 := by
        intro d2
        induction d2 with
        | zero =>
          intro i M1 S1 h2 h3 hM1 hB hj
          have h46 : S1 46 k = S 46 k := by rw [hB.1 46 k (by omega), if_neg (by omega)]
          obtain ⟨p2, p3, p4, p5, p6, p7, p8, p10, p11, p15, p16, p17, p18, p19, p20, p21, p22, p23, p25, p26, p27, p32⟩ := hM1.1.1
          obtain ⟨f10, f25, f26, f27, f28, f29, f30, f31, f32, f33, f34, f35, f36, f37, f38, f39, f40, f41, f42, f43, f44, f45, f46⟩ := hM1.fs
          refine ev_at hC (fun pc => pc == 2 || pc == 15) 9 15 (ls := [some (vm), some (vI k), some (vI i)]) ?_
          simp only [↓cb_X10_bringPilesBack_0, ↓cb_X10_bringPilesBack_2, ↓cb_X10_bringPilesBack_15, ↓cb_X10_bringPilesBack_49, ↓cb_X10_bringPilesBack_67, ↓te_ald, ↓te_aload, ↓te_ast, ↓te_astZ, ↓te_bin, ↓te_const, ↓te_getP, ↓te_goto, ↓te_icmp, ↓te_iinc, ↓te_iload, ↓te_istore, ↓te_vret, ↓evb_c, ↓evb_n, ↓evk_ap, ↓evm_ap, ↓evm_0, ↓jret_v, ↓jret_n, jget, jset, cond_true, cond_false, Nat.reduceBEq, jc1, List.take_succ_cons, List.take_zero, List.drop_succ_cons, List.drop_zero, List.reverse_cons, List.reverse_nil, List.nil_append, List.cons_append, List.length_cons, List.length_nil, Nat.zero_add, Nat.reduceAdd, beq_self_eq_true, true_and, and_true, Nat.reduceLeDiff, Nat.le_refl, Nat.zero_le, Bool.or_true, Bool.true_or, Bool.or_false, Bool.false_or, Bool.or_self]
          simp (disch := omega) only [Nat.reduceEqDiff, Prod.mk.injEq, Option.some.injEq, true_and, and_true, exists_eq_left', exists_eq_right, exists_and_left, exists_const, true_or, or_true, ne_eq, not_true_eq_false, not_false_eq_true, reduceCtorEq, false_and, and_false, if_true, if_false, forall_const, true_implies, false_implies, implies_true, qI_wI, qI_wP, qP_wI, qP_wP, qN_wI, qN_wP, and_self, nI_add, pk_mul, nI_clamp, vp_in_nI, ng_1, ng_10, nI_eq32, cs_0, cs_1, cs_2, cs_3, cs_4, cs_5, cs_6, cs_7, cs_8, cs_9, cs_10, cs_11, cs_12, cs_13, cs_14, cs_15, cs_16, cs_17, cs_18, cs_19, cs_20, cs_21, cs_22, cs_23, cs_24, cs_25, cs_26, cs_27, cs_28, cs_29, cs_30, cs_31, cs_32, cs_33, cs_34, cs_35, cs_36, cs_37, cs_38, cs_39, cs_40, cs_41, cs_42, cs_43, cs_44, cs_45, cs_46, cs_47, cs_48, cs_49, cs_50, cs_51, cs_52, cs_53, cs_54, cs_55, cs_56, cs_57, cs_58, cs_59, cs_60, cs_61, cs_62, cs_63, cs_64, cs_97, cs_100, cs_122, cs_200, cs_300, cs_448, cs_1000, al_11, al_12, al_13, al_14, al_15, al_16, al_17, al_18, al_19, al_20, al_21, al_22, al_23, al_24, al_25, al_26, al_27, al_28, al_29, al_30, al_31, al_32, al_33, al_34, al_35, al_36, al_37, al_38, al_39, al_40, al_41, al_42, al_43, al_44, al_45, al_46, al_47, p2, p3, p4, p5, p6, p7, p8, p10, p11, p15, p16, p17, p18, p19, p20, p21, p22, p23, p25, p26, p27, p32, f10, f25, f26, f27, f28, f29, f30, f31, f32, f33, f34, f35, f36, f37, f38, f39, f40, f41, f42, f43, f44, f45, f46, h46, nI_leI]
          refine ⟨fun _ => ?_, fun h => absurd h (by omega)⟩
          refine ih (k + 1) _ _ _ (by omega) (RF.w (r := 30) (k := k) (v := S 46 k) (by decide) hM1) ⟨fun a b h4 => ?_, fun s => ?_, fun k2 i2 h5 h6 h7 => ?_⟩
          · rw [sw_at]
            by_cases e : a = 30 ∧ b = k
            · rw [if_pos e, if_pos (by omega), e.2]
            · rw [if_neg e, hB.1 a b h4]
              by_cases e2 : a = 30 ∧ b < k
              · rw [if_pos e2, if_pos (by omega)]
              · rw [if_neg e2, if_neg (by omega)]
          · exact hB.2.1 s
          · show S1 28 _ = 0
            by_cases e : k2 = k
            · subst e
              exact hj i2 h6 (by omega)
            · exact hB.2.2 k2 i2 (by omega) h6 h7
        | succ d2 ih2 =>
          intro i M1 S1 h2 h3 hM1 hB hj
          have h46 : S1 46 k = S 46 k := by rw [hB.1 46 k (by omega), if_neg (by omega)]
          have h29 : S1 29 (300 * k + i) = S 29 (300 * k + i) := by rw [hB.1 29 _ (by omega), if_neg (by omega)]
          have hs1 := hs k i (by omega) (by omega)
          obtain ⟨p2, p3, p4, p5, p6, p7, p8, p10, p11, p15, p16, p17, p18, p19, p20, p21, p22, p23, p25, p26, p27, p32⟩ := hM1.1.1
          obtain ⟨f10, f25, f26, f27, f28, f29, f30, f31, f32, f33, f34, f35, f36, f37, f38, f39, f40, f41, f42, f43, f44, f45, f46⟩ := hM1.fs
          refine ev_at hC (fun pc => pc == 2 || pc == 15) 9 15 (ls := [some (vm), some (vI k), some (vI i)]) ?_
          simp only [↓cb_X10_bringPilesBack_0, ↓cb_X10_bringPilesBack_2, ↓cb_X10_bringPilesBack_15, ↓cb_X10_bringPilesBack_49, ↓cb_X10_bringPilesBack_67, ↓te_ald, ↓te_aload, ↓te_ast, ↓te_astZ, ↓te_bin, ↓te_const, ↓te_getP, ↓te_goto, ↓te_icmp, ↓te_iinc, ↓te_iload, ↓te_istore, ↓te_vret, ↓evb_c, ↓evb_n, ↓evk_ap, ↓evm_ap, ↓evm_0, ↓jret_v, ↓jret_n, jget, jset, cond_true, cond_false, Nat.reduceBEq, jc1, List.take_succ_cons, List.take_zero, List.drop_succ_cons, List.drop_zero, List.reverse_cons, List.reverse_nil, List.nil_append, List.cons_append, List.length_cons, List.length_nil, Nat.zero_add, Nat.reduceAdd, beq_self_eq_true, true_and, and_true, Nat.reduceLeDiff, Nat.le_refl, Nat.zero_le, Bool.or_true, Bool.true_or, Bool.or_false, Bool.false_or, Bool.or_self]
          simp (disch := omega) only [Nat.reduceEqDiff, Prod.mk.injEq, Option.some.injEq, true_and, and_true, exists_eq_left', exists_eq_right, exists_and_left, exists_const, true_or, or_true, ne_eq, not_true_eq_false, not_false_eq_true, reduceCtorEq, false_and, and_false, if_true, if_false, forall_const, true_implies, false_implies, implies_true, qI_wI, qI_wP, qP_wI, qP_wP, qN_wI, qN_wP, and_self, nI_add, pk_mul, nI_clamp, vp_in_nI, ng_1, ng_10, nI_eq32, cs_0, cs_1, cs_2, cs_3, cs_4, cs_5, cs_6, cs_7, cs_8, cs_9, cs_10, cs_11, cs_12, cs_13, cs_14, cs_15, cs_16, cs_17, cs_18, cs_19, cs_20, cs_21, cs_22, cs_23, cs_24, cs_25, cs_26, cs_27, cs_28, cs_29, cs_30, cs_31, cs_32, cs_33, cs_34, cs_35, cs_36, cs_37, cs_38, cs_39, cs_40, cs_41, cs_42, cs_43, cs_44, cs_45, cs_46, cs_47, cs_48, cs_49, cs_50, cs_51, cs_52, cs_53, cs_54, cs_55, cs_56, cs_57, cs_58, cs_59, cs_60, cs_61, cs_62, cs_63, cs_64, cs_97, cs_100, cs_122, cs_200, cs_300, cs_448, cs_1000, al_11, al_12, al_13, al_14, al_15, al_16, al_17, al_18, al_19, al_20, al_21, al_22, al_23, al_24, al_25, al_26, al_27, al_28, al_29, al_30, al_31, al_32, al_33, al_34, al_35, al_36, al_37, al_38, al_39, al_40, al_41, al_42, al_43, al_44, al_45, al_46, al_47, p2, p3, p4, p5, p6, p7, p8, p10, p11, p15, p16, p17, p18, p19, p20, p21, p22, p23, p25, p26, p27, p32, f10, f25, f26, f27, f28, f29, f30, f31, f32, f33, f34, f35, f36, f37, f38, f39, f40, f41, f42, f43, f44, f45, f46, h46, h29, nI_leI]
          refine ⟨fun h => absurd h (by omega), fun _ => ?_⟩
          have hw : ∀ s, sw S1 28 (S 29 (300 * k + i)) 0 28 s = if s = S 29 (300 * k + i) then 0 else S1 28 s := fun s => by
            rw [sw_at]
            by_cases e : s = S 29 (300 * k + i)
            · rw [if_pos ⟨rfl, e⟩, if_pos e]
            · rw [if_neg (fun q => e q.2), if_neg e]
          refine ih2 (i + 1) _ _ (by omega) (by omega) (RF.w (r := 28) (k := S 29 (300 * k + i)) (v := 0) (by decide) hM1) ⟨fun a b h4 => ?_, fun s => ?_, fun k2 i2 h5 h6 h7 => ?_⟩ (fun j h4 h5 => ?_)
          · rw [sw_at, if_neg (by omega)]
            exact hB.1 a b h4
          · rw [hw]
            by_cases e : s = S 29 (300 * k + i)
            · rw [if_pos e]
              exact Or.inr ⟨rfl, k, i, by omega, h3, by omega, e⟩
            · rw [if_neg e]
              exact hB.2.1 s
          · rw [hw]
            split
            · rfl
            · exact hB.2.2 k2 i2 h5 h6 h7
          · rw [hw]
            split
            · rfl
            · rename_i h9
              refine hj j h4 ?_
              by_cases e : j = i
              · subst e
                exact absurd rfl h9
              · omega
      have h30 : S1 30 k = S 30 k := by rw [hB.1 30 k (by omega), if_neg (by omega)]
      obtain ⟨p2, p3, p4, p5, p6, p7, p8, p10, p11, p15, p16, p17, p18, p19, p20, p21, p22, p23, p25, p26, p27, p32⟩ := hM1.1.1
      obtain ⟨f10, f25, f26, f27, f28, f29, f30, f31, f32, f33, f34, f35, f36, f37, f38, f39, f40, f41, f42, f43, f44, f45, f46⟩ := hM1.fs
      refine ev_at hC (fun pc => pc == 2 || pc == 15) 9 2 (ls := [some vm, some (vI k), x]) ?_
      try simp only [↓cb_X10_bringPilesBack_0, ↓cb_X10_bringPilesBack_2, ↓cb_X10_bringPilesBack_15, ↓cb_X10_bringPilesBack_49, ↓cb_X10_bringPilesBack_67, ↓te_ald, ↓te_aload, ↓te_ast, ↓te_astZ, ↓te_bin, ↓te_const, ↓te_getP, ↓te_goto, ↓te_icmp, ↓te_iinc, ↓te_iload, ↓te_istore, ↓te_vret, ↓evb_c, ↓evb_n, ↓evk_ap, ↓evm_ap, ↓evm_0, ↓jret_v, ↓jret_n, jget, jset, cond_true, cond_false, Nat.reduceBEq, jc1, List.take_succ_cons, List.take_zero, List.drop_succ_cons, List.drop_zero, List.reverse_cons, List.reverse_nil, List.nil_append, List.cons_append, List.length_cons, List.length_nil, Nat.zero_add, Nat.reduceAdd, beq_self_eq_true, true_and, and_true, Nat.reduceLeDiff, Nat.le_refl, Nat.zero_le, Bool.or_true, Bool.true_or, Bool.or_false, Bool.false_or, Bool.or_self]
      try simp (disch := omega) only [Nat.reduceEqDiff, Prod.mk.injEq, Option.some.injEq, true_and, and_true, exists_eq_left', exists_eq_right, exists_and_left, exists_const, true_or, or_true, ne_eq, not_true_eq_false, not_false_eq_true, reduceCtorEq, false_and, and_false, if_true, if_false, forall_const, true_implies, false_implies, implies_true, qI_wI, qI_wP, qP_wI, qP_wP, qN_wI, qN_wP, and_self, nI_add, pk_mul, nI_clamp, vp_in_nI, ng_1, ng_10, nI_eq32, cs_0, cs_1, cs_2, cs_3, cs_4, cs_5, cs_6, cs_7, cs_8, cs_9, cs_10, cs_11, cs_12, cs_13, cs_14, cs_15, cs_16, cs_17, cs_18, cs_19, cs_20, cs_21, cs_22, cs_23, cs_24, cs_25, cs_26, cs_27, cs_28, cs_29, cs_30, cs_31, cs_32, cs_33, cs_34, cs_35, cs_36, cs_37, cs_38, cs_39, cs_40, cs_41, cs_42, cs_43, cs_44, cs_45, cs_46, cs_47, cs_48, cs_49, cs_50, cs_51, cs_52, cs_53, cs_54, cs_55, cs_56, cs_57, cs_58, cs_59, cs_60, cs_61, cs_62, cs_63, cs_64, cs_97, cs_100, cs_122, cs_200, cs_300, cs_448, cs_1000, al_11, al_12, al_13, al_14, al_15, al_16, al_17, al_18, al_19, al_20, al_21, al_22, al_23, al_24, al_25, al_26, al_27, al_28, al_29, al_30, al_31, al_32, al_33, al_34, al_35, al_36, al_37, al_38, al_39, al_40, al_41, al_42, al_43, al_44, al_45, al_46, al_47, p2, p3, p4, p5, p6, p7, p8, p10, p11, p15, p16, p17, p18, p19, p20, p21, p22, p23, p25, p26, p27, p32, f10, f25, f26, f27, f28, f29, f30, f31, f32, f33, f34, f35, f36, f37, f38, f39, f40, f41, f42, f43, f44, f45, f46, h30, nI_leI]
      exact ⟨fun h => absurd h (by omega), fun _ => inner (S 46 k - S 30 k) (S 30 k) _ _ (by omega) (Nat.le_refl _) hM1 hB (fun j h4 h5 => by omega)⟩
  refine ev_at hC (fun pc => pc == 2) 3 0 (ls := [some vm, none, none]) ?_
  try simp only [↓cb_X10_bringPilesBack_0, ↓cb_X10_bringPilesBack_2, ↓cb_X10_bringPilesBack_15, ↓cb_X10_bringPilesBack_49, ↓cb_X10_bringPilesBack_67, ↓te_ald, ↓te_aload, ↓te_ast, ↓te_astZ, ↓te_bin, ↓te_const, ↓te_getP, ↓te_goto, ↓te_icmp, ↓te_iinc, ↓te_iload, ↓te_istore, ↓te_vret, ↓evb_c, ↓evb_n, ↓evk_ap, ↓evm_ap, ↓evm_0, ↓jret_v, ↓jret_n, jget, jset, cond_true, cond_false, Nat.reduceBEq, jc1, List.take_succ_cons, List.take_zero, List.drop_succ_cons, List.drop_zero, List.reverse_cons, List.reverse_nil, List.nil_append, List.cons_append, List.length_cons, List.length_nil, Nat.zero_add, Nat.reduceAdd, beq_self_eq_true, true_and, and_true, Nat.reduceLeDiff, Nat.le_refl, Nat.zero_le, Bool.or_true, Bool.true_or, Bool.or_false, Bool.false_or, Bool.or_self]
  exact key 58 0 M S _ rfl hM ⟨fun a b _ => by rw [if_neg (by omega)], fun s => Or.inl rfl, fun k i h => by omega⟩
def spTop (S : jS) (k : Nat) : Nat := S 29 (300 * k + (S 30 k - 1))
def spBest (S : jS) (af font : Nat) : Nat → Nat
  | 0 => jNo
  | j + 1 => if (¬ S 30 (29 * font + j) = 0 ∧ spFw (S 25 (spTop S (29 * font + j))) = spFw af) ∧ (spBest S af font j = jNo ∨ S 30 (spBest S af font j) < S 30 (29 * font + j)) then 29 * font + j else spBest S af font j
theorem spBest_lt {S : jS} {af font : Nat} : ∀ n, spBest S af font n = jNo ∨ (29 * font ≤ spBest S af font n ∧ spBest S af font n < 29 * font + n ∧ ¬ S 30 (spBest S af font n) = 0)
  | 0 => Or.inl rfl
  | n + 1 => by
    unfold spBest
    split
    · rename_i h
      right
      exact ⟨by omega, by omega, h.1.1⟩
    · rcases spBest_lt (S := S) (af := af) (font := font) n with h | h
      · left; exact h
      · right; exact ⟨h.1, by omega, h.2.2⟩
/-- the pile that gives the sort, or jNo -/
def spPickAt (S : jS) (af font turns : Nat) : Nat := if 0 < S 30 af then af else if turns = 0 then jNo else spBest S af font 29
def spPick (S : jS) (af font turns : Nat) : jS := if 0 < S 30 af then spTake S af else if spPickAt S af font turns = jNo then S else sw (spTake S (spPickAt S af font turns)) 28 (spTop S (spPickAt S af font turns)) 1
theorem spPickAt_ok {S : jS} {af font turns : Nat} (haf : af < 58) (hf : font < 2) (h : ¬ spPickAt S af font turns = jNo) : spPickAt S af font turns < 58 ∧ 0 < S 30 (spPickAt S af font turns) := by
  unfold spPickAt at h ⊢
  by_cases h1 : 0 < S 30 af
  · rw [if_pos h1]; exact ⟨haf, h1⟩
  · rw [if_neg h1] at h ⊢
    by_cases h2 : turns = 0
    · rw [if_pos h2] at h; exact absurd rfl h
    · rw [if_neg h2] at h ⊢
      rcases spBest_lt (S := S) (af := af) (font := font) 29 with h3 | h3
      · exact absurd h3 h
      · exact ⟨by omega, Nat.pos_of_ne_zero h3.2.2⟩
/-- piles: counts and entries in range -/
def POK (S : jS) : Prop := (∀ k, k < 58 → S 30 k ≤ 300) ∧ ∀ k i, k < 58 → i < S 30 k → S 29 (300 * k + i) < 300
set_option maxRecDepth 20000 in
set_option maxHeartbeats 20000000 in
theorem mm_pick (G : jx_G) {M0 M : jx_M} {S : jS} {Q : jx_O → jx_M → Prop} {af font turns : Nat} (haf : af < 58) (hf : font < 2) (ht : turns < 2) (hP : POK S) (hF : FOK S) (hM : RF M0 M S) (hQ : ∀ M', RF M0 M' (spPick S af font turns) → Q (rI (if spPickAt S af font turns = jNo then jNo else spTop S (spPickAt S af font turns))) M') : Mt G m_X10_pick [vm, vI af, vI font, vI turns] M Q := by
  refine Mt.of (sc_X10_pick G) (by decide +kernel) (jArgs.of rfl) (Nat.le_of_ble_eq_true rfl) (fun Wn hC => ?_)
  obtain ⟨p2, p3, p4, p5, p6, p7, p8, p10, p11, p15, p16, p17, p18, p19, p20, p21, p22, p23, p25, p26, p27, p32⟩ := hM.1.1
  obtain ⟨f10, f25, f26, f27, f28, f29, f30, f31, f32, f33, f34, f35, f36, f37, f38, f39, f40, f41, f42, f43, f44, f45, f46⟩ := hM.fs
  have hj := jNo_v
  have hc1 := hP.1 af haf
  have k24 : ¬ 0 < S 30 af → ∀ (d j : Nat) (x6 x7 : Option jx_V), j + d = 29 → (turns = 0 → j = 0) → Wn 24 [some vm, some (vI af), some (vI font), some (vI turns), some (vI (spBest S af font j)), some (vI (29 * font + j)), x6, x7] [] M 0 0 := by
    intro h0
    -- the end
    have k121 : ∀ (b : Nat) (x5 x6 x7 : Option jx_V), b = spPickAt S af font turns → Wn 121 [some vm, some (vI af), some (vI font), some (vI turns), some (vI b), x5, x6, x7] [] M 0 0 := by
      intro b x5 x6 x7 hb
      refine ev_at hC (fun pc => false) 9 121 (ls := [some vm, some (vI af), some (vI font), some (vI turns), some (vI b), x5, x6, x7]) ?_
      try simp only [↓cb_X10_pick_0, ↓cb_X10_pick_15, ↓cb_X10_pick_24, ↓cb_X10_pick_75, ↓cb_X10_pick_76, ↓cb_X10_pick_106, ↓cb_X10_pick_111, ↓cb_X10_pick_113, ↓cb_X10_pick_121, ↓cb_X10_pick_129, ↓te_ald, ↓te_aload, ↓te_astZ, ↓te_bin, ↓te_call, ↓te_callV, ↓te_const, ↓te_getP, ↓te_goto, ↓te_icmp, ↓te_if, ↓te_iinc, ↓te_iload, ↓te_iret, ↓te_istore, ↓evb_c, ↓evb_n, ↓evk_ap, ↓evm_ap, ↓evm_0, ↓jret_v, ↓jret_n, jget, jset, cond_true, cond_false, Nat.reduceBEq, jc1, List.take_succ_cons, List.take_zero, List.drop_succ_cons, List.drop_zero, List.reverse_cons, List.reverse_nil, List.nil_append, List.cons_append, List.length_cons, List.length_nil, Nat.zero_add, Nat.reduceAdd, beq_self_eq_true, true_and, and_true, Nat.reduceLeDiff, Nat.le_refl, Nat.zero_le, Bool.or_true, Bool.true_or, Bool.or_false, Bool.false_or, Bool.or_self]
      have hlt : b < 2 ^ 32 := by
        by_cases h : spPickAt S af font turns = jNo
        · omega
        · have := (spPickAt_ok haf hf h).1; omega
      try simp (disch := omega) only [Nat.reduceEqDiff, Prod.mk.injEq, Option.some.injEq, true_and, and_true, exists_eq_left', exists_eq_right, exists_and_left, exists_const, true_or, or_true, ne_eq, not_true_eq_false, not_false_eq_true, reduceCtorEq, false_and, and_false, if_true, if_false, forall_const, true_implies, false_implies, implies_true, qI_wI, qI_wP, qP_wI, qP_wP, qN_wI, qN_wP, and_self, nI_add, pk_mul, nI_clamp, vp_in_nI, ng_1, ng_10, nI_eq32, cs_0, cs_1, cs_2, cs_3, cs_4, cs_5, cs_6, cs_7, cs_8, cs_9, cs_10, cs_11, cs_12, cs_13, cs_14, cs_15, cs_16, cs_17, cs_18, cs_19, cs_20, cs_21, cs_22, cs_23, cs_24, cs_25, cs_26, cs_27, cs_28, cs_29, cs_30, cs_31, cs_32, cs_33, cs_34, cs_35, cs_36, cs_37, cs_38, cs_39, cs_40, cs_41, cs_42, cs_43, cs_44, cs_45, cs_46, cs_47, cs_48, cs_49, cs_50, cs_51, cs_52, cs_53, cs_54, cs_55, cs_56, cs_57, cs_58, cs_59, cs_60, cs_61, cs_62, cs_63, cs_64, cs_97, cs_100, cs_122, cs_200, cs_300, cs_448, cs_1000, al_11, al_12, al_13, al_14, al_15, al_16, al_17, al_18, al_19, al_20, al_21, al_22, al_23, al_24, al_25, al_26, al_27, al_28, al_29, al_30, al_31, al_32, al_33, al_34, al_35, al_36, al_37, al_38, al_39, al_40, al_41, al_42, al_43, al_44, al_45, al_46, al_47]
      refine ⟨fun h => ?_, fun h => ?_⟩
      · have h2 : ¬ spPickAt S af font turns = jNo := by omega
        obtain ⟨h3, h4⟩ := spPickAt_ok haf hf h2
        rw [if_neg h2] at hQ
        have h5 := hP.1 _ h3
        have h6 := hP.2 _ (S 30 (spPickAt S af font turns) - 1) h3 (by omega)
        rw [hb]
        refine mm_takeFrom G h3 h4 h5 hM (fun M2 hM2 => ?_)
        obtain ⟨-, -, -, q5, -⟩ := hM2.1.1
        try simp only [↓cb_X10_pick_0, ↓cb_X10_pick_15, ↓cb_X10_pick_24, ↓cb_X10_pick_75, ↓cb_X10_pick_76, ↓cb_X10_pick_106, ↓cb_X10_pick_111, ↓cb_X10_pick_113, ↓cb_X10_pick_121, ↓cb_X10_pick_129, ↓te_ald, ↓te_aload, ↓te_astZ, ↓te_bin, ↓te_call, ↓te_callV, ↓te_const, ↓te_getP, ↓te_goto, ↓te_icmp, ↓te_if, ↓te_iinc, ↓te_iload, ↓te_iret, ↓te_istore, ↓evb_c, ↓evb_n, ↓evk_ap, ↓evm_ap, ↓evm_0, ↓jret_v, ↓jret_n, jget, jset, cond_true, cond_false, Nat.reduceBEq, jc1, List.take_succ_cons, List.take_zero, List.drop_succ_cons, List.drop_zero, List.reverse_cons, List.reverse_nil, List.nil_append, List.cons_append, List.length_cons, List.length_nil, Nat.zero_add, Nat.reduceAdd, beq_self_eq_true, true_and, and_true, Nat.reduceLeDiff, Nat.le_refl, Nat.zero_le, Bool.or_true, Bool.true_or, Bool.or_false, Bool.false_or, Bool.or_self]
        try simp (disch := omega) only [Nat.reduceEqDiff, Prod.mk.injEq, Option.some.injEq, true_and, and_true, exists_eq_left', exists_eq_right, exists_and_left, exists_const, true_or, or_true, ne_eq, not_true_eq_false, not_false_eq_true, reduceCtorEq, false_and, and_false, if_true, if_false, forall_const, true_implies, false_implies, implies_true, qI_wI, qI_wP, qP_wI, qP_wP, qN_wI, qN_wP, and_self, nI_add, pk_mul, nI_clamp, vp_in_nI, ng_1, ng_10, nI_eq32, cs_0, cs_1, cs_2, cs_3, cs_4, cs_5, cs_6, cs_7, cs_8, cs_9, cs_10, cs_11, cs_12, cs_13, cs_14, cs_15, cs_16, cs_17, cs_18, cs_19, cs_20, cs_21, cs_22, cs_23, cs_24, cs_25, cs_26, cs_27, cs_28, cs_29, cs_30, cs_31, cs_32, cs_33, cs_34, cs_35, cs_36, cs_37, cs_38, cs_39, cs_40, cs_41, cs_42, cs_43, cs_44, cs_45, cs_46, cs_47, cs_48, cs_49, cs_50, cs_51, cs_52, cs_53, cs_54, cs_55, cs_56, cs_57, cs_58, cs_59, cs_60, cs_61, cs_62, cs_63, cs_64, cs_97, cs_100, cs_122, cs_200, cs_300, cs_448, cs_1000, al_11, al_12, al_13, al_14, al_15, al_16, al_17, al_18, al_19, al_20, al_21, al_22, al_23, al_24, al_25, al_26, al_27, al_28, al_29, al_30, al_31, al_32, al_33, al_34, al_35, al_36, al_37, al_38, al_39, al_40, al_41, al_42, al_43, al_44, al_45, al_46, al_47, q5]
        refine hQ _ ((RF.w (r := 28) (k := spTop S (spPickAt S af font turns)) (v := 1) (by decide) hM2).eq (fun a b => ?_))
        unfold spPick
        rw [if_neg h0, if_neg h2]
        rfl
      · have h2 : spPickAt S af font turns = jNo := by omega
        rw [if_pos h2] at hQ
        refine hQ M (hM.eq (fun a b => ?_))
        unfold spPick
        rw [if_neg h0, if_pos h2]
    intro d
    induction d with
    | zero =>
      intro j x6 x7 h1 h2
      refine ev_at hC (fun pc => pc == 24 || pc == 121) 9 24 (ls := [some vm, some (vI af), some (vI font), some (vI turns), some (vI (spBest S af font j)), some (vI (29 * font + j)), x6, x7]) ?_
      try simp only [↓cb_X10_pick_0, ↓cb_X10_pick_15, ↓cb_X10_pick_24, ↓cb_X10_pick_75, ↓cb_X10_pick_76, ↓cb_X10_pick_106, ↓cb_X10_pick_111, ↓cb_X10_pick_113, ↓cb_X10_pick_121, ↓cb_X10_pick_129, ↓te_ald, ↓te_aload, ↓te_astZ, ↓te_bin, ↓te_call, ↓te_callV, ↓te_const, ↓te_getP, ↓te_goto, ↓te_icmp, ↓te_if, ↓te_iinc, ↓te_iload, ↓te_iret, ↓te_istore, ↓evb_c, ↓evb_n, ↓evk_ap, ↓evm_ap, ↓evm_0, ↓jret_v, ↓jret_n, jget, jset, cond_true, cond_false, Nat.reduceBEq, jc1, List.take_succ_cons, List.take_zero, List.drop_succ_cons, List.drop_zero, List.reverse_cons, List.reverse_nil, List.nil_append, List.cons_append, List.length_cons, List.length_nil, Nat.zero_add, Nat.reduceAdd, beq_self_eq_true, true_and, and_true, Nat.reduceLeDiff, Nat.le_refl, Nat.zero_le, Bool.or_true, Bool.true_or, Bool.or_false, Bool.false_or, Bool.or_self]
      try simp (disch := omega) only [Nat.reduceEqDiff, Prod.mk.injEq, Option.some.injEq, true_and, and_true, exists_eq_left', exists_eq_right, exists_and_left, exists_const, true_or, or_true, ne_eq, not_true_eq_false, not_false_eq_true, reduceCtorEq, false_and, and_false, if_true, if_false, forall_const, true_implies, false_implies, implies_true, qI_wI, qI_wP, qP_wI, qP_wP, qN_wI, qN_wP, and_self, nI_add, pk_mul, nI_clamp, vp_in_nI, ng_1, ng_10, nI_eq32, cs_0, cs_1, cs_2, cs_3, cs_4, cs_5, cs_6, cs_7, cs_8, cs_9, cs_10, cs_11, cs_12, cs_13, cs_14, cs_15, cs_16, cs_17, cs_18, cs_19, cs_20, cs_21, cs_22, cs_23, cs_24, cs_25, cs_26, cs_27, cs_28, cs_29, cs_30, cs_31, cs_32, cs_33, cs_34, cs_35, cs_36, cs_37, cs_38, cs_39, cs_40, cs_41, cs_42, cs_43, cs_44, cs_45, cs_46, cs_47, cs_48, cs_49, cs_50, cs_51, cs_52, cs_53, cs_54, cs_55, cs_56, cs_57, cs_58, cs_59, cs_60, cs_61, cs_62, cs_63, cs_64, cs_97, cs_100, cs_122, cs_200, cs_300, cs_448, cs_1000, al_11, al_12, al_13, al_14, al_15, al_16, al_17, al_18, al_19, al_20, al_21, al_22, al_23, al_24, al_25, al_26, al_27, al_28, al_29, al_30, al_31, al_32, al_33, al_34, al_35, al_36, al_37, al_38, al_39, al_40, al_41, al_42, al_43, al_44, al_45, al_46, al_47, p2, p3, p4, p5, p6, p7, p8, p10, p11, p15, p16, p17, p18, p19, p20, p21, p22, p23, p25, p26, p27, p32, f10, f25, f26, f27, f28, f29, f30, f31, f32, f33, f34, f35, f36, f37, f38, f39, f40, f41, f42, f43, f44, f45, f46, nI_leI]
      refine ⟨fun _ => k121 _ _ _ _ ?_, fun h => absurd h (by omega)⟩
      have h3 : j = 29 := by omega
      unfold spPickAt
      rw [if_neg h0, h3]
      by_cases h4 : turns = 0
      · omega
      · rw [if_neg h4]
    | succ d ih =>
      intro j x6 x7 h1 h2
      refine ev_at hC (fun pc => pc == 24 || pc == 121 || pc == 76) 9 24 (ls := [some vm, some (vI af), some (vI font), some (vI turns), some (vI (spBest S af font j)), some (vI (29 * font + j)), x6, x7]) ?_
      try simp only [↓cb_X10_pick_0, ↓cb_X10_pick_15, ↓cb_X10_pick_24, ↓cb_X10_pick_75, ↓cb_X10_pick_76, ↓cb_X10_pick_106, ↓cb_X10_pick_111, ↓cb_X10_pick_113, ↓cb_X10_pick_121, ↓cb_X10_pick_129, ↓te_ald, ↓te_aload, ↓te_astZ, ↓te_bin, ↓te_call, ↓te_callV, ↓te_const, ↓te_getP, ↓te_goto, ↓te_icmp, ↓te_if, ↓te_iinc, ↓te_iload, ↓te_iret, ↓te_istore, ↓evb_c, ↓evb_n, ↓evk_ap, ↓evm_ap, ↓evm_0, ↓jret_v, ↓jret_n, jget, jset, cond_true, cond_false, Nat.reduceBEq, jc1, List.take_succ_cons, List.take_zero, List.drop_succ_cons, List.drop_zero, List.reverse_cons, List.reverse_nil, List.nil_append, List.cons_append, List.length_cons, List.length_nil, Nat.zero_add, Nat.reduceAdd, beq_self_eq_true, true_and, and_true, Nat.reduceLeDiff, Nat.le_refl, Nat.zero_le, Bool.or_true, Bool.true_or, Bool.or_false, Bool.false_or, Bool.or_self]
      try simp (disch := omega) only [Nat.reduceEqDiff, Prod.mk.injEq, Option.some.injEq, true_and, and_true, exists_eq_left', exists_eq_right, exists_and_left, exists_const, true_or, or_true, ne_eq, not_true_eq_false, not_false_eq_true, reduceCtorEq, false_and, and_false, if_true, if_false, forall_const, true_implies, false_implies, implies_true, qI_wI, qI_wP, qP_wI, qP_wP, qN_wI, qN_wP, and_self, nI_add, pk_mul, nI_clamp, vp_in_nI, ng_1, ng_10, nI_eq32, cs_0, cs_1, cs_2, cs_3, cs_4, cs_5, cs_6, cs_7, cs_8, cs_9, cs_10, cs_11, cs_12, cs_13, cs_14, cs_15, cs_16, cs_17, cs_18, cs_19, cs_20, cs_21, cs_22, cs_23, cs_24, cs_25, cs_26, cs_27, cs_28, cs_29, cs_30, cs_31, cs_32, cs_33, cs_34, cs_35, cs_36, cs_37, cs_38, cs_39, cs_40, cs_41, cs_42, cs_43, cs_44, cs_45, cs_46, cs_47, cs_48, cs_49, cs_50, cs_51, cs_52, cs_53, cs_54, cs_55, cs_56, cs_57, cs_58, cs_59, cs_60, cs_61, cs_62, cs_63, cs_64, cs_97, cs_100, cs_122, cs_200, cs_300, cs_448, cs_1000, al_11, al_12, al_13, al_14, al_15, al_16, al_17, al_18, al_19, al_20, al_21, al_22, al_23, al_24, al_25, al_26, al_27, al_28, al_29, al_30, al_31, al_32, al_33, al_34, al_35, al_36, al_37, al_38, al_39, al_40, al_41, al_42, al_43, al_44, al_45, al_46, al_47, p2, p3, p4, p5, p6, p7, p8, p10, p11, p15, p16, p17, p18, p19, p20, p21, p22, p23, p25, p26, p27, p32, f10, f25, f26, f27, f28, f29, f30, f31, f32, f33, f34, f35, f36, f37, f38, f39, f40, f41, f42, f43, f44, f45, f46, nI_leI]
      refine ⟨fun h => absurd h (by omega), fun _ => ⟨fun h => k121 _ _ _ _ ?_, fun h => ?_⟩⟩
      · rw [h2 h]
        unfold spPickAt
        rw [if_neg h0, if_pos h]
        rfl
      · have hkj : 29 * font + j < 58 := by omega
        have hc2 := hP.1 _ hkj
        have hu : spBest S af font (j + 1) = if (¬ S 30 (29 * font + j) = 0 ∧ spFw (S 25 (spTop S (29 * font + j))) = spFw af) ∧ (spBest S af font j = jNo ∨ S 30 (spBest S af font j) < S 30 (29 * font + j)) then 29 * font + j else spBest S af font j := rfl
        have k76n : ¬ (¬ S 30 (29 * font + j) = 0 ∧ spFw (S 25 (spTop S (29 * font + j))) = spFw af) → ∀ (x6 x7 : Option jx_V), Wn 76 [some vm, some (vI af), some (vI font), some (vI turns), some (vI (spBest S af font j)), some (vI (29 * font + j)), x6, x7] [vI 0] M 0 0 := by
          intro h9 x6 x7
          refine ev_at hC (fun pc => pc == 24) 9 76 (ls := [some vm, some (vI af), some (vI font), some (vI turns), some (vI (spBest S af font j)), some (vI (29 * font + j)), x6, x7]) ?_
          try simp only [↓cb_X10_pick_0, ↓cb_X10_pick_15, ↓cb_X10_pick_24, ↓cb_X10_pick_75, ↓cb_X10_pick_76, ↓cb_X10_pick_106, ↓cb_X10_pick_111, ↓cb_X10_pick_113, ↓cb_X10_pick_121, ↓cb_X10_pick_129, ↓te_ald, ↓te_aload, ↓te_astZ, ↓te_bin, ↓te_call, ↓te_callV, ↓te_const, ↓te_getP, ↓te_goto, ↓te_icmp, ↓te_if, ↓te_iinc, ↓te_iload, ↓te_iret, ↓te_istore, ↓evb_c, ↓evb_n, ↓evk_ap, ↓evm_ap, ↓evm_0, ↓jret_v, ↓jret_n, jget, jset, cond_true, cond_false, Nat.reduceBEq, jc1, List.take_succ_cons, List.take_zero, List.drop_succ_cons, List.drop_zero, List.reverse_cons, List.reverse_nil, List.nil_append, List.cons_append, List.length_cons, List.length_nil, Nat.zero_add, Nat.reduceAdd, beq_self_eq_true, true_and, and_true, Nat.reduceLeDiff, Nat.le_refl, Nat.zero_le, Bool.or_true, Bool.true_or, Bool.or_false, Bool.false_or, Bool.or_self]
          try simp (disch := omega) only [Nat.reduceEqDiff, Prod.mk.injEq, Option.some.injEq, true_and, and_true, exists_eq_left', exists_eq_right, exists_and_left, exists_const, true_or, or_true, ne_eq, not_true_eq_false, not_false_eq_true, reduceCtorEq, false_and, and_false, if_true, if_false, forall_const, true_implies, false_implies, implies_true, qI_wI, qI_wP, qP_wI, qP_wP, qN_wI, qN_wP, and_self, nI_add, pk_mul, nI_clamp, vp_in_nI, ng_1, ng_10, nI_eq32, cs_0, cs_1, cs_2, cs_3, cs_4, cs_5, cs_6, cs_7, cs_8, cs_9, cs_10, cs_11, cs_12, cs_13, cs_14, cs_15, cs_16, cs_17, cs_18, cs_19, cs_20, cs_21, cs_22, cs_23, cs_24, cs_25, cs_26, cs_27, cs_28, cs_29, cs_30, cs_31, cs_32, cs_33, cs_34, cs_35, cs_36, cs_37, cs_38, cs_39, cs_40, cs_41, cs_42, cs_43, cs_44, cs_45, cs_46, cs_47, cs_48, cs_49, cs_50, cs_51, cs_52, cs_53, cs_54, cs_55, cs_56, cs_57, cs_58, cs_59, cs_60, cs_61, cs_62, cs_63, cs_64, cs_97, cs_100, cs_122, cs_200, cs_300, cs_448, cs_1000, al_11, al_12, al_13, al_14, al_15, al_16, al_17, al_18, al_19, al_20, al_21, al_22, al_23, al_24, al_25, al_26, al_27, al_28, al_29, al_30, al_31, al_32, al_33, al_34, al_35, al_36, al_37, al_38, al_39, al_40, al_41, al_42, al_43, al_44, al_45, al_46, al_47]
          have h8 := ih (j + 1) x6 (some (vI 0)) (by omega) (fun q => absurd q h)
          rw [hu, if_neg (fun q => h9 q.1)] at h8
          exact h8
        have k76y : (¬ S 30 (29 * font + j) = 0 ∧ spFw (S 25 (spTop S (29 * font + j))) = spFw af) → ∀ (x6 x7 : Option jx_V), Wn 76 [some vm, some (vI af), some (vI font), some (vI turns), some (vI (spBest S af font j)), some (vI (29 * font + j)), x6, x7] [vI 1] M 0 0 := by
          intro h9 x6 x7
          have h8 := ih (j + 1) x6 (some (vI 1)) (by omega) (fun q => absurd q h)
          refine ev_at hC (fun pc => pc == 24) 9 76 (ls := [some vm, some (vI af), some (vI font), some (vI turns), some (vI (spBest S af font j)), some (vI (29 * font + j)), x6, x7]) ?_
          try simp only [↓cb_X10_pick_0, ↓cb_X10_pick_15, ↓cb_X10_pick_24, ↓cb_X10_pick_75, ↓cb_X10_pick_76, ↓cb_X10_pick_106, ↓cb_X10_pick_111, ↓cb_X10_pick_113, ↓cb_X10_pick_121, ↓cb_X10_pick_129, ↓te_ald, ↓te_aload, ↓te_astZ, ↓te_bin, ↓te_call, ↓te_callV, ↓te_const, ↓te_getP, ↓te_goto, ↓te_icmp, ↓te_if, ↓te_iinc, ↓te_iload, ↓te_iret, ↓te_istore, ↓evb_c, ↓evb_n, ↓evk_ap, ↓evm_ap, ↓evm_0, ↓jret_v, ↓jret_n, jget, jset, cond_true, cond_false, Nat.reduceBEq, jc1, List.take_succ_cons, List.take_zero, List.drop_succ_cons, List.drop_zero, List.reverse_cons, List.reverse_nil, List.nil_append, List.cons_append, List.length_cons, List.length_nil, Nat.zero_add, Nat.reduceAdd, beq_self_eq_true, true_and, and_true, Nat.reduceLeDiff, Nat.le_refl, Nat.zero_le, Bool.or_true, Bool.true_or, Bool.or_false, Bool.false_or, Bool.or_self]
          rcases spBest_lt (S := S) (af := af) (font := font) j with h5 | ⟨h5, h6, h7⟩
          · rw [hu, if_pos ⟨h9, Or.inl h5⟩] at h8
            rw [h5]
            try simp (disch := omega) only [Nat.reduceEqDiff, Prod.mk.injEq, Option.some.injEq, true_and, and_true, exists_eq_left', exists_eq_right, exists_and_left, exists_const, true_or, or_true, ne_eq, not_true_eq_false, not_false_eq_true, reduceCtorEq, false_and, and_false, if_true, if_false, forall_const, true_implies, false_implies, implies_true, qI_wI, qI_wP, qP_wI, qP_wP, qN_wI, qN_wP, and_self, nI_add, pk_mul, nI_clamp, vp_in_nI, ng_1, ng_10, nI_eq32, cs_0, cs_1, cs_2, cs_3, cs_4, cs_5, cs_6, cs_7, cs_8, cs_9, cs_10, cs_11, cs_12, cs_13, cs_14, cs_15, cs_16, cs_17, cs_18, cs_19, cs_20, cs_21, cs_22, cs_23, cs_24, cs_25, cs_26, cs_27, cs_28, cs_29, cs_30, cs_31, cs_32, cs_33, cs_34, cs_35, cs_36, cs_37, cs_38, cs_39, cs_40, cs_41, cs_42, cs_43, cs_44, cs_45, cs_46, cs_47, cs_48, cs_49, cs_50, cs_51, cs_52, cs_53, cs_54, cs_55, cs_56, cs_57, cs_58, cs_59, cs_60, cs_61, cs_62, cs_63, cs_64, cs_97, cs_100, cs_122, cs_200, cs_300, cs_448, cs_1000, al_11, al_12, al_13, al_14, al_15, al_16, al_17, al_18, al_19, al_20, al_21, al_22, al_23, al_24, al_25, al_26, al_27, al_28, al_29, al_30, al_31, al_32, al_33, al_34, al_35, al_36, al_37, al_38, al_39, al_40, al_41, al_42, al_43, al_44, al_45, al_46, al_47]
            exact h8
          · have hc3 := hP.1 (spBest S af font j) (by omega)
            have hb5 : ¬ spBest S af font j = jNo := by omega
            try simp (disch := omega) only [Nat.reduceEqDiff, Prod.mk.injEq, Option.some.injEq, true_and, and_true, exists_eq_left', exists_eq_right, exists_and_left, exists_const, true_or, or_true, ne_eq, not_true_eq_false, not_false_eq_true, reduceCtorEq, false_and, and_false, if_true, if_false, forall_const, true_implies, false_implies, implies_true, qI_wI, qI_wP, qP_wI, qP_wP, qN_wI, qN_wP, and_self, nI_add, pk_mul, nI_clamp, vp_in_nI, ng_1, ng_10, nI_eq32, cs_0, cs_1, cs_2, cs_3, cs_4, cs_5, cs_6, cs_7, cs_8, cs_9, cs_10, cs_11, cs_12, cs_13, cs_14, cs_15, cs_16, cs_17, cs_18, cs_19, cs_20, cs_21, cs_22, cs_23, cs_24, cs_25, cs_26, cs_27, cs_28, cs_29, cs_30, cs_31, cs_32, cs_33, cs_34, cs_35, cs_36, cs_37, cs_38, cs_39, cs_40, cs_41, cs_42, cs_43, cs_44, cs_45, cs_46, cs_47, cs_48, cs_49, cs_50, cs_51, cs_52, cs_53, cs_54, cs_55, cs_56, cs_57, cs_58, cs_59, cs_60, cs_61, cs_62, cs_63, cs_64, cs_97, cs_100, cs_122, cs_200, cs_300, cs_448, cs_1000, al_11, al_12, al_13, al_14, al_15, al_16, al_17, al_18, al_19, al_20, al_21, al_22, al_23, al_24, al_25, al_26, al_27, al_28, al_29, al_30, al_31, al_32, al_33, al_34, al_35, al_36, al_37, al_38, al_39, al_40, al_41, al_42, al_43, al_44, al_45, al_46, al_47, p2, p3, p4, p5, p6, p7, p8, p10, p11, p15, p16, p17, p18, p19, p20, p21, p22, p23, p25, p26, p27, p32, f10, f25, f26, f27, f28, f29, f30, f31, f32, f33, f34, f35, f36, f37, f38, f39, f40, f41, f42, f43, f44, f45, f46, nI_leI]
            refine ⟨fun q => absurd q (by omega), fun _ => ⟨fun q => ?_, fun q => ?_⟩⟩
            · rw [hu, if_neg (fun z => z.2.elim hb5 (by omega))] at h8
              exact h8
            · rw [hu, if_pos ⟨h9, Or.inr (by omega)⟩] at h8
              exact h8
        refine mm_topOf G hkj hc2 hM ?_
        try simp only [↓cb_X10_pick_0, ↓cb_X10_pick_15, ↓cb_X10_pick_24, ↓cb_X10_pick_75, ↓cb_X10_pick_76, ↓cb_X10_pick_106, ↓cb_X10_pick_111, ↓cb_X10_pick_113, ↓cb_X10_pick_121, ↓cb_X10_pick_129, ↓te_ald, ↓te_aload, ↓te_astZ, ↓te_bin, ↓te_call, ↓te_callV, ↓te_const, ↓te_getP, ↓te_goto, ↓te_icmp, ↓te_if, ↓te_iinc, ↓te_iload, ↓te_iret, ↓te_istore, ↓evb_c, ↓evb_n, ↓evk_ap, ↓evm_ap, ↓evm_0, ↓jret_v, ↓jret_n, jget, jset, cond_true, cond_false, Nat.reduceBEq, jc1, List.take_succ_cons, List.take_zero, List.drop_succ_cons, List.drop_zero, List.reverse_cons, List.reverse_nil, List.nil_append, List.cons_append, List.length_cons, List.length_nil, Nat.zero_add, Nat.reduceAdd, beq_self_eq_true, true_and, and_true, Nat.reduceLeDiff, Nat.le_refl, Nat.zero_le, Bool.or_true, Bool.true_or, Bool.or_false, Bool.false_or, Bool.or_self]
        by_cases h3 : S 30 (29 * font + j) = 0
        · rw [if_pos h3]
          try simp (disch := omega) only [Nat.reduceEqDiff, Prod.mk.injEq, Option.some.injEq, true_and, and_true, exists_eq_left', exists_eq_right, exists_and_left, exists_const, true_or, or_true, ne_eq, not_true_eq_false, not_false_eq_true, reduceCtorEq, false_and, and_false, if_true, if_false, forall_const, true_implies, false_implies, implies_true, qI_wI, qI_wP, qP_wI, qP_wP, qN_wI, qN_wP, and_self, nI_add, pk_mul, nI_clamp, vp_in_nI, ng_1, ng_10, nI_eq32, cs_0, cs_1, cs_2, cs_3, cs_4, cs_5, cs_6, cs_7, cs_8, cs_9, cs_10, cs_11, cs_12, cs_13, cs_14, cs_15, cs_16, cs_17, cs_18, cs_19, cs_20, cs_21, cs_22, cs_23, cs_24, cs_25, cs_26, cs_27, cs_28, cs_29, cs_30, cs_31, cs_32, cs_33, cs_34, cs_35, cs_36, cs_37, cs_38, cs_39, cs_40, cs_41, cs_42, cs_43, cs_44, cs_45, cs_46, cs_47, cs_48, cs_49, cs_50, cs_51, cs_52, cs_53, cs_54, cs_55, cs_56, cs_57, cs_58, cs_59, cs_60, cs_61, cs_62, cs_63, cs_64, cs_97, cs_100, cs_122, cs_200, cs_300, cs_448, cs_1000, al_11, al_12, al_13, al_14, al_15, al_16, al_17, al_18, al_19, al_20, al_21, al_22, al_23, al_24, al_25, al_26, al_27, al_28, al_29, al_30, al_31, al_32, al_33, al_34, al_35, al_36, al_37, al_38, al_39, al_40, al_41, al_42, al_43, al_44, al_45, al_46, al_47]
          exact k76n (fun q => q.1 h3) _ _
        · rw [if_neg h3]
          have h6 := hP.2 _ (S 30 (29 * font + j) - 1) hkj (by omega)
          rw [← Nat.add_sub_assoc (by omega)] at h6
          try simp (disch := omega) only [Nat.reduceEqDiff, Prod.mk.injEq, Option.some.injEq, true_and, and_true, exists_eq_left', exists_eq_right, exists_and_left, exists_const, true_or, or_true, ne_eq, not_true_eq_false, not_false_eq_true, reduceCtorEq, false_and, and_false, if_true, if_false, forall_const, true_implies, false_implies, implies_true, qI_wI, qI_wP, qP_wI, qP_wP, qN_wI, qN_wP, and_self, nI_add, pk_mul, nI_clamp, vp_in_nI, ng_1, ng_10, nI_eq32, cs_0, cs_1, cs_2, cs_3, cs_4, cs_5, cs_6, cs_7, cs_8, cs_9, cs_10, cs_11, cs_12, cs_13, cs_14, cs_15, cs_16, cs_17, cs_18, cs_19, cs_20, cs_21, cs_22, cs_23, cs_24, cs_25, cs_26, cs_27, cs_28, cs_29, cs_30, cs_31, cs_32, cs_33, cs_34, cs_35, cs_36, cs_37, cs_38, cs_39, cs_40, cs_41, cs_42, cs_43, cs_44, cs_45, cs_46, cs_47, cs_48, cs_49, cs_50, cs_51, cs_52, cs_53, cs_54, cs_55, cs_56, cs_57, cs_58, cs_59, cs_60, cs_61, cs_62, cs_63, cs_64, cs_97, cs_100, cs_122, cs_200, cs_300, cs_448, cs_1000, al_11, al_12, al_13, al_14, al_15, al_16, al_17, al_18, al_19, al_20, al_21, al_22, al_23, al_24, al_25, al_26, al_27, al_28, al_29, al_30, al_31, al_32, al_33, al_34, al_35, al_36, al_37, al_38, al_39, al_40, al_41, al_42, al_43, al_44, al_45, al_46, al_47, p2, p3, p4, p5, p6, p7, p8, p10, p11, p15, p16, p17, p18, p19, p20, p21, p22, p23, p25, p26, p27, p32, f10, f25, f26, f27, f28, f29, f30, f31, f32, f33, f34, f35, f36, f37, f38, f39, f40, f41, f42, f43, f44, f45, f46]
          refine ⟨fun q => absurd q (by omega), fun _ => ?_⟩
          refine mm_widthOf G (hF _) ?_
          try simp only [↓cb_X10_pick_0, ↓cb_X10_pick_15, ↓cb_X10_pick_24, ↓cb_X10_pick_75, ↓cb_X10_pick_76, ↓cb_X10_pick_106, ↓cb_X10_pick_111, ↓cb_X10_pick_113, ↓cb_X10_pick_121, ↓cb_X10_pick_129, ↓te_ald, ↓te_aload, ↓te_astZ, ↓te_bin, ↓te_call, ↓te_callV, ↓te_const, ↓te_getP, ↓te_goto, ↓te_icmp, ↓te_if, ↓te_iinc, ↓te_iload, ↓te_iret, ↓te_istore, ↓evb_c, ↓evb_n, ↓evk_ap, ↓evm_ap, ↓evm_0, ↓jret_v, ↓jret_n, jget, jset, cond_true, cond_false, Nat.reduceBEq, jc1, List.take_succ_cons, List.take_zero, List.drop_succ_cons, List.drop_zero, List.reverse_cons, List.reverse_nil, List.nil_append, List.cons_append, List.length_cons, List.length_nil, Nat.zero_add, Nat.reduceAdd, beq_self_eq_true, true_and, and_true, Nat.reduceLeDiff, Nat.le_refl, Nat.zero_le, Bool.or_true, Bool.true_or, Bool.or_false, Bool.false_or, Bool.or_self]
          refine mm_widthOf G haf ?_
          try simp only [↓cb_X10_pick_0, ↓cb_X10_pick_15, ↓cb_X10_pick_24, ↓cb_X10_pick_75, ↓cb_X10_pick_76, ↓cb_X10_pick_106, ↓cb_X10_pick_111, ↓cb_X10_pick_113, ↓cb_X10_pick_121, ↓cb_X10_pick_129, ↓te_ald, ↓te_aload, ↓te_astZ, ↓te_bin, ↓te_call, ↓te_callV, ↓te_const, ↓te_getP, ↓te_goto, ↓te_icmp, ↓te_if, ↓te_iinc, ↓te_iload, ↓te_iret, ↓te_istore, ↓evb_c, ↓evb_n, ↓evk_ap, ↓evm_ap, ↓evm_0, ↓jret_v, ↓jret_n, jget, jset, cond_true, cond_false, Nat.reduceBEq, jc1, List.take_succ_cons, List.take_zero, List.drop_succ_cons, List.drop_zero, List.reverse_cons, List.reverse_nil, List.nil_append, List.cons_append, List.length_cons, List.length_nil, Nat.zero_add, Nat.reduceAdd, beq_self_eq_true, true_and, and_true, Nat.reduceLeDiff, Nat.le_refl, Nat.zero_le, Bool.or_true, Bool.true_or, Bool.or_false, Bool.false_or, Bool.or_self]
          have e1 : S 29 (300 * (29 * font + j) + S 30 (29 * font + j) - 1) = spTop S (29 * font + j) := by unfold spTop; rw [Nat.add_sub_assoc (by omega)]
          have e2 : spFw (S 25 (spTop S (29 * font + j))) ≤ 7 := spFw_le (hF _)
          have e3 := spFw_le haf
          rw [e1]
          try simp (disch := omega) only [Nat.reduceEqDiff, Prod.mk.injEq, Option.some.injEq, true_and, and_true, exists_eq_left', exists_eq_right, exists_and_left, exists_const, true_or, or_true, ne_eq, not_true_eq_false, not_false_eq_true, reduceCtorEq, false_and, and_false, if_true, if_false, forall_const, true_implies, false_implies, implies_true, qI_wI, qI_wP, qP_wI, qP_wP, qN_wI, qN_wP, and_self, nI_add, pk_mul, nI_clamp, vp_in_nI, ng_1, ng_10, nI_eq32, cs_0, cs_1, cs_2, cs_3, cs_4, cs_5, cs_6, cs_7, cs_8, cs_9, cs_10, cs_11, cs_12, cs_13, cs_14, cs_15, cs_16, cs_17, cs_18, cs_19, cs_20, cs_21, cs_22, cs_23, cs_24, cs_25, cs_26, cs_27, cs_28, cs_29, cs_30, cs_31, cs_32, cs_33, cs_34, cs_35, cs_36, cs_37, cs_38, cs_39, cs_40, cs_41, cs_42, cs_43, cs_44, cs_45, cs_46, cs_47, cs_48, cs_49, cs_50, cs_51, cs_52, cs_53, cs_54, cs_55, cs_56, cs_57, cs_58, cs_59, cs_60, cs_61, cs_62, cs_63, cs_64, cs_97, cs_100, cs_122, cs_200, cs_300, cs_448, cs_1000, al_11, al_12, al_13, al_14, al_15, al_16, al_17, al_18, al_19, al_20, al_21, al_22, al_23, al_24, al_25, al_26, al_27, al_28, al_29, al_30, al_31, al_32, al_33, al_34, al_35, al_36, al_37, al_38, al_39, al_40, al_41, al_42, al_43, al_44, al_45, al_46, al_47]
          exact ⟨fun q => k76n (fun z => q z.2) _ _, fun q => k76y ⟨h3, Classical.not_not.mp q⟩ _ _⟩
  refine ev_at hC (fun pc => pc == 24) 9 0 (ls := [some (vm), some (vI af), some (vI font), some (vI turns), none, none, none, none]) ?_
  simp only [↓cb_X10_pick_0, ↓cb_X10_pick_15, ↓cb_X10_pick_24, ↓cb_X10_pick_75, ↓cb_X10_pick_76, ↓cb_X10_pick_106, ↓cb_X10_pick_111, ↓cb_X10_pick_113, ↓cb_X10_pick_121, ↓cb_X10_pick_129, ↓te_ald, ↓te_aload, ↓te_astZ, ↓te_bin, ↓te_call, ↓te_callV, ↓te_const, ↓te_getP, ↓te_goto, ↓te_icmp, ↓te_if, ↓te_iinc, ↓te_iload, ↓te_iret, ↓te_istore, ↓evb_c, ↓evb_n, ↓evk_ap, ↓evm_ap, ↓evm_0, ↓jret_v, ↓jret_n, jget, jset, cond_true, cond_false, Nat.reduceBEq, jc1, List.take_succ_cons, List.take_zero, List.drop_succ_cons, List.drop_zero, List.reverse_cons, List.reverse_nil, List.nil_append, List.cons_append, List.length_cons, List.length_nil, Nat.zero_add, Nat.reduceAdd, beq_self_eq_true, true_and, and_true, Nat.reduceLeDiff, Nat.le_refl, Nat.zero_le, Bool.or_true, Bool.true_or, Bool.or_false, Bool.false_or, Bool.or_self]
  simp (disch := omega) only [Nat.reduceEqDiff, Prod.mk.injEq, Option.some.injEq, true_and, and_true, exists_eq_left', exists_eq_right, exists_and_left, exists_const, true_or, or_true, ne_eq, not_true_eq_false, not_false_eq_true, reduceCtorEq, false_and, and_false, if_true, if_false, forall_const, true_implies, false_implies, implies_true, qI_wI, qI_wP, qP_wI, qP_wP, qN_wI, qN_wP, and_self, nI_add, pk_mul, nI_clamp, vp_in_nI, ng_1, ng_10, nI_eq32, cs_0, cs_1, cs_2, cs_3, cs_4, cs_5, cs_6, cs_7, cs_8, cs_9, cs_10, cs_11, cs_12, cs_13, cs_14, cs_15, cs_16, cs_17, cs_18, cs_19, cs_20, cs_21, cs_22, cs_23, cs_24, cs_25, cs_26, cs_27, cs_28, cs_29, cs_30, cs_31, cs_32, cs_33, cs_34, cs_35, cs_36, cs_37, cs_38, cs_39, cs_40, cs_41, cs_42, cs_43, cs_44, cs_45, cs_46, cs_47, cs_48, cs_49, cs_50, cs_51, cs_52, cs_53, cs_54, cs_55, cs_56, cs_57, cs_58, cs_59, cs_60, cs_61, cs_62, cs_63, cs_64, cs_97, cs_100, cs_122, cs_200, cs_300, cs_448, cs_1000, al_11, al_12, al_13, al_14, al_15, al_16, al_17, al_18, al_19, al_20, al_21, al_22, al_23, al_24, al_25, al_26, al_27, al_28, al_29, al_30, al_31, al_32, al_33, al_34, al_35, al_36, al_37, al_38, al_39, al_40, al_41, al_42, al_43, al_44, al_45, al_46, al_47, p2, p3, p4, p5, p6, p7, p8, p10, p11, p15, p16, p17, p18, p19, p20, p21, p22, p23, p25, p26, p27, p32, f10, f25, f26, f27, f28, f29, f30, f31, f32, f33, f34, f35, f36, f37, f38, f39, f40, f41, f42, f43, f44, f45, f46, nI_leI]
  refine ⟨fun h => ?_, fun h => ?_⟩
  · exact k24 (by omega) 29 0 _ _ rfl (fun _ => rfl)
  · have h1 : 0 < S 30 af := by omega
    have h2 : spPickAt S af font turns = af := if_pos h1
    rw [h2, if_neg (by omega)] at hQ
    refine mm_takeFrom G haf h1 hc1 hM (fun M2 hM2 => ?_)
    try simp only [↓cb_X10_pick_0, ↓cb_X10_pick_15, ↓cb_X10_pick_24, ↓cb_X10_pick_75, ↓cb_X10_pick_76, ↓cb_X10_pick_106, ↓cb_X10_pick_111, ↓cb_X10_pick_113, ↓cb_X10_pick_121, ↓cb_X10_pick_129, ↓te_ald, ↓te_aload, ↓te_astZ, ↓te_bin, ↓te_call, ↓te_callV, ↓te_const, ↓te_getP, ↓te_goto, ↓te_icmp, ↓te_if, ↓te_iinc, ↓te_iload, ↓te_iret, ↓te_istore, ↓evb_c, ↓evb_n, ↓evk_ap, ↓evm_ap, ↓evm_0, ↓jret_v, ↓jret_n, jget, jset, cond_true, cond_false, Nat.reduceBEq, jc1, List.take_succ_cons, List.take_zero, List.drop_succ_cons, List.drop_zero, List.reverse_cons, List.reverse_nil, List.nil_append, List.cons_append, List.length_cons, List.length_nil, Nat.zero_add, Nat.reduceAdd, beq_self_eq_true, true_and, and_true, Nat.reduceLeDiff, Nat.le_refl, Nat.zero_le, Bool.or_true, Bool.true_or, Bool.or_false, Bool.false_or, Bool.or_self]
    exact hQ _ (hM2.eq (fun a b => by unfold spPick; rw [if_pos h1]; rfl))
