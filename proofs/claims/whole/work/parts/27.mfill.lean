/-! THE REFERENCE: spaces of a line, filling -/
theorem nI_toIntC (n : Nat) : (nI n).toInt = if 2 * (n % 2 ^ 32) < 2 ^ 32 then ((n % 2 ^ 32 : Nat) : Int) else ((n % 2 ^ 32 : Nat) : Int) - ((2 ^ 32 : Nat) : Int) := BitVec.toInt_eq_toNat_cond (nI n).toBitVec
/-- how many there are, none if the number is below 0 -/
def jP (x : Nat) : Nat := (nI x).toNatClampNeg
theorem jP_eq (x : Nat) : jP x = if 2 * (x % 2 ^ 32) < 2 ^ 32 then x % 2 ^ 32 else 0 := by
  unfold jP
  show (nI x).toInt.toNat = _
  rw [nI_toIntC]
  split <;> omega
theorem jP_le (x : Nat) : jP x ≤ x := by
  rw [jP_eq]
  split
  · exact Nat.mod_le _ _
  · exact Nat.zero_le _
theorem jP_pos {x t : Nat} (h : t ≤ jP x) : nI (x - t) ≤ nI 0 ↔ jP x ≤ t := by
  have h1 := jP_le x
  rw [Int32.le_iff_toInt_le, nI_toIntC, nI_toIntC]
  rw [jP_eq] at h h1 ⊢
  split at h <;> split <;> simp <;> omega
def spEmptyK (S : jS) (l g u : Nat) : jS := fun a b => if a = 32 ∧ 1 ≤ b ∧ b ≤ 6 then S 32 b + sumr (fun g => S 40 (448 * l + 7 * g + b)) 0 (if b < u then g + 1 else g) else if a = 40 ∧ 448 * l ≤ b ∧ b < 448 * l + 7 * g + u ∧ ¬ (b - 448 * l) % 7 = 0 then 0 else S a b
def spEmpty (S : jS) (l : Nat) : jS := spEmptyK S l (S 38 l + 1) 1
set_option maxRecDepth 20000 in
set_option maxHeartbeats 20000000 in
theorem mm_empty (G : jx_G) {M0 M : jx_M} {S : jS} {Q : jx_O → jx_M → Prop} {l : Nat} (hl : l < 12) (hg : S 38 l ≤ 60) (hM : RF M0 M S) (hQ : ∀ M', RF M0 M' (spEmpty S l) → Q (.inl none) M') : Mt G m_X10_empty [vm, vI l] M Q := by
  refine Mt.of (sc_X10_empty G) (by decide +kernel) (jArgs.of rfl) (Nat.le_of_ble_eq_true rfl) (fun Wn hC => ?_)
  have key : ∀ (d g : Nat) (M1 : jx_M) (x : Option jx_V), g + d = S 38 l + 1 → RF M0 M1 (spEmptyK S l g 1) → Wn 2 [some vm, some (vI l), some (vI g), x] [] M1 0 0 := by
    intro d
    induction d with
    | zero =>
      intro g M1 x h1 hM1
      obtain ⟨p2, p3, p4, p5, p6, p7, p8, p10, p11, p15, p16, p17, p18, p19, p20, p21, p22, p23, p25, p26, p27, p32⟩ := hM1.1.1
      obtain ⟨f10, f25, f26, f27, f28, f29, f30, f31, f32, f33, f34, f35, f36, f37, f38, f39, f40, f41, f42, f43, f44, f45, f46⟩ := hM1.fs
      have h38 : spEmptyK S l g 1 38 l = S 38 l := rfl
      refine ev_at hC (fun pc => pc == 2 || pc == 14) 9 2 (ls := [some vm, some (vI l), some (vI g), x]) ?_
      try simp only [↓cb_X10_empty_0, ↓cb_X10_empty_2, ↓cb_X10_empty_14, ↓cb_X10_empty_70, ↓cb_X10_empty_76, ↓te_ald, ↓te_aload, ↓te_ast, ↓te_bin, ↓te_const, ↓te_dup2, ↓te_getP, ↓te_goto, ↓te_icmp, ↓te_iinc, ↓te_iload, ↓te_istore, ↓te_vret, ↓evb_c, ↓evb_n, ↓evk_ap, ↓evm_ap, ↓evm_0, ↓jret_v, ↓jret_n, jget, jset, cond_true, cond_false, Nat.reduceBEq, jc1, List.take_succ_cons, List.take_zero, List.drop_succ_cons, List.drop_zero, List.reverse_cons, List.reverse_nil, List.nil_append, List.cons_append, List.length_cons, List.length_nil, Nat.zero_add, Nat.reduceAdd, beq_self_eq_true, true_and, and_true, Nat.reduceLeDiff, Nat.le_refl, Nat.zero_le, Bool.or_true, Bool.true_or, Bool.or_false, Bool.false_or, Bool.or_self]
      try simp (disch := omega) only [Nat.reduceEqDiff, Prod.mk.injEq, Option.some.injEq, true_and, and_true, exists_eq_left', exists_eq_right, exists_and_left, exists_const, true_or, or_true, ne_eq, not_true_eq_false, not_false_eq_true, reduceCtorEq, false_and, and_false, if_true, if_false, forall_const, true_implies, false_implies, implies_true, qI_wI, qI_wP, qP_wI, qP_wP, qN_wI, qN_wP, and_self, nI_add, pk_mul, nI_clamp, vp_in_nI, ng_1, ng_10, nI_eq32, cs_0, cs_1, cs_2, cs_3, cs_4, cs_5, cs_6, cs_7, cs_8, cs_9, cs_10, cs_11, cs_12, cs_13, cs_14, cs_15, cs_16, cs_17, cs_18, cs_19, cs_20, cs_21, cs_22, cs_23, cs_24, cs_25, cs_26, cs_27, cs_28, cs_29, cs_30, cs_31, cs_32, cs_33, cs_34, cs_35, cs_36, cs_37, cs_38, cs_39, cs_40, cs_41, cs_42, cs_43, cs_44, cs_45, cs_46, cs_47, cs_48, cs_49, cs_50, cs_51, cs_52, cs_53, cs_54, cs_55, cs_56, cs_57, cs_58, cs_59, cs_60, cs_61, cs_62, cs_63, cs_64, cs_97, cs_100, cs_122, cs_200, cs_300, cs_448, cs_1000, al_11, al_12, al_13, al_14, al_15, al_16, al_17, al_18, al_19, al_20, al_21, al_22, al_23, al_24, al_25, al_26, al_27, al_28, al_29, al_30, al_31, al_32, al_33, al_34, al_35, al_36, al_37, al_38, al_39, al_40, al_41, al_42, al_43, al_44, al_45, al_46, al_47, p2, p3, p4, p5, p6, p7, p8, p10, p11, p15, p16, p17, p18, p19, p20, p21, p22, p23, p25, p26, p27, p32, f10, f25, f26, f27, f28, f29, f30, f31, f32, f33, f34, f35, f36, f37, f38, f39, f40, f41, f42, f43, f44, f45, f46, h38, nI_ltI]
      refine ⟨fun _ => hQ _ (hM1.eq (fun a b => ?_)), fun h => absurd h (by omega)⟩
      have h4 : g = S 38 l + 1 := by omega
      subst h4
      rfl
    | succ d ih =>
      intro g M1 x h1 hM1
      have inner : ∀ (d u : Nat) (M1 : jx_M), u + d = 7 → 1 ≤ u → RF M0 M1 (spEmptyK S l g u) → Wn 14 [some vm, some (vI l), some (vI g), some (vI u)] [] M1 0 0 := by
        intro d2
        induction d2 with
        | zero =>
          intro u M1 h2 h3 hM1
          have h4 : u = 7 := by omega
          subst h4
          refine ev_at hC (fun pc => pc == 2 || pc == 14) 9 14 (ls := [some (vm), some (vI l), some (vI g), some (vI 7)]) ?_
          simp only [↓cb_X10_empty_0, ↓cb_X10_empty_2, ↓cb_X10_empty_14, ↓cb_X10_empty_70, ↓cb_X10_empty_76, ↓te_ald, ↓te_aload, ↓te_ast, ↓te_bin, ↓te_const, ↓te_dup2, ↓te_getP, ↓te_goto, ↓te_icmp, ↓te_iinc, ↓te_iload, ↓te_istore, ↓te_vret, ↓evb_c, ↓evb_n, ↓evk_ap, ↓evm_ap, ↓evm_0, ↓jret_v, ↓jret_n, jget, jset, cond_true, cond_false, Nat.reduceBEq, jc1, List.take_succ_cons, List.take_zero, List.drop_succ_cons, List.drop_zero, List.reverse_cons, List.reverse_nil, List.nil_append, List.cons_append, List.length_cons, List.length_nil, Nat.zero_add, Nat.reduceAdd, beq_self_eq_true, true_and, and_true, Nat.reduceLeDiff, Nat.le_refl, Nat.zero_le, Bool.or_true, Bool.true_or, Bool.or_false, Bool.false_or, Bool.or_self]
          simp (disch := omega) only [Nat.reduceEqDiff, Prod.mk.injEq, Option.some.injEq, true_and, and_true, exists_eq_left', exists_eq_right, exists_and_left, exists_const, true_or, or_true, ne_eq, not_true_eq_false, not_false_eq_true, reduceCtorEq, false_and, and_false, if_true, if_false, forall_const, true_implies, false_implies, implies_true, qI_wI, qI_wP, qP_wI, qP_wP, qN_wI, qN_wP, and_self, nI_add, pk_mul, nI_clamp, vp_in_nI, ng_1, ng_10, nI_eq32, cs_0, cs_1, cs_2, cs_3, cs_4, cs_5, cs_6, cs_7, cs_8, cs_9, cs_10, cs_11, cs_12, cs_13, cs_14, cs_15, cs_16, cs_17, cs_18, cs_19, cs_20, cs_21, cs_22, cs_23, cs_24, cs_25, cs_26, cs_27, cs_28, cs_29, cs_30, cs_31, cs_32, cs_33, cs_34, cs_35, cs_36, cs_37, cs_38, cs_39, cs_40, cs_41, cs_42, cs_43, cs_44, cs_45, cs_46, cs_47, cs_48, cs_49, cs_50, cs_51, cs_52, cs_53, cs_54, cs_55, cs_56, cs_57, cs_58, cs_59, cs_60, cs_61, cs_62, cs_63, cs_64, cs_97, cs_100, cs_122, cs_200, cs_300, cs_448, cs_1000, al_11, al_12, al_13, al_14, al_15, al_16, al_17, al_18, al_19, al_20, al_21, al_22, al_23, al_24, al_25, al_26, al_27, al_28, al_29, al_30, al_31, al_32, al_33, al_34, al_35, al_36, al_37, al_38, al_39, al_40, al_41, al_42, al_43, al_44, al_45, al_46, al_47, nI_leI]
          refine ⟨fun _ => ih (g + 1) _ _ (by omega) (hM1.eq (fun a b => ?_)), fun h => absurd (Nat.le_refl _) h⟩
          unfold spEmptyK
          by_cases e : a = 32 ∧ 1 ≤ b ∧ b ≤ 6
          · rw [if_pos e, if_pos e, if_neg (show ¬ b < 1 by omega), if_pos (show b < 7 by omega)]
          · rw [if_neg e, if_neg e]
            by_cases e2 : a = 40 ∧ 448 * l ≤ b ∧ b < 448 * l + 7 * g + 7 ∧ ¬ (b - 448 * l) % 7 = 0
            · rw [if_pos e2, if_pos (by omega)]
            · rw [if_neg e2, if_neg (by omega)]
        | succ d2 ih2 =>
          intro u M1 h2 h3 hM1
          obtain ⟨p2, p3, p4, p5, p6, p7, p8, p10, p11, p15, p16, p17, p18, p19, p20, p21, p22, p23, p25, p26, p27, p32⟩ := hM1.1.1
          obtain ⟨f10, f25, f26, f27, f28, f29, f30, f31, f32, f33, f34, f35, f36, f37, f38, f39, f40, f41, f42, f43, f44, f45, f46⟩ := hM1.fs
          have h32 : spEmptyK S l g u 32 u = S 32 u + sumr (fun g => S 40 (448 * l + 7 * g + u)) 0 g := by
            unfold spEmptyK
            rw [if_pos (by omega), if_neg (Nat.lt_irrefl u)]
          have h40 : spEmptyK S l g u 40 (448 * l + 7 * g + u) = S 40 (448 * l + 7 * g + u) := by
            unfold spEmptyK
            rw [if_neg (by omega), if_neg (by omega)]
          refine ev_at hC (fun pc => pc == 2 || pc == 14) 9 14 (ls := [some (vm), some (vI l), some (vI g), some (vI u)]) ?_
          simp only [↓cb_X10_empty_0, ↓cb_X10_empty_2, ↓cb_X10_empty_14, ↓cb_X10_empty_70, ↓cb_X10_empty_76, ↓te_ald, ↓te_aload, ↓te_ast, ↓te_bin, ↓te_const, ↓te_dup2, ↓te_getP, ↓te_goto, ↓te_icmp, ↓te_iinc, ↓te_iload, ↓te_istore, ↓te_vret, ↓evb_c, ↓evb_n, ↓evk_ap, ↓evm_ap, ↓evm_0, ↓jret_v, ↓jret_n, jget, jset, cond_true, cond_false, Nat.reduceBEq, jc1, List.take_succ_cons, List.take_zero, List.drop_succ_cons, List.drop_zero, List.reverse_cons, List.reverse_nil, List.nil_append, List.cons_append, List.length_cons, List.length_nil, Nat.zero_add, Nat.reduceAdd, beq_self_eq_true, true_and, and_true, Nat.reduceLeDiff, Nat.le_refl, Nat.zero_le, Bool.or_true, Bool.true_or, Bool.or_false, Bool.false_or, Bool.or_self]
          simp (disch := omega) only [Nat.reduceEqDiff, Prod.mk.injEq, Option.some.injEq, true_and, and_true, exists_eq_left', exists_eq_right, exists_and_left, exists_const, true_or, or_true, ne_eq, not_true_eq_false, not_false_eq_true, reduceCtorEq, false_and, and_false, if_true, if_false, forall_const, true_implies, false_implies, implies_true, qI_wI, qI_wP, qP_wI, qP_wP, qN_wI, qN_wP, and_self, nI_add, pk_mul, nI_clamp, vp_in_nI, ng_1, ng_10, nI_eq32, cs_0, cs_1, cs_2, cs_3, cs_4, cs_5, cs_6, cs_7, cs_8, cs_9, cs_10, cs_11, cs_12, cs_13, cs_14, cs_15, cs_16, cs_17, cs_18, cs_19, cs_20, cs_21, cs_22, cs_23, cs_24, cs_25, cs_26, cs_27, cs_28, cs_29, cs_30, cs_31, cs_32, cs_33, cs_34, cs_35, cs_36, cs_37, cs_38, cs_39, cs_40, cs_41, cs_42, cs_43, cs_44, cs_45, cs_46, cs_47, cs_48, cs_49, cs_50, cs_51, cs_52, cs_53, cs_54, cs_55, cs_56, cs_57, cs_58, cs_59, cs_60, cs_61, cs_62, cs_63, cs_64, cs_97, cs_100, cs_122, cs_200, cs_300, cs_448, cs_1000, al_11, al_12, al_13, al_14, al_15, al_16, al_17, al_18, al_19, al_20, al_21, al_22, al_23, al_24, al_25, al_26, al_27, al_28, al_29, al_30, al_31, al_32, al_33, al_34, al_35, al_36, al_37, al_38, al_39, al_40, al_41, al_42, al_43, al_44, al_45, al_46, al_47, p2, p3, p4, p5, p6, p7, p8, p10, p11, p15, p16, p17, p18, p19, p20, p21, p22, p23, p25, p26, p27, p32, f10, f25, f26, f27, f28, f29, f30, f31, f32, f33, f34, f35, f36, f37, f38, f39, f40, f41, f42, f43, f44, f45, f46, h32, h40, nI_leI]
          refine ⟨fun h => absurd h (by omega), fun _ => ?_⟩
          refine ih2 (u + 1) _ (by omega) (by omega) ((RF.w (r := 40) (k := 448 * l + 7 * g + u) (v := 0) (by decide) (RF.w (r := 32) (k := u) (v := S 32 u + sumr (fun g => S 40 (448 * l + 7 * g + u)) 0 g + S 40 (448 * l + 7 * g + u)) (by decide) hM1)).eq (fun a b => ?_))
          simp only [sw_at]
          by_cases e0 : a = 40 ∧ b = 448 * l + 7 * g + u
          · rw [if_pos e0]
            unfold spEmptyK
            rw [if_neg (by omega), if_pos (by omega)]
          · rw [if_neg e0]
            by_cases e1 : a = 32 ∧ b = u
            · rw [if_pos e1]
              unfold spEmptyK
              rw [if_pos (by omega), if_pos (by omega), e1.2, sumr_s]
              exact (Nat.add_assoc _ _ _).symm
            · rw [if_neg e1]
              unfold spEmptyK
              by_cases e : a = 32 ∧ 1 ≤ b ∧ b ≤ 6
              · rw [if_pos e, if_pos e]
                by_cases e3 : b < u
                · rw [if_pos e3, if_pos (by omega)]
                · rw [if_neg e3, if_neg (by omega)]
              · rw [if_neg e, if_neg e]
                by_cases e2 : a = 40 ∧ 448 * l ≤ b ∧ b < 448 * l + 7 * g + u ∧ ¬ (b - 448 * l) % 7 = 0
                · rw [if_pos e2, if_pos (by omega)]
                · rw [if_neg e2, if_neg (by omega)]
      obtain ⟨p2, p3, p4, p5, p6, p7, p8, p10, p11, p15, p16, p17, p18, p19, p20, p21, p22, p23, p25, p26, p27, p32⟩ := hM1.1.1
      obtain ⟨f10, f25, f26, f27, f28, f29, f30, f31, f32, f33, f34, f35, f36, f37, f38, f39, f40, f41, f42, f43, f44, f45, f46⟩ := hM1.fs
      have h38 : spEmptyK S l g 1 38 l = S 38 l := rfl
      refine ev_at hC (fun pc => pc == 2 || pc == 14) 9 2 (ls := [some vm, some (vI l), some (vI g), x]) ?_
      try simp only [↓cb_X10_empty_0, ↓cb_X10_empty_2, ↓cb_X10_empty_14, ↓cb_X10_empty_70, ↓cb_X10_empty_76, ↓te_ald, ↓te_aload, ↓te_ast, ↓te_bin, ↓te_const, ↓te_dup2, ↓te_getP, ↓te_goto, ↓te_icmp, ↓te_iinc, ↓te_iload, ↓te_istore, ↓te_vret, ↓evb_c, ↓evb_n, ↓evk_ap, ↓evm_ap, ↓evm_0, ↓jret_v, ↓jret_n, jget, jset, cond_true, cond_false, Nat.reduceBEq, jc1, List.take_succ_cons, List.take_zero, List.drop_succ_cons, List.drop_zero, List.reverse_cons, List.reverse_nil, List.nil_append, List.cons_append, List.length_cons, List.length_nil, Nat.zero_add, Nat.reduceAdd, beq_self_eq_true, true_and, and_true, Nat.reduceLeDiff, Nat.le_refl, Nat.zero_le, Bool.or_true, Bool.true_or, Bool.or_false, Bool.false_or, Bool.or_self]
      try simp (disch := omega) only [Nat.reduceEqDiff, Prod.mk.injEq, Option.some.injEq, true_and, and_true, exists_eq_left', exists_eq_right, exists_and_left, exists_const, true_or, or_true, ne_eq, not_true_eq_false, not_false_eq_true, reduceCtorEq, false_and, and_false, if_true, if_false, forall_const, true_implies, false_implies, implies_true, qI_wI, qI_wP, qP_wI, qP_wP, qN_wI, qN_wP, and_self, nI_add, pk_mul, nI_clamp, vp_in_nI, ng_1, ng_10, nI_eq32, cs_0, cs_1, cs_2, cs_3, cs_4, cs_5, cs_6, cs_7, cs_8, cs_9, cs_10, cs_11, cs_12, cs_13, cs_14, cs_15, cs_16, cs_17, cs_18, cs_19, cs_20, cs_21, cs_22, cs_23, cs_24, cs_25, cs_26, cs_27, cs_28, cs_29, cs_30, cs_31, cs_32, cs_33, cs_34, cs_35, cs_36, cs_37, cs_38, cs_39, cs_40, cs_41, cs_42, cs_43, cs_44, cs_45, cs_46, cs_47, cs_48, cs_49, cs_50, cs_51, cs_52, cs_53, cs_54, cs_55, cs_56, cs_57, cs_58, cs_59, cs_60, cs_61, cs_62, cs_63, cs_64, cs_97, cs_100, cs_122, cs_200, cs_300, cs_448, cs_1000, al_11, al_12, al_13, al_14, al_15, al_16, al_17, al_18, al_19, al_20, al_21, al_22, al_23, al_24, al_25, al_26, al_27, al_28, al_29, al_30, al_31, al_32, al_33, al_34, al_35, al_36, al_37, al_38, al_39, al_40, al_41, al_42, al_43, al_44, al_45, al_46, al_47, p2, p3, p4, p5, p6, p7, p8, p10, p11, p15, p16, p17, p18, p19, p20, p21, p22, p23, p25, p26, p27, p32, f10, f25, f26, f27, f28, f29, f30, f31, f32, f33, f34, f35, f36, f37, f38, f39, f40, f41, f42, f43, f44, f45, f46, h38, nI_ltI]
      exact ⟨fun h => absurd h (by omega), fun _ => inner 6 1 _ rfl (Nat.le_refl _) hM1⟩
  refine ev_at hC (fun pc => pc == 2) 3 0 (ls := [some vm, some (vI l), none, none]) ?_
  try simp only [↓cb_X10_empty_0, ↓cb_X10_empty_2, ↓cb_X10_empty_14, ↓cb_X10_empty_70, ↓cb_X10_empty_76, ↓te_ald, ↓te_aload, ↓te_ast, ↓te_bin, ↓te_const, ↓te_dup2, ↓te_getP, ↓te_goto, ↓te_icmp, ↓te_iinc, ↓te_iload, ↓te_istore, ↓te_vret, ↓evb_c, ↓evb_n, ↓evk_ap, ↓evm_ap, ↓evm_0, ↓jret_v, ↓jret_n, jget, jset, cond_true, cond_false, Nat.reduceBEq, jc1, List.take_succ_cons, List.take_zero, List.drop_succ_cons, List.drop_zero, List.reverse_cons, List.reverse_nil, List.nil_append, List.cons_append, List.length_cons, List.length_nil, Nat.zero_add, Nat.reduceAdd, beq_self_eq_true, true_and, and_true, Nat.reduceLeDiff, Nat.le_refl, Nat.zero_le, Bool.or_true, Bool.true_or, Bool.or_false, Bool.false_or, Bool.or_self]
  refine key (S 38 l + 1) 0 M _ (by omega) (hM.eq (fun a b => ?_))
  unfold spEmptyK
  by_cases e : a = 32 ∧ 1 ≤ b ∧ b ≤ 6
  · rw [if_pos e, if_neg (show ¬ b < 1 by omega), e.1]
    rfl
  · rw [if_neg e, if_neg (by omega)]
def spF1 (S : jS) (c u t : Nat) : jS := sw (sw S 32 u (S 32 u - t)) 40 c (S 40 c + t)
theorem spF1_0 (S : jS) (c u : Nat) (a b : Nat) : spF1 S c u 0 a b = S a b := by
  simp only [spF1, sw_at]
  by_cases h : a = 40 ∧ b = c
  · rw [if_pos h, h.1, h.2]; rfl
  · rw [if_neg h]
    by_cases h2 : a = 32 ∧ b = u
    · rw [if_pos h2, h2.1, h2.2]; rfl
    · rw [if_neg h2]
theorem spF1_s (S : jS) (c u t : Nat) (a b : Nat) : spF1 S c u (t + 1) a b = sw (sw (spF1 S c u t) 32 u (S 32 u - t - 1)) 40 c (S 40 c + t + 1) a b := by
  simp only [spF1, sw_at]
  by_cases h : a = 40 ∧ b = c
  · rw [if_pos h, if_pos h]; rfl
  · rw [if_neg h, if_neg h]
    by_cases h2 : a = 32 ∧ b = u
    · rw [if_pos h2, if_pos h2]; rfl
    · rw [if_neg h2, if_neg h2, if_neg h, if_neg h2]
/-- how many spaces of u units are taken -/
def spTaken (S : jS) (u left : Nat) : Nat := min (left / u) (jP (S 32 u))
def spFG (c : Nat) : Nat → Nat → jS → jS
  | 0, _, S => S
  | u + 1, left, S => spFG c u (left - spTaken S (u + 1) left * (u + 1)) (spF1 S (c + (u + 1)) (u + 1) (spTaken S (u + 1) left))
def spFillGap (S : jS) (l g n : Nat) : jS := spFG (448 * l + 7 * g) 6 n S
set_option maxRecDepth 20000 in
set_option maxHeartbeats 20000000 in
theorem mm_fillGap (G : jx_G) {M0 M : jx_M} {S : jS} {Q : jx_O → jx_M → Prop} {l g n : Nat} (hl : l < 12) (hg : g < 64) (hn : n < 2 ^ 31) (hM : RF M0 M S) (hQ : ∀ M', RF M0 M' (spFillGap S l g n) → Q (.inl none) M') : Mt G m_X10_fillGap [vm, vI l, vI g, vI n] M Q := by
  refine Mt.of (sc_X10_fillGap G) (by decide +kernel) (jArgs.of rfl) (Nat.le_of_ble_eq_true rfl) (fun Wn hC => ?_)
  have key : ∀ (u left : Nat) (M1 : jx_M) (S1 : jS), u ≤ 6 → left < 2 ^ 31 → RF M0 M1 S1 → (∀ M', RF M0 M' (spFG (448 * l + 7 * g) u left S1) → Q (.inl none) M') → Wn 7 [some vm, some (vI l), some (vI g), some (vI n), some (vI left), some (vI u)] [] M1 0 0 := by
    intro u
    induction u with
    | zero =>
      intro left M1 S1 hu hl9 hM1 hQ1
      refine ev_at hC (fun pc => pc == 7 || pc == 12) 9 7 (ls := [some (vm), some (vI l), some (vI g), some (vI n), some (vI left), some (vI 0)]) ?_
      simp only [↓cb_X10_fillGap_0, ↓cb_X10_fillGap_7, ↓cb_X10_fillGap_12, ↓cb_X10_fillGap_72, ↓cb_X10_fillGap_78, ↓te_ald, ↓te_aload, ↓te_ast, ↓te_bin, ↓te_const, ↓te_dup2, ↓te_getP, ↓te_goto, ↓te_icmp, ↓te_if, ↓te_iinc, ↓te_iload, ↓te_istore, ↓te_vret, ↓evb_c, ↓evb_n, ↓evk_ap, ↓evm_ap, ↓evm_0, ↓jret_v, ↓jret_n, jget, jset, cond_true, cond_false, Nat.reduceBEq, jc1, List.take_succ_cons, List.take_zero, List.drop_succ_cons, List.drop_zero, List.reverse_cons, List.reverse_nil, List.nil_append, List.cons_append, List.length_cons, List.length_nil, Nat.zero_add, Nat.reduceAdd, beq_self_eq_true, true_and, and_true, Nat.reduceLeDiff, Nat.le_refl, Nat.zero_le, Bool.or_true, Bool.true_or, Bool.or_false, Bool.false_or, Bool.or_self]
      simp (disch := omega) only [Nat.reduceEqDiff, Prod.mk.injEq, Option.some.injEq, true_and, and_true, exists_eq_left', exists_eq_right, exists_and_left, exists_const, true_or, or_true, ne_eq, not_true_eq_false, not_false_eq_true, reduceCtorEq, false_and, and_false, if_true, if_false, forall_const, true_implies, false_implies, implies_true, qI_wI, qI_wP, qP_wI, qP_wP, qN_wI, qN_wP, and_self, nI_add, pk_mul, nI_clamp, vp_in_nI, ng_1, ng_10, nI_eq32, cs_0, cs_1, cs_2, cs_3, cs_4, cs_5, cs_6, cs_7, cs_8, cs_9, cs_10, cs_11, cs_12, cs_13, cs_14, cs_15, cs_16, cs_17, cs_18, cs_19, cs_20, cs_21, cs_22, cs_23, cs_24, cs_25, cs_26, cs_27, cs_28, cs_29, cs_30, cs_31, cs_32, cs_33, cs_34, cs_35, cs_36, cs_37, cs_38, cs_39, cs_40, cs_41, cs_42, cs_43, cs_44, cs_45, cs_46, cs_47, cs_48, cs_49, cs_50, cs_51, cs_52, cs_53, cs_54, cs_55, cs_56, cs_57, cs_58, cs_59, cs_60, cs_61, cs_62, cs_63, cs_64, cs_97, cs_100, cs_122, cs_200, cs_300, cs_448, cs_1000, al_11, al_12, al_13, al_14, al_15, al_16, al_17, al_18, al_19, al_20, al_21, al_22, al_23, al_24, al_25, al_26, al_27, al_28, al_29, al_30, al_31, al_32, al_33, al_34, al_35, al_36, al_37, al_38, al_39, al_40, al_41, al_42, al_43, al_44, al_45, al_46, al_47, nI_leI]
      exact ⟨fun _ => hQ1 _ hM1, fun h => absurd (Nat.le_refl _) h⟩
    | succ u ih =>
      intro left M1 S1 hu hl9 hM1 hQ1
      have inner : ∀ (d t : Nat) (M1 : jx_M), t + d = spTaken S1 (u + 1) left → RF M0 M1 (spF1 S1 (448 * l + 7 * g + (u + 1)) (u + 1) t) → Wn 12 [some vm, some (vI l), some (vI g), some (vI n), some (vI (left - t * (u + 1))), some (vI (u + 1))] [] M1 0 0 := by
        intro d
        have h32 : ∀ t, spF1 S1 (448 * l + 7 * g + (u + 1)) (u + 1) t 32 (u + 1) = S1 32 (u + 1) - t := fun t => by
          simp [spF1, sw_at]
        have h40 : ∀ t, spF1 S1 (448 * l + 7 * g + (u + 1)) (u + 1) t 40 (448 * l + 7 * g + (u + 1)) = S1 40 (448 * l + 7 * g + (u + 1)) + t := fun t => by
          simp [spF1, sw_at]
        induction d with
        | zero =>
          intro t M1 h1 hM1
          have hT : t = min (left / (u + 1)) (jP (S1 32 (u + 1))) := h1
          have hex : Wn 72 [some vm, some (vI l), some (vI g), some (vI n), some (vI (left - t * (u + 1))), some (vI (u + 1))] [] M1 0 0 := by
            refine ev_at hC (fun pc => pc == 7) 3 72 (ls := [some vm, some (vI l), some (vI g), some (vI n), some (vI (left - t * (u + 1))), some (vI (u + 1))]) ?_
            try simp only [↓cb_X10_fillGap_0, ↓cb_X10_fillGap_7, ↓cb_X10_fillGap_12, ↓cb_X10_fillGap_72, ↓cb_X10_fillGap_78, ↓te_ald, ↓te_aload, ↓te_ast, ↓te_bin, ↓te_const, ↓te_dup2, ↓te_getP, ↓te_goto, ↓te_icmp, ↓te_if, ↓te_iinc, ↓te_iload, ↓te_istore, ↓te_vret, ↓evb_c, ↓evb_n, ↓evk_ap, ↓evm_ap, ↓evm_0, ↓jret_v, ↓jret_n, jget, jset, cond_true, cond_false, Nat.reduceBEq, jc1, List.take_succ_cons, List.take_zero, List.drop_succ_cons, List.drop_zero, List.reverse_cons, List.reverse_nil, List.nil_append, List.cons_append, List.length_cons, List.length_nil, Nat.zero_add, Nat.reduceAdd, beq_self_eq_true, true_and, and_true, Nat.reduceLeDiff, Nat.le_refl, Nat.zero_le, Bool.or_true, Bool.true_or, Bool.or_false, Bool.false_or, Bool.or_self]
            rw [show nI (u + 1) + -1 = nI u from pk_m1 u]
            refine ih (left - t * (u + 1)) M1 _ (by omega) (by omega) hM1 (fun M' hM' => hQ1 M' ?_)
            have h3 : t = spTaken S1 (u + 1) left := h1
            rw [h3] at hM'
            exact hM'
          obtain ⟨p2, p3, p4, p5, p6, p7, p8, p10, p11, p15, p16, p17, p18, p19, p20, p21, p22, p23, p25, p26, p27, p32⟩ := hM1.1.1
          obtain ⟨f10, f25, f26, f27, f28, f29, f30, f31, f32, f33, f34, f35, f36, f37, f38, f39, f40, f41, f42, f43, f44, f45, f46⟩ := hM1.fs
          refine ev_at hC (fun pc => pc == 7 || pc == 12 || pc == 72) 9 12 (ls := [some (vm), some (vI l), some (vI g), some (vI n), some (vI (left - t * (u + 1))), some (vI (u + 1))]) ?_
          simp only [↓cb_X10_fillGap_0, ↓cb_X10_fillGap_7, ↓cb_X10_fillGap_12, ↓cb_X10_fillGap_72, ↓cb_X10_fillGap_78, ↓te_ald, ↓te_aload, ↓te_ast, ↓te_bin, ↓te_const, ↓te_dup2, ↓te_getP, ↓te_goto, ↓te_icmp, ↓te_if, ↓te_iinc, ↓te_iload, ↓te_istore, ↓te_vret, ↓evb_c, ↓evb_n, ↓evk_ap, ↓evm_ap, ↓evm_0, ↓jret_v, ↓jret_n, jget, jset, cond_true, cond_false, Nat.reduceBEq, jc1, List.take_succ_cons, List.take_zero, List.drop_succ_cons, List.drop_zero, List.reverse_cons, List.reverse_nil, List.nil_append, List.cons_append, List.length_cons, List.length_nil, Nat.zero_add, Nat.reduceAdd, beq_self_eq_true, true_and, and_true, Nat.reduceLeDiff, Nat.le_refl, Nat.zero_le, Bool.or_true, Bool.true_or, Bool.or_false, Bool.false_or, Bool.or_self]
          simp (disch := omega) only [Nat.reduceEqDiff, Prod.mk.injEq, Option.some.injEq, true_and, and_true, exists_eq_left', exists_eq_right, exists_and_left, exists_const, true_or, or_true, ne_eq, not_true_eq_false, not_false_eq_true, reduceCtorEq, false_and, and_false, if_true, if_false, forall_const, true_implies, false_implies, implies_true, qI_wI, qI_wP, qP_wI, qP_wP, qN_wI, qN_wP, and_self, nI_add, pk_mul, nI_clamp, vp_in_nI, ng_1, ng_10, nI_eq32, cs_0, cs_1, cs_2, cs_3, cs_4, cs_5, cs_6, cs_7, cs_8, cs_9, cs_10, cs_11, cs_12, cs_13, cs_14, cs_15, cs_16, cs_17, cs_18, cs_19, cs_20, cs_21, cs_22, cs_23, cs_24, cs_25, cs_26, cs_27, cs_28, cs_29, cs_30, cs_31, cs_32, cs_33, cs_34, cs_35, cs_36, cs_37, cs_38, cs_39, cs_40, cs_41, cs_42, cs_43, cs_44, cs_45, cs_46, cs_47, cs_48, cs_49, cs_50, cs_51, cs_52, cs_53, cs_54, cs_55, cs_56, cs_57, cs_58, cs_59, cs_60, cs_61, cs_62, cs_63, cs_64, cs_97, cs_100, cs_122, cs_200, cs_300, cs_448, cs_1000, al_11, al_12, al_13, al_14, al_15, al_16, al_17, al_18, al_19, al_20, al_21, al_22, al_23, al_24, al_25, al_26, al_27, al_28, al_29, al_30, al_31, al_32, al_33, al_34, al_35, al_36, al_37, al_38, al_39, al_40, al_41, al_42, al_43, al_44, al_45, al_46, al_47, p2, p3, p4, p5, p6, p7, p8, p10, p11, p15, p16, p17, p18, p19, p20, p21, p22, p23, p25, p26, p27, p32, f10, f25, f26, f27, f28, f29, f30, f31, f32, f33, f34, f35, f36, f37, f38, f39, f40, f41, f42, f43, f44, f45, f46, h32, h40, nI_ltI]
          refine ⟨fun _ => hex, fun h => ⟨fun _ => hex, fun h2 => ?_⟩⟩
          exfalso
          have h3 : t ≤ jP (S1 32 (u + 1)) := hT ▸ Nat.min_le_right _ _
          have h4 : t ≤ left / (u + 1) := hT ▸ Nat.min_le_left _ _
          rw [jP_pos h3] at h2
          have h5 : left / (u + 1) ≤ t := by omega
          have h6 : left = (u + 1) * (left / (u + 1)) + left % (u + 1) := (Nat.div_add_mod _ _).symm
          have h7 : left % (u + 1) < u + 1 := Nat.mod_lt _ (by omega)
          have h8 : t = left / (u + 1) := by omega
          rw [h8, Nat.mul_comm] at h
          omega
        | succ d ih2 =>
          intro t M1 h1 hM1
          have h3 : t < jP (S1 32 (u + 1)) := by
            have : spTaken S1 (u + 1) left ≤ jP (S1 32 (u + 1)) := Nat.min_le_right _ _
            omega
          have h4 : t < left / (u + 1) := by
            have : spTaken S1 (u + 1) left ≤ left / (u + 1) := Nat.min_le_left _ _
            omega
          have h9 := jP_le (S1 32 (u + 1))
          have h5 : (t + 1) * (u + 1) ≤ left := Nat.le_trans (Nat.mul_le_mul_right _ h4) (Nat.div_mul_le_self _ _)
          have h6 : (t + 1) * (u + 1) = t * (u + 1) + (u + 1) := Nat.succ_mul _ _
          obtain ⟨p2, p3, p4, p5, p6, p7, p8, p10, p11, p15, p16, p17, p18, p19, p20, p21, p22, p23, p25, p26, p27, p32⟩ := hM1.1.1
          obtain ⟨f10, f25, f26, f27, f28, f29, f30, f31, f32, f33, f34, f35, f36, f37, f38, f39, f40, f41, f42, f43, f44, f45, f46⟩ := hM1.fs
          refine ev_at hC (fun pc => pc == 7 || pc == 12 || pc == 72) 9 12 (ls := [some (vm), some (vI l), some (vI g), some (vI n), some (vI (left - t * (u + 1))), some (vI (u + 1))]) ?_
          simp only [↓cb_X10_fillGap_0, ↓cb_X10_fillGap_7, ↓cb_X10_fillGap_12, ↓cb_X10_fillGap_72, ↓cb_X10_fillGap_78, ↓te_ald, ↓te_aload, ↓te_ast, ↓te_bin, ↓te_const, ↓te_dup2, ↓te_getP, ↓te_goto, ↓te_icmp, ↓te_if, ↓te_iinc, ↓te_iload, ↓te_istore, ↓te_vret, ↓evb_c, ↓evb_n, ↓evk_ap, ↓evm_ap, ↓evm_0, ↓jret_v, ↓jret_n, jget, jset, cond_true, cond_false, Nat.reduceBEq, jc1, List.take_succ_cons, List.take_zero, List.drop_succ_cons, List.drop_zero, List.reverse_cons, List.reverse_nil, List.nil_append, List.cons_append, List.length_cons, List.length_nil, Nat.zero_add, Nat.reduceAdd, beq_self_eq_true, true_and, and_true, Nat.reduceLeDiff, Nat.le_refl, Nat.zero_le, Bool.or_true, Bool.true_or, Bool.or_false, Bool.false_or, Bool.or_self]
          simp (disch := omega) only [Nat.reduceEqDiff, Prod.mk.injEq, Option.some.injEq, true_and, and_true, exists_eq_left', exists_eq_right, exists_and_left, exists_const, true_or, or_true, ne_eq, not_true_eq_false, not_false_eq_true, reduceCtorEq, false_and, and_false, if_true, if_false, forall_const, true_implies, false_implies, implies_true, qI_wI, qI_wP, qP_wI, qP_wP, qN_wI, qN_wP, and_self, nI_add, pk_mul, nI_clamp, vp_in_nI, ng_1, ng_10, nI_eq32, cs_0, cs_1, cs_2, cs_3, cs_4, cs_5, cs_6, cs_7, cs_8, cs_9, cs_10, cs_11, cs_12, cs_13, cs_14, cs_15, cs_16, cs_17, cs_18, cs_19, cs_20, cs_21, cs_22, cs_23, cs_24, cs_25, cs_26, cs_27, cs_28, cs_29, cs_30, cs_31, cs_32, cs_33, cs_34, cs_35, cs_36, cs_37, cs_38, cs_39, cs_40, cs_41, cs_42, cs_43, cs_44, cs_45, cs_46, cs_47, cs_48, cs_49, cs_50, cs_51, cs_52, cs_53, cs_54, cs_55, cs_56, cs_57, cs_58, cs_59, cs_60, cs_61, cs_62, cs_63, cs_64, cs_97, cs_100, cs_122, cs_200, cs_300, cs_448, cs_1000, al_11, al_12, al_13, al_14, al_15, al_16, al_17, al_18, al_19, al_20, al_21, al_22, al_23, al_24, al_25, al_26, al_27, al_28, al_29, al_30, al_31, al_32, al_33, al_34, al_35, al_36, al_37, al_38, al_39, al_40, al_41, al_42, al_43, al_44, al_45, al_46, al_47, p2, p3, p4, p5, p6, p7, p8, p10, p11, p15, p16, p17, p18, p19, p20, p21, p22, p23, p25, p26, p27, p32, f10, f25, f26, f27, f28, f29, f30, f31, f32, f33, f34, f35, f36, f37, f38, f39, f40, f41, f42, f43, f44, f45, f46, h32, h40, nI_ltI]
          refine ⟨fun h => absurd h (by omega), fun _ => ⟨fun h => ?_, fun _ => ?_⟩⟩
          · rw [jP_pos (by omega)] at h
            omega
          · rw [pk_sub (show 1 ≤ S1 32 (u + 1) - t by omega), pk_sub (show u + 1 ≤ left - t * (u + 1) by omega)]
            have h10 := ih2 (t + 1) _ (by omega) ((RF.w (r := 40) (k := 448 * l + 7 * g + (u + 1)) (v := S1 40 (448 * l + 7 * g + (u + 1)) + t + 1) (by decide) (RF.w (r := 32) (k := u + 1) (v := S1 32 (u + 1) - t - 1) (by decide) hM1)).eq (spF1_s _ _ _ _))
            rw [show left - (t + 1) * (u + 1) = left - t * (u + 1) - (u + 1) by omega] at h10
            exact h10
      obtain ⟨p2, p3, p4, p5, p6, p7, p8, p10, p11, p15, p16, p17, p18, p19, p20, p21, p22, p23, p25, p26, p27, p32⟩ := hM1.1.1
      obtain ⟨f10, f25, f26, f27, f28, f29, f30, f31, f32, f33, f34, f35, f36, f37, f38, f39, f40, f41, f42, f43, f44, f45, f46⟩ := hM1.fs
      refine ev_at hC (fun pc => pc == 7 || pc == 12) 9 7 (ls := [some (vm), some (vI l), some (vI g), some (vI n), some (vI left), some (vI (u + 1))]) ?_
      simp only [↓cb_X10_fillGap_0, ↓cb_X10_fillGap_7, ↓cb_X10_fillGap_12, ↓cb_X10_fillGap_72, ↓cb_X10_fillGap_78, ↓te_ald, ↓te_aload, ↓te_ast, ↓te_bin, ↓te_const, ↓te_dup2, ↓te_getP, ↓te_goto, ↓te_icmp, ↓te_if, ↓te_iinc, ↓te_iload, ↓te_istore, ↓te_vret, ↓evb_c, ↓evb_n, ↓evk_ap, ↓evm_ap, ↓evm_0, ↓jret_v, ↓jret_n, jget, jset, cond_true, cond_false, Nat.reduceBEq, jc1, List.take_succ_cons, List.take_zero, List.drop_succ_cons, List.drop_zero, List.reverse_cons, List.reverse_nil, List.nil_append, List.cons_append, List.length_cons, List.length_nil, Nat.zero_add, Nat.reduceAdd, beq_self_eq_true, true_and, and_true, Nat.reduceLeDiff, Nat.le_refl, Nat.zero_le, Bool.or_true, Bool.true_or, Bool.or_false, Bool.false_or, Bool.or_self]
      simp (disch := omega) only [Nat.reduceEqDiff, Prod.mk.injEq, Option.some.injEq, true_and, and_true, exists_eq_left', exists_eq_right, exists_and_left, exists_const, true_or, or_true, ne_eq, not_true_eq_false, not_false_eq_true, reduceCtorEq, false_and, and_false, if_true, if_false, forall_const, true_implies, false_implies, implies_true, qI_wI, qI_wP, qP_wI, qP_wP, qN_wI, qN_wP, and_self, nI_add, pk_mul, nI_clamp, vp_in_nI, ng_1, ng_10, nI_eq32, cs_0, cs_1, cs_2, cs_3, cs_4, cs_5, cs_6, cs_7, cs_8, cs_9, cs_10, cs_11, cs_12, cs_13, cs_14, cs_15, cs_16, cs_17, cs_18, cs_19, cs_20, cs_21, cs_22, cs_23, cs_24, cs_25, cs_26, cs_27, cs_28, cs_29, cs_30, cs_31, cs_32, cs_33, cs_34, cs_35, cs_36, cs_37, cs_38, cs_39, cs_40, cs_41, cs_42, cs_43, cs_44, cs_45, cs_46, cs_47, cs_48, cs_49, cs_50, cs_51, cs_52, cs_53, cs_54, cs_55, cs_56, cs_57, cs_58, cs_59, cs_60, cs_61, cs_62, cs_63, cs_64, cs_97, cs_100, cs_122, cs_200, cs_300, cs_448, cs_1000, al_11, al_12, al_13, al_14, al_15, al_16, al_17, al_18, al_19, al_20, al_21, al_22, al_23, al_24, al_25, al_26, al_27, al_28, al_29, al_30, al_31, al_32, al_33, al_34, al_35, al_36, al_37, al_38, al_39, al_40, al_41, al_42, al_43, al_44, al_45, al_46, al_47, p2, p3, p4, p5, p6, p7, p8, p10, p11, p15, p16, p17, p18, p19, p20, p21, p22, p23, p25, p26, p27, p32, f10, f25, f26, f27, f28, f29, f30, f31, f32, f33, f34, f35, f36, f37, f38, f39, f40, f41, f42, f43, f44, f45, f46, nI_leI]
      refine ⟨fun h => absurd h (by omega), fun _ => ?_⟩
      have h10 := inner _ 0 M1 (Nat.zero_add _) (hM1.eq (spF1_0 _ _ _))
      rw [Nat.zero_mul, Nat.sub_zero] at h10
      exact h10
  refine ev_at hC (fun pc => pc == 7) 3 0 (ls := [some vm, some (vI l), some (vI g), some (vI n), none, none]) ?_
  try simp only [↓cb_X10_fillGap_0, ↓cb_X10_fillGap_7, ↓cb_X10_fillGap_12, ↓cb_X10_fillGap_72, ↓cb_X10_fillGap_78, ↓te_ald, ↓te_aload, ↓te_ast, ↓te_bin, ↓te_const, ↓te_dup2, ↓te_getP, ↓te_goto, ↓te_icmp, ↓te_if, ↓te_iinc, ↓te_iload, ↓te_istore, ↓te_vret, ↓evb_c, ↓evb_n, ↓evk_ap, ↓evm_ap, ↓evm_0, ↓jret_v, ↓jret_n, jget, jset, cond_true, cond_false, Nat.reduceBEq, jc1, List.take_succ_cons, List.take_zero, List.drop_succ_cons, List.drop_zero, List.reverse_cons, List.reverse_nil, List.nil_append, List.cons_append, List.length_cons, List.length_nil, Nat.zero_add, Nat.reduceAdd, beq_self_eq_true, true_and, and_true, Nat.reduceLeDiff, Nat.le_refl, Nat.zero_le, Bool.or_true, Bool.true_or, Bool.or_false, Bool.false_or, Bool.or_self]
  exact key 6 n M S (Nat.le_refl _) hn hM hQ
