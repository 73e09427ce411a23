/-! THE CLASS: unlock -/
theorem CX.ref {M0 M : jx_M} {S : jS} {p : Nat → Nat} {v : Nat} (h : CX M0 M S p) : CX M0 M (sw S 10 0 v) p := h
/-- the lines of a form are a stretch -/
def Str (S : jS) (f a m : Nat) : Prop := a + m ≤ S 10 14 ∧ ∀ l, l < S 10 14 → (S 42 l = f ↔ a ≤ l ∧ l < a + m)
theorem Wf.str {S : jS} (h : Wf S) {f : Nat} (hf : ¬ f = jNo) : ∃ a m, Str S f a m := by
  have hC := h.2.2.2
  have key : ∀ n, n ≤ S 10 14 → ∃ a m, a + m ≤ n ∧ ∀ l, l < n → (S 42 l = f ↔ a ≤ l ∧ l < a + m) := by
    intro n
    induction n with
    | zero => intro _; exact ⟨0, 0, Nat.le_refl _, fun l hl => by omega⟩
    | succ n ih =>
      intro hn
      obtain ⟨a, m, h1, h2⟩ := ih (by omega)
      by_cases e : S 42 n = f
      · by_cases m0 : m = 0
        · refine ⟨n, 1, Nat.le_refl _, fun l hl => ?_⟩
          by_cases el : l = n
          · rw [el]; exact ⟨fun _ => by omega, fun _ => e⟩
          · have := h2 l (by omega)
            exact ⟨fun q => by have := this.mp q; omega, fun q => by omega⟩
        · have ea : S 42 a = f := (h2 a (by omega)).mpr (by omega)
          have em : a + m = n := by
            by_cases c : a + m = n
            · exact c
            · exfalso
              have q := hC a (a + m) n (by omega) (by omega) (by omega) (ea.trans e.symm) (by rw [ea]; exact hf)
              have := (h2 (a + m) (by omega)).mp (q.trans ea)
              omega
          refine ⟨a, m + 1, by omega, fun l hl => ?_⟩
          by_cases el : l = n
          · rw [el]; exact ⟨fun _ => by omega, fun _ => e⟩
          · have := h2 l (by omega)
            exact ⟨fun q => by have := this.mp q; omega, fun q => this.mpr (by omega)⟩
      · refine ⟨a, m, by omega, fun l hl => ?_⟩
        by_cases el : l = n
        · rw [el]; exact ⟨fun q => absurd q e, fun q => by omega⟩
        · exact h2 l (by omega)
  obtain ⟨a, m, h1, h2⟩ := key (S 10 14) (Nat.le_refl _)
  exact ⟨a, m, h1, h2⟩
theorem Str.cnt {S : jS} {f a m : Nat} (h : Str S f a m) : spOf S f (S 10 14) = m := by
  have key : ∀ n, n ≤ S 10 14 → spOf S f n = if n ≤ a then 0 else if n ≤ a + m then n - a else m := by
    intro n
    induction n with
    | zero => intro _; rw [if_pos (Nat.zero_le _)]; rfl
    | succ n ih =>
      intro hn
      have hs : spOf S f (n + 1) = spOf S f n + jb (S 42 n = f) := sumr_s n
      rw [hs, ih (by omega)]
      have hi := h.2 n (by omega)
      by_cases c : a ≤ n ∧ n < a + m
      · rw [jb_t (hi.mpr c), if_neg (show ¬ n + 1 ≤ a by omega), if_pos (show n + 1 ≤ a + m by omega)]
        by_cases c2 : n ≤ a
        · rw [if_pos c2]; omega
        · rw [if_neg c2, if_pos (by omega)]; omega
      · rw [jb_f (fun q => c (hi.mp q))]
        by_cases c2 : n < a
        · rw [if_pos (by omega), if_pos (by omega)]
        · rw [if_neg (show ¬ n + 1 ≤ a by omega), if_neg (show ¬ n + 1 ≤ a + m by omega)]
          by_cases c3 : n ≤ a
          · rw [if_pos c3]; omega
          · rw [if_neg c3]
            by_cases c4 : n ≤ a + m
            · rw [if_pos c4]; omega
            · rw [if_neg c4]; rfl
  rw [key _ (Nat.le_refl _)]
  have := h.1
  by_cases c : S 10 14 ≤ a
  · rw [if_pos c]; omega
  · rw [if_neg c]
    by_cases c2 : S 10 14 ≤ a + m
    · rw [if_pos c2]; omega
    · rw [if_neg c2]
set_option maxRecDepth 20000 in
set_option maxHeartbeats 20000000 in
theorem cc_firstLineOf (G : jx_G) {M : jx_M} {S : jS} {p : Nat → Nat} {f a m : Nat} {Q : jx_O → jx_M → Prop} (hM : CM M S p) (h12 : S 10 14 ≤ 12) (hf : f < 4) (hs : Str S f a m) (hQ : Q (rI (if m = 0 then jNo else a)) M) : Mt G m_X9_firstLineOf [v9, oR 1 f] M Q := by
  refine Mt.of (sc_X9_firstLineOf G) (by decide +kernel) (jArgs.of rfl) (Nat.le_of_ble_eq_true rfl) (fun Wn hC => ?_)
  have b8 := hM.1.2.2.1.2.2.1
  have key : ∀ (d k : Nat), k + d = S 10 14 → (∀ l, l < k → ¬ S 42 l = f) → Wn 2 [some v9, some (oR 1 f), some (vI k)] [] M 0 0 := by
    intro d
    induction d with
    | zero =>
      intro k g1 hno
      have m0 : m = 0 := by
        by_cases c : m = 0
        · exact c
        · exfalso
          exact hno a (by have := hs.1; omega) ((hs.2 a (by have := hs.1; omega)).mpr (by omega))
      rw [if_pos m0] at hQ
      have k27 : Wn 27 [some v9, some (oR 1 f), some (vI k)] [] M 0 0 := by
        refine ev_at hC (fun pc => false) 9 27 (ls := [some v9, some (oR 1 f), some (vI k)]) ?_
        try simp only [↓cb_X9_firstLineOf_0, ↓cb_X9_firstLineOf_2, ↓cb_X9_firstLineOf_21, ↓cb_X9_firstLineOf_27, ↓te_aload, ↓te_callV, ↓te_const, ↓te_getI, ↓te_goto, ↓te_icmp, ↓te_if, ↓te_iinc, ↓te_iload, ↓te_iret, ↓te_istore, ↓evb_c, ↓evb_n, ↓evk_ap, ↓evm_cut, ↓evm_go, ↓evm_0, ↓jret_v, ↓jret_n, ↓jretX_v, ↓jretX_n, jget, jset, cond_true, cond_false, Nat.reduceBEq, jc1, List.take_succ_cons, List.take_zero, List.drop_succ_cons, List.drop_zero, List.reverse_cons, List.reverse_nil, List.nil_append, List.cons_append, List.length_cons, List.length_nil, Nat.zero_add, Nat.reduceAdd, beq_self_eq_true, true_and, and_true, Nat.reduceLeDiff, Nat.le_refl, Nat.zero_le, Bool.or_true, Bool.true_or, Bool.or_false, Bool.false_or, Bool.or_self]
        try simp (disch := omega) only [Nat.reduceEqDiff, Prod.mk.injEq, Option.some.injEq, true_and, and_true, exists_eq_left', exists_eq_right, exists_and_left, exists_const, true_or, or_true, ne_eq, not_true_eq_false, not_false_eq_true, reduceCtorEq, false_and, and_false, if_true, if_false, forall_const, true_implies, false_implies, implies_true, qI_wI, qI_wP, qP_wI, qP_wP, qN_wI, qN_wP, and_self, nI_add, pk_mul, nI_clamp, vp_in_nI, ng_1, ng_10, nI_eq32, cs_0, cs_1, cs_2, cs_3, cs_4, cs_5, cs_6, cs_7, cs_8, cs_9, cs_10, cs_11, cs_12, cs_13, cs_14, cs_15, cs_16, cs_17, cs_18, cs_19, cs_20, cs_21, cs_22, cs_23, cs_24, cs_25, cs_26, cs_27, cs_28, cs_29, cs_30, cs_31, cs_32, cs_33, cs_34, cs_35, cs_36, cs_37, cs_38, cs_39, cs_40, cs_41, cs_42, cs_43, cs_44, cs_45, cs_46, cs_47, cs_48, cs_49, cs_50, cs_51, cs_52, cs_53, cs_54, cs_55, cs_56, cs_57, cs_58, cs_59, cs_60, cs_61, cs_62, cs_63, cs_64, cs_97, cs_100, cs_122, cs_200, cs_300, cs_448, cs_1000, al_11, al_12, al_13, al_14, al_15, al_16, al_17, al_18, al_19, al_20, al_21, al_22, al_23, al_24, al_25, al_26, al_27, al_28, al_29, al_30, al_31, al_32, al_33, al_34, al_35, al_36, al_37, al_38, al_39, al_40, al_41, al_42, al_43, al_44, al_45, al_46, al_47]
        exact hQ
      refine ev_at hC (fun pc => pc == 2 || pc == 21 || pc == 27) 9 2 (ls := [some v9, some (oR 1 f), some (vI k)]) ?_
      try simp only [↓cb_X9_firstLineOf_0, ↓cb_X9_firstLineOf_2, ↓cb_X9_firstLineOf_21, ↓cb_X9_firstLineOf_27, ↓te_aload, ↓te_callV, ↓te_const, ↓te_getI, ↓te_goto, ↓te_icmp, ↓te_if, ↓te_iinc, ↓te_iload, ↓te_iret, ↓te_istore, ↓evb_c, ↓evb_n, ↓evk_ap, ↓evm_cut, ↓evm_go, ↓evm_0, ↓jret_v, ↓jret_n, ↓jretX_v, ↓jretX_n, jget, jset, cond_true, cond_false, Nat.reduceBEq, jc1, List.take_succ_cons, List.take_zero, List.drop_succ_cons, List.drop_zero, List.reverse_cons, List.reverse_nil, List.nil_append, List.cons_append, List.length_cons, List.length_nil, Nat.zero_add, Nat.reduceAdd, beq_self_eq_true, true_and, and_true, Nat.reduceLeDiff, Nat.le_refl, Nat.zero_le, Bool.or_true, Bool.true_or, Bool.or_false, Bool.false_or, Bool.or_self]
      try simp (disch := omega) only [Nat.reduceEqDiff, Prod.mk.injEq, Option.some.injEq, true_and, and_true, exists_eq_left', exists_eq_right, exists_and_left, exists_const, true_or, or_true, ne_eq, not_true_eq_false, not_false_eq_true, reduceCtorEq, false_and, and_false, if_true, if_false, forall_const, true_implies, false_implies, implies_true, qI_wI, qI_wP, qP_wI, qP_wP, qN_wI, qN_wP, and_self, nI_add, pk_mul, nI_clamp, vp_in_nI, ng_1, ng_10, nI_eq32, cs_0, cs_1, cs_2, cs_3, cs_4, cs_5, cs_6, cs_7, cs_8, cs_9, cs_10, cs_11, cs_12, cs_13, cs_14, cs_15, cs_16, cs_17, cs_18, cs_19, cs_20, cs_21, cs_22, cs_23, cs_24, cs_25, cs_26, cs_27, cs_28, cs_29, cs_30, cs_31, cs_32, cs_33, cs_34, cs_35, cs_36, cs_37, cs_38, cs_39, cs_40, cs_41, cs_42, cs_43, cs_44, cs_45, cs_46, cs_47, cs_48, cs_49, cs_50, cs_51, cs_52, cs_53, cs_54, cs_55, cs_56, cs_57, cs_58, cs_59, cs_60, cs_61, cs_62, cs_63, cs_64, cs_97, cs_100, cs_122, cs_200, cs_300, cs_448, cs_1000, al_11, al_12, al_13, al_14, al_15, al_16, al_17, al_18, al_19, al_20, al_21, al_22, al_23, al_24, al_25, al_26, al_27, al_28, al_29, al_30, al_31, al_32, al_33, al_34, al_35, al_36, al_37, al_38, al_39, al_40, al_41, al_42, al_43, al_44, al_45, al_46, al_47, b8, nI_leI]
      exact ⟨fun _ => k27, fun z => absurd (by omega) z⟩
    | succ d ih =>
      intro k g1 hno
      have k21 : ¬ S 42 k = f → Wn 21 [some v9, some (oR 1 f), some (vI k)] [] M 0 0 := by
        intro c
        refine ev_at hC (fun pc => pc == 2) 9 21 (ls := [some v9, some (oR 1 f), some (vI k)]) ?_
        try simp only [↓cb_X9_firstLineOf_0, ↓cb_X9_firstLineOf_2, ↓cb_X9_firstLineOf_21, ↓cb_X9_firstLineOf_27, ↓te_aload, ↓te_callV, ↓te_const, ↓te_getI, ↓te_goto, ↓te_icmp, ↓te_if, ↓te_iinc, ↓te_iload, ↓te_iret, ↓te_istore, ↓evb_c, ↓evb_n, ↓evk_ap, ↓evm_cut, ↓evm_go, ↓evm_0, ↓jret_v, ↓jret_n, ↓jretX_v, ↓jretX_n, jget, jset, cond_true, cond_false, Nat.reduceBEq, jc1, List.take_succ_cons, List.take_zero, List.drop_succ_cons, List.drop_zero, List.reverse_cons, List.reverse_nil, List.nil_append, List.cons_append, List.length_cons, List.length_nil, Nat.zero_add, Nat.reduceAdd, beq_self_eq_true, true_and, and_true, Nat.reduceLeDiff, Nat.le_refl, Nat.zero_le, Bool.or_true, Bool.true_or, Bool.or_false, Bool.false_or, Bool.or_self]
        try simp (disch := omega) only [Nat.reduceEqDiff, Prod.mk.injEq, Option.some.injEq, true_and, and_true, exists_eq_left', exists_eq_right, exists_and_left, exists_const, true_or, or_true, ne_eq, not_true_eq_false, not_false_eq_true, reduceCtorEq, false_and, and_false, if_true, if_false, forall_const, true_implies, false_implies, implies_true, qI_wI, qI_wP, qP_wI, qP_wP, qN_wI, qN_wP, and_self, nI_add, pk_mul, nI_clamp, vp_in_nI, ng_1, ng_10, nI_eq32, cs_0, cs_1, cs_2, cs_3, cs_4, cs_5, cs_6, cs_7, cs_8, cs_9, cs_10, cs_11, cs_12, cs_13, cs_14, cs_15, cs_16, cs_17, cs_18, cs_19, cs_20, cs_21, cs_22, cs_23, cs_24, cs_25, cs_26, cs_27, cs_28, cs_29, cs_30, cs_31, cs_32, cs_33, cs_34, cs_35, cs_36, cs_37, cs_38, cs_39, cs_40, cs_41, cs_42, cs_43, cs_44, cs_45, cs_46, cs_47, cs_48, cs_49, cs_50, cs_51, cs_52, cs_53, cs_54, cs_55, cs_56, cs_57, cs_58, cs_59, cs_60, cs_61, cs_62, cs_63, cs_64, cs_97, cs_100, cs_122, cs_200, cs_300, cs_448, cs_1000, al_11, al_12, al_13, al_14, al_15, al_16, al_17, al_18, al_19, al_20, al_21, al_22, al_23, al_24, al_25, al_26, al_27, al_28, al_29, al_30, al_31, al_32, al_33, al_34, al_35, al_36, al_37, al_38, al_39, al_40, al_41, al_42, al_43, al_44, al_45, al_46, al_47]
        refine ih (k + 1) (by omega) (fun l hl => ?_)
        by_cases e : l = k
        · rw [e]; exact c
        · exact hno l (by omega)
      have ky : S 42 k = f → Q (rI k) M := by
        intro e
        have q := (hs.2 k (by omega)).mp e
        have ea : a = k := by
          by_cases z : a = k
          · exact z
          · exact absurd ((hs.2 a (by omega)).mpr (by omega)) (hno a (by omega))
        rw [if_neg (by omega), ea] at hQ
        exact hQ
      refine ev_at hC (fun pc => pc == 2 || pc == 21 || pc == 27) 9 2 (ls := [some v9, some (oR 1 f), some (vI k)]) ?_
      try simp only [↓cb_X9_firstLineOf_0, ↓cb_X9_firstLineOf_2, ↓cb_X9_firstLineOf_21, ↓cb_X9_firstLineOf_27, ↓te_aload, ↓te_callV, ↓te_const, ↓te_getI, ↓te_goto, ↓te_icmp, ↓te_if, ↓te_iinc, ↓te_iload, ↓te_iret, ↓te_istore, ↓evb_c, ↓evb_n, ↓evk_ap, ↓evm_cut, ↓evm_go, ↓evm_0, ↓jret_v, ↓jret_n, ↓jretX_v, ↓jretX_n, jget, jset, cond_true, cond_false, Nat.reduceBEq, jc1, List.take_succ_cons, List.take_zero, List.drop_succ_cons, List.drop_zero, List.reverse_cons, List.reverse_nil, List.nil_append, List.cons_append, List.length_cons, List.length_nil, Nat.zero_add, Nat.reduceAdd, beq_self_eq_true, true_and, and_true, Nat.reduceLeDiff, Nat.le_refl, Nat.zero_le, Bool.or_true, Bool.true_or, Bool.or_false, Bool.false_or, Bool.or_self]
      try simp (disch := omega) only [Nat.reduceEqDiff, Prod.mk.injEq, Option.some.injEq, true_and, and_true, exists_eq_left', exists_eq_right, exists_and_left, exists_const, true_or, or_true, ne_eq, not_true_eq_false, not_false_eq_true, reduceCtorEq, false_and, and_false, if_true, if_false, forall_const, true_implies, false_implies, implies_true, qI_wI, qI_wP, qP_wI, qP_wP, qN_wI, qN_wP, and_self, nI_add, pk_mul, nI_clamp, vp_in_nI, ng_1, ng_10, nI_eq32, cs_0, cs_1, cs_2, cs_3, cs_4, cs_5, cs_6, cs_7, cs_8, cs_9, cs_10, cs_11, cs_12, cs_13, cs_14, cs_15, cs_16, cs_17, cs_18, cs_19, cs_20, cs_21, cs_22, cs_23, cs_24, cs_25, cs_26, cs_27, cs_28, cs_29, cs_30, cs_31, cs_32, cs_33, cs_34, cs_35, cs_36, cs_37, cs_38, cs_39, cs_40, cs_41, cs_42, cs_43, cs_44, cs_45, cs_46, cs_47, cs_48, cs_49, cs_50, cs_51, cs_52, cs_53, cs_54, cs_55, cs_56, cs_57, cs_58, cs_59, cs_60, cs_61, cs_62, cs_63, cs_64, cs_97, cs_100, cs_122, cs_200, cs_300, cs_448, cs_1000, al_11, al_12, al_13, al_14, al_15, al_16, al_17, al_18, al_19, al_20, al_21, al_22, al_23, al_24, al_25, al_26, al_27, al_28, al_29, al_30, al_31, al_32, al_33, al_34, al_35, al_36, al_37, al_38, al_39, al_40, al_41, al_42, al_43, al_44, al_45, al_46, al_47, b8, nI_leI]
      refine ⟨fun z => absurd z (by omega), fun _ => ?_⟩
      refine cc_isOf G hM h12 hf (by omega) ?_
      by_cases e : S 42 k = f
      · rw [jb_t e]
        have g := ky e
        try simp only [↓cb_X9_firstLineOf_0, ↓cb_X9_firstLineOf_2, ↓cb_X9_firstLineOf_21, ↓cb_X9_firstLineOf_27, ↓te_aload, ↓te_callV, ↓te_const, ↓te_getI, ↓te_goto, ↓te_icmp, ↓te_if, ↓te_iinc, ↓te_iload, ↓te_iret, ↓te_istore, ↓evb_c, ↓evb_n, ↓evk_ap, ↓evm_cut, ↓evm_go, ↓evm_0, ↓jret_v, ↓jret_n, ↓jretX_v, ↓jretX_n, jget, jset, cond_true, cond_false, Nat.reduceBEq, jc1, List.take_succ_cons, List.take_zero, List.drop_succ_cons, List.drop_zero, List.reverse_cons, List.reverse_nil, List.nil_append, List.cons_append, List.length_cons, List.length_nil, Nat.zero_add, Nat.reduceAdd, beq_self_eq_true, true_and, and_true, Nat.reduceLeDiff, Nat.le_refl, Nat.zero_le, Bool.or_true, Bool.true_or, Bool.or_false, Bool.false_or, Bool.or_self]
        try simp (disch := omega) only [Nat.reduceEqDiff, Prod.mk.injEq, Option.some.injEq, true_and, and_true, exists_eq_left', exists_eq_right, exists_and_left, exists_const, true_or, or_true, ne_eq, not_true_eq_false, not_false_eq_true, reduceCtorEq, false_and, and_false, if_true, if_false, forall_const, true_implies, false_implies, implies_true, qI_wI, qI_wP, qP_wI, qP_wP, qN_wI, qN_wP, and_self, nI_add, pk_mul, nI_clamp, vp_in_nI, ng_1, ng_10, nI_eq32, cs_0, cs_1, cs_2, cs_3, cs_4, cs_5, cs_6, cs_7, cs_8, cs_9, cs_10, cs_11, cs_12, cs_13, cs_14, cs_15, cs_16, cs_17, cs_18, cs_19, cs_20, cs_21, cs_22, cs_23, cs_24, cs_25, cs_26, cs_27, cs_28, cs_29, cs_30, cs_31, cs_32, cs_33, cs_34, cs_35, cs_36, cs_37, cs_38, cs_39, cs_40, cs_41, cs_42, cs_43, cs_44, cs_45, cs_46, cs_47, cs_48, cs_49, cs_50, cs_51, cs_52, cs_53, cs_54, cs_55, cs_56, cs_57, cs_58, cs_59, cs_60, cs_61, cs_62, cs_63, cs_64, cs_97, cs_100, cs_122, cs_200, cs_300, cs_448, cs_1000, al_11, al_12, al_13, al_14, al_15, al_16, al_17, al_18, al_19, al_20, al_21, al_22, al_23, al_24, al_25, al_26, al_27, al_28, al_29, al_30, al_31, al_32, al_33, al_34, al_35, al_36, al_37, al_38, al_39, al_40, al_41, al_42, al_43, al_44, al_45, al_46, al_47]
        first
          | exact g
          | exact ⟨fun z => absurd z (by decide), fun _ => g⟩
          | exact ⟨fun z => absurd z (by omega), fun _ => g⟩
      · rw [jb_f e]
        have g := k21 e
        try simp only [↓cb_X9_firstLineOf_0, ↓cb_X9_firstLineOf_2, ↓cb_X9_firstLineOf_21, ↓cb_X9_firstLineOf_27, ↓te_aload, ↓te_callV, ↓te_const, ↓te_getI, ↓te_goto, ↓te_icmp, ↓te_if, ↓te_iinc, ↓te_iload, ↓te_iret, ↓te_istore, ↓evb_c, ↓evb_n, ↓evk_ap, ↓evm_cut, ↓evm_go, ↓evm_0, ↓jret_v, ↓jret_n, ↓jretX_v, ↓jretX_n, jget, jset, cond_true, cond_false, Nat.reduceBEq, jc1, List.take_succ_cons, List.take_zero, List.drop_succ_cons, List.drop_zero, List.reverse_cons, List.reverse_nil, List.nil_append, List.cons_append, List.length_cons, List.length_nil, Nat.zero_add, Nat.reduceAdd, beq_self_eq_true, true_and, and_true, Nat.reduceLeDiff, Nat.le_refl, Nat.zero_le, Bool.or_true, Bool.true_or, Bool.or_false, Bool.false_or, Bool.or_self]
        try simp (disch := omega) only [Nat.reduceEqDiff, Prod.mk.injEq, Option.some.injEq, true_and, and_true, exists_eq_left', exists_eq_right, exists_and_left, exists_const, true_or, or_true, ne_eq, not_true_eq_false, not_false_eq_true, reduceCtorEq, false_and, and_false, if_true, if_false, forall_const, true_implies, false_implies, implies_true, qI_wI, qI_wP, qP_wI, qP_wP, qN_wI, qN_wP, and_self, nI_add, pk_mul, nI_clamp, vp_in_nI, ng_1, ng_10, nI_eq32, cs_0, cs_1, cs_2, cs_3, cs_4, cs_5, cs_6, cs_7, cs_8, cs_9, cs_10, cs_11, cs_12, cs_13, cs_14, cs_15, cs_16, cs_17, cs_18, cs_19, cs_20, cs_21, cs_22, cs_23, cs_24, cs_25, cs_26, cs_27, cs_28, cs_29, cs_30, cs_31, cs_32, cs_33, cs_34, cs_35, cs_36, cs_37, cs_38, cs_39, cs_40, cs_41, cs_42, cs_43, cs_44, cs_45, cs_46, cs_47, cs_48, cs_49, cs_50, cs_51, cs_52, cs_53, cs_54, cs_55, cs_56, cs_57, cs_58, cs_59, cs_60, cs_61, cs_62, cs_63, cs_64, cs_97, cs_100, cs_122, cs_200, cs_300, cs_448, cs_1000, al_11, al_12, al_13, al_14, al_15, al_16, al_17, al_18, al_19, al_20, al_21, al_22, al_23, al_24, al_25, al_26, al_27, al_28, al_29, al_30, al_31, al_32, al_33, al_34, al_35, al_36, al_37, al_38, al_39, al_40, al_41, al_42, al_43, al_44, al_45, al_46, al_47]
        first
          | exact g
          | exact ⟨fun _ => g, fun z => absurd rfl z⟩
  refine ev_at hC (fun pc => pc == 2) 9 0 (ls := [some v9, some (oR 1 f), none]) ?_
  try simp only [↓cb_X9_firstLineOf_0, ↓cb_X9_firstLineOf_2, ↓cb_X9_firstLineOf_21, ↓cb_X9_firstLineOf_27, ↓te_aload, ↓te_callV, ↓te_const, ↓te_getI, ↓te_goto, ↓te_icmp, ↓te_if, ↓te_iinc, ↓te_iload, ↓te_iret, ↓te_istore, ↓evb_c, ↓evb_n, ↓evk_ap, ↓evm_cut, ↓evm_go, ↓evm_0, ↓jret_v, ↓jret_n, ↓jretX_v, ↓jretX_n, jget, jset, cond_true, cond_false, Nat.reduceBEq, jc1, List.take_succ_cons, List.take_zero, List.drop_succ_cons, List.drop_zero, List.reverse_cons, List.reverse_nil, List.nil_append, List.cons_append, List.length_cons, List.length_nil, Nat.zero_add, Nat.reduceAdd, beq_self_eq_true, true_and, and_true, Nat.reduceLeDiff, Nat.le_refl, Nat.zero_le, Bool.or_true, Bool.true_or, Bool.or_false, Bool.false_or, Bool.or_self]
  try simp (disch := omega) only [Nat.reduceEqDiff, Prod.mk.injEq, Option.some.injEq, true_and, and_true, exists_eq_left', exists_eq_right, exists_and_left, exists_const, true_or, or_true, ne_eq, not_true_eq_false, not_false_eq_true, reduceCtorEq, false_and, and_false, if_true, if_false, forall_const, true_implies, false_implies, implies_true, qI_wI, qI_wP, qP_wI, qP_wP, qN_wI, qN_wP, and_self, nI_add, pk_mul, nI_clamp, vp_in_nI, ng_1, ng_10, nI_eq32, cs_0, cs_1, cs_2, cs_3, cs_4, cs_5, cs_6, cs_7, cs_8, cs_9, cs_10, cs_11, cs_12, cs_13, cs_14, cs_15, cs_16, cs_17, cs_18, cs_19, cs_20, cs_21, cs_22, cs_23, cs_24, cs_25, cs_26, cs_27, cs_28, cs_29, cs_30, cs_31, cs_32, cs_33, cs_34, cs_35, cs_36, cs_37, cs_38, cs_39, cs_40, cs_41, cs_42, cs_43, cs_44, cs_45, cs_46, cs_47, cs_48, cs_49, cs_50, cs_51, cs_52, cs_53, cs_54, cs_55, cs_56, cs_57, cs_58, cs_59, cs_60, cs_61, cs_62, cs_63, cs_64, cs_97, cs_100, cs_122, cs_200, cs_300, cs_448, cs_1000, al_11, al_12, al_13, al_14, al_15, al_16, al_17, al_18, al_19, al_20, al_21, al_22, al_23, al_24, al_25, al_26, al_27, al_28, al_29, al_30, al_31, al_32, al_33, al_34, al_35, al_36, al_37, al_38, al_39, al_40, al_41, al_42, al_43, al_44, al_45, al_46, al_47]
  exact key (S 10 14) 0 (Nat.zero_add _) (fun l hl => by omega)
theorem spUL_no {f : Nat} : ∀ (d l h : Nat) (S : jS), (∀ l', l ≤ l' → l' < S 10 14 → ¬ S 42 l' = f) → spUL f d l h S = (h, S)
  | 0, _, _, _, _ => rfl
  | d + 1, l, h, S, hno => by
    unfold spUL
    by_cases c : l < S 10 14
    · rw [if_pos c, if_neg (hno l (Nat.le_refl _) c)]
      exact spUL_no d (l + 1) h S (fun l' h1 h2 => hno l' (by omega) h2)
    · rw [if_neg c]
theorem spUL_to {f d h a : Nat} {S : jS} (ha : a ≤ S 10 14) (hno : ∀ l, l < a → ¬ S 42 l = f) : ∀ k, k ≤ a → spUL f (k + d) (a - k) h S = spUL f d a h S
  | 0, _ => by rw [Nat.zero_add, Nat.sub_zero]
  | k + 1, hk => by
    rw [show k + 1 + d = (k + d) + 1 by omega]
    show (if a - (k + 1) < S 10 14 then if S 42 (a - (k + 1)) = f then spUL f (k + d) (a - (k + 1)) (h + spKept S (a - (k + 1)) (S 35 (a - (k + 1)))) (spBack S (a - (k + 1))) else spUL f (k + d) (a - (k + 1) + 1) h S else (h, S)) = _
    rw [if_pos (by omega), if_neg (hno _ (by omega)), show a - (k + 1) + 1 = a - k by omega]
    exact spUL_to ha hno k (by omega)
theorem spBack_42 {S : jS} {l j : Nat} (hj : j < S 10 14 - 1) : spBack S l 42 j = S 42 (up l j) := by
  have e14 : spEmpty (spHomes l (S 35 l) S) l 10 14 = S 10 14 := by rw [spEmpty_row _ l (by omega), spHomes_row (by omega)]
  unfold spBack
  rw [spDrop_l _ l (by omega) (by rw [e14]; exact hj), spEmpty_row _ l (by omega), spHomes_row (by omega)]
theorem Str.back {S : jS} {f a m : Nat} (h : Str S f a (m + 1)) : Str (spBack S a) f a m := by
  have h1 := h.1
  refine ⟨by rw [spBack_14]; omega, fun l hl => ?_⟩
  rw [spBack_14] at hl
  rw [spBack_42 hl]
  have hu := h.2 (up a l) (up_lt hl)
  unfold up at hu ⊢
  by_cases c : l < a
  · rw [if_pos c] at hu ⊢
    rw [hu]
    omega
  · rw [if_neg c] at hu ⊢
    rw [hu]
    omega
theorem spBack_24 {S : jS} {l : Nat} : spBack S l 10 24 = S 10 24 := by
  unfold spBack
  rw [spDrop_row _ l (by omega), spEmpty_row _ l (by omega), spHomes_row (by omega)]
/-- a form's state set -/
theorem CX_state {M0 M : jx_M} {S : jS} {p : Nat → Nat} {f v : Nat} (hM : CX M0 M S p) : CX M0 (wI M 1 f 1 (nI v)) (sw S 43 f v) p := by
  obtain ⟨⟨hB, hT, hS, hF, hH, hPr, hO, hK, hL⟩, hk⟩ := hM
  have iI : ∀ r, ¬ r = 1 → sI M (wI M 1 f 1 (nI v)) r := fun r hr i c => by rw [qI_wI, if_neg (fun q => hr q.1)]
  have iP : ∀ r, sP M (wI M 1 f 1 (nI v)) r := fun r i c => rfl
  have er : ∀ a b, ¬ (a = 43 ∧ b = f) → sw S 43 f v a b = S a b := fun a b hab => by rw [sw_at, if_neg hab]
  refine ⟨⟨hB.fr (fun c => rfl) (fun c _ => iI 9 (by omega) 0 c) (iP 7) (iP 8) (iP 2) (iP 5) rfl (er 10 1 (by omega)) (er 10 13 (by omega)) (er 10 14 (by omega)) (er 10 24 (by omega)), hT.fr (iI 8 (by omega)) (iI 21 (by omega)) (er 10 12 (by omega)) (fun c _ => er 33 c (by omega)), hS.fr (iI 24 (by omega)) (fun c => er 32 c (by omega)), fun g hg => ?_, hH.fr (iI 2 (by omega)) (iP 22) (er 10 9 (by omega)) (fun c _ => er 31 c (by omega)), hPr.fr (iI 5 (by omega)) (iI 23 (by omega)) (er 10 28 (by omega)) (fun c _ => er 45 c (by omega)), hO.fr (iP 12) (iI 6 (by omega)) (er 10 1 (by omega)) (fun a t ha _ => er a t (by omega)), hK.fr (iP 11) (iI 4 (by omega)) (iP 4) (fun k i _ _ => ⟨rfl, rfl⟩) (er 10 1 (by omega)) (fun c _ => er 30 c (by omega)) (fun k i _ _ => er 29 _ (by omega)) (fun t _ => er 25 t (by omega)) (fun t _ => by rw [er 27 t (by omega)]), hL.fr (iI 3 (by omega)) (iP 3) (iP 13) (iP 16) (iI 17 (by omega)) (iI 18 (by omega)) (iI 19 (by omega)) (iI 20 (by omega)) (fun t => rfl) (er 10 14 (by omega)) (fun a b hab => er a b (by omega))⟩, hk.wI (by omega)⟩
  obtain ⟨a1, a2, a3, a4⟩ := hF g hg
  refine ⟨a1, ?_, ?_, ?_⟩
  · rw [qI_wI, if_neg (by omega)]; exact a2
  · rw [qI_wI, sw_at]
    by_cases e : g = f
    · rw [if_pos ⟨rfl, e, rfl⟩, if_pos ⟨rfl, e⟩]
    · rw [if_neg (fun q => e q.2.1), if_neg (fun q => e q.2)]; exact a3
  · rw [qI_wI, if_neg (by omega), er 44 g (by omega)]; exact a4
theorem kp_unlock (G : jx_G) (hst : (gl G).stackTraces = false) {M0 M : jx_M} {S : jS} {p : Nat → Nat} {Q : jx_O → jx_M → Prop} {x : Int32} (hW : Wf S) (hM : CX M0 M S p) (hQ : KQ M0 Q (fun k => 2 * k - 1) S (sf_unlock S x)) : Mx G m_X9_unlock [v9, .inl x] M Q := by
  refine Mx.of hst (sc_X9_unlock G) (by decide +kernel) (jArgs.of rfl) (Nat.le_of_ble_eq_true rfl) (fun Wn hC => ?_)
  unfold sf_unlock at hQ
  have hn := hW.1.1.1
  refine ev_at hC (fun pc => pc == 21) 9 0 (ls := [some v9, some (.inl x), none, none, none, none, none]) ?_
  try simp only [↓cb_X9_unlock_0, ↓cb_X9_unlock_21, ↓cb_X9_unlock_40, ↓cb_X9_unlock_59, ↓cb_X9_unlock_82, ↓te_aload, ↓te_astore, ↓te_bin, ↓te_callV, ↓te_const, ↓te_getI, ↓te_goto, ↓te_icmp, ↓te_ifnonnull, ↓te_iinc, ↓te_iload, ↓te_iret, ↓te_istore, ↓te_putI, ↓te_throw, ↓evb_c, ↓evb_n, ↓evk_ap, ↓evm_cut, ↓evm_go, ↓evm_0, ↓jret_v, ↓jret_n, ↓jretX_v, ↓jretX_n, jget, jset, cond_true, cond_false, Nat.reduceBEq, jc1, List.take_succ_cons, List.take_zero, List.drop_succ_cons, List.drop_zero, List.reverse_cons, List.reverse_nil, List.nil_append, List.cons_append, List.length_cons, List.length_nil, Nat.zero_add, Nat.reduceAdd, beq_self_eq_true, true_and, and_true, Nat.reduceLeDiff, Nat.le_refl, Nat.zero_le, Bool.or_true, Bool.true_or, Bool.or_false, Bool.false_or, Bool.or_self]
  try simp (disch := omega) only [Nat.reduceEqDiff, Prod.mk.injEq, Option.some.injEq, true_and, and_true, exists_eq_left', exists_eq_right, exists_and_left, exists_const, true_or, or_true, ne_eq, not_true_eq_false, not_false_eq_true, reduceCtorEq, false_and, and_false, if_true, if_false, forall_const, true_implies, false_implies, implies_true, qI_wI, qI_wP, qP_wI, qP_wP, qN_wI, qN_wP, and_self, nI_add, pk_mul, nI_clamp, vp_in_nI, ng_1, ng_10, nI_eq32, cs_0, cs_1, cs_2, cs_3, cs_4, cs_5, cs_6, cs_7, cs_8, cs_9, cs_10, cs_11, cs_12, cs_13, cs_14, cs_15, cs_16, cs_17, cs_18, cs_19, cs_20, cs_21, cs_22, cs_23, cs_24, cs_25, cs_26, cs_27, cs_28, cs_29, cs_30, cs_31, cs_32, cs_33, cs_34, cs_35, cs_36, cs_37, cs_38, cs_39, cs_40, cs_41, cs_42, cs_43, cs_44, cs_45, cs_46, cs_47, cs_48, cs_49, cs_50, cs_51, cs_52, cs_53, cs_54, cs_55, cs_56, cs_57, cs_58, cs_59, cs_60, cs_61, cs_62, cs_63, cs_64, cs_97, cs_100, cs_122, cs_200, cs_300, cs_448, cs_1000, al_11, al_12, al_13, al_14, al_15, al_16, al_17, al_18, al_19, al_20, al_21, al_22, al_23, al_24, al_25, al_26, al_27, al_28, al_29, al_30, al_31, al_32, al_33, al_34, al_35, al_36, al_37, al_38, al_39, al_40, al_41, al_42, al_43, al_44, al_45, al_46, al_47]
  refine cc_formOf G hn.2.2.1 hM.1 ?_
  unfold fmP
  by_cases h1 : isFm S x
  · rw [if_pos h1] at hQ ⊢
    obtain ⟨h3, -⟩ := in_lt (by omega) h1
    generalize jn x = f at *
    have a1 := (hM.1.2.2.2.1 f (by omega)).2.2.1
    have h43 := hW.1.1.2.2.2.2.2.2.2.1 f
    have hj := jNo_v
    try simp only [↓cb_X9_unlock_0, ↓cb_X9_unlock_21, ↓cb_X9_unlock_40, ↓cb_X9_unlock_59, ↓cb_X9_unlock_82, ↓te_aload, ↓te_astore, ↓te_bin, ↓te_callV, ↓te_const, ↓te_getI, ↓te_goto, ↓te_icmp, ↓te_ifnonnull, ↓te_iinc, ↓te_iload, ↓te_iret, ↓te_istore, ↓te_putI, ↓te_throw, ↓evb_c, ↓evb_n, ↓evk_ap, ↓evm_cut, ↓evm_go, ↓evm_0, ↓jret_v, ↓jret_n, ↓jretX_v, ↓jretX_n, jget, jset, cond_true, cond_false, Nat.reduceBEq, jc1, List.take_succ_cons, List.take_zero, List.drop_succ_cons, List.drop_zero, List.reverse_cons, List.reverse_nil, List.nil_append, List.cons_append, List.length_cons, List.length_nil, Nat.zero_add, Nat.reduceAdd, beq_self_eq_true, true_and, and_true, Nat.reduceLeDiff, Nat.le_refl, Nat.zero_le, Bool.or_true, Bool.true_or, Bool.or_false, Bool.false_or, Bool.or_self]
    try simp (disch := omega) only [Nat.reduceEqDiff, Prod.mk.injEq, Option.some.injEq, true_and, and_true, exists_eq_left', exists_eq_right, exists_and_left, exists_const, true_or, or_true, ne_eq, not_true_eq_false, not_false_eq_true, reduceCtorEq, false_and, and_false, if_true, if_false, forall_const, true_implies, false_implies, implies_true, qI_wI, qI_wP, qP_wI, qP_wP, qN_wI, qN_wP, and_self, nI_add, pk_mul, nI_clamp, vp_in_nI, ng_1, ng_10, nI_eq32, cs_0, cs_1, cs_2, cs_3, cs_4, cs_5, cs_6, cs_7, cs_8, cs_9, cs_10, cs_11, cs_12, cs_13, cs_14, cs_15, cs_16, cs_17, cs_18, cs_19, cs_20, cs_21, cs_22, cs_23, cs_24, cs_25, cs_26, cs_27, cs_28, cs_29, cs_30, cs_31, cs_32, cs_33, cs_34, cs_35, cs_36, cs_37, cs_38, cs_39, cs_40, cs_41, cs_42, cs_43, cs_44, cs_45, cs_46, cs_47, cs_48, cs_49, cs_50, cs_51, cs_52, cs_53, cs_54, cs_55, cs_56, cs_57, cs_58, cs_59, cs_60, cs_61, cs_62, cs_63, cs_64, cs_97, cs_100, cs_122, cs_200, cs_300, cs_448, cs_1000, al_11, al_12, al_13, al_14, al_15, al_16, al_17, al_18, al_19, al_20, al_21, al_22, al_23, al_24, al_25, al_26, al_27, al_28, al_29, al_30, al_31, al_32, al_33, al_34, al_35, al_36, al_37, al_38, al_39, al_40, al_41, al_42, al_43, al_44, al_45, al_46, al_47]
    have k40 : ¬ S 43 f = 2 → Wn 40 [some v9, some (.inl x), some (oR 1 f), none, none, none, none] [] M 0 0 := by
      intro h
      rw [if_neg h] at hQ
      have hWr : Wf (sw S 10 0 0) := hW.ref
      obtain ⟨a, m, hs⟩ := hWr.str (f := f) (by omega)
      have hMr : CX M0 M (sw S 10 0 0) p := hM.ref
      have hsn : a + m ≤ S 10 14 := hs.1
      have key : ∀ (m2 i h : Nat) (M1 : jx_M) (S1 : jS) (p1 : Nat → Nat), i + m2 = m → CX M0 M1 S1 p1 → Wf S1 → Str S1 f a m2 → S1 10 24 = S 10 24 → spUL f 13 0 0 (sw S 10 0 0) = spUL f (13 - a - i) a h S1 → (m = 0 ∨ True) → Wn 59 [some v9, some (.inl x), some (oR 1 f), some (vI (if m = 0 then jNo else a)), some (vI m), some (vI h), some (vI i)] [] M1 0 0 := by
        intro m2
        induction m2 with
        | zero =>
          intro i h M1 S1 p1 c1 hM1 hW1 hs1 e24 hu _
          have c2 : i = m := by omega
          subst c2
          rw [spUL_no (13 - a - i) a h S1 (fun l' q1 q2 q3 => by have := (hs1.2 l' q2).mp q3; omega)] at hu
          rw [hu] at hQ
          have k82 : Wn 82 [some v9, some (.inl x), some (oR 1 f), some (vI (if i = 0 then jNo else a)), some (vI i), some (vI h), some (vI i)] [] M1 0 0 := by
            refine ev_at hC (fun pc => false) 9 82 (ls := [some v9, some (.inl x), some (oR 1 f), some (vI (if i = 0 then jNo else a)), some (vI i), some (vI h), some (vI i)]) ?_
            try simp only [↓cb_X9_unlock_0, ↓cb_X9_unlock_21, ↓cb_X9_unlock_40, ↓cb_X9_unlock_59, ↓cb_X9_unlock_82, ↓te_aload, ↓te_astore, ↓te_bin, ↓te_callV, ↓te_const, ↓te_getI, ↓te_goto, ↓te_icmp, ↓te_ifnonnull, ↓te_iinc, ↓te_iload, ↓te_iret, ↓te_istore, ↓te_putI, ↓te_throw, ↓evb_c, ↓evb_n, ↓evk_ap, ↓evm_cut, ↓evm_go, ↓evm_0, ↓jret_v, ↓jret_n, ↓jretX_v, ↓jretX_n, jget, jset, cond_true, cond_false, Nat.reduceBEq, jc1, List.take_succ_cons, List.take_zero, List.drop_succ_cons, List.drop_zero, List.reverse_cons, List.reverse_nil, List.nil_append, List.cons_append, List.length_cons, List.length_nil, Nat.zero_add, Nat.reduceAdd, beq_self_eq_true, true_and, and_true, Nat.reduceLeDiff, Nat.le_refl, Nat.zero_le, Bool.or_true, Bool.true_or, Bool.or_false, Bool.false_or, Bool.or_self]
            try simp (disch := omega) only [Nat.reduceEqDiff, Prod.mk.injEq, Option.some.injEq, true_and, and_true, exists_eq_left', exists_eq_right, exists_and_left, exists_const, true_or, or_true, ne_eq, not_true_eq_false, not_false_eq_true, reduceCtorEq, false_and, and_false, if_true, if_false, forall_const, true_implies, false_implies, implies_true, qI_wI, qI_wP, qP_wI, qP_wP, qN_wI, qN_wP, and_self, nI_add, pk_mul, nI_clamp, vp_in_nI, ng_1, ng_10, nI_eq32, cs_0, cs_1, cs_2, cs_3, cs_4, cs_5, cs_6, cs_7, cs_8, cs_9, cs_10, cs_11, cs_12, cs_13, cs_14, cs_15, cs_16, cs_17, cs_18, cs_19, cs_20, cs_21, cs_22, cs_23, cs_24, cs_25, cs_26, cs_27, cs_28, cs_29, cs_30, cs_31, cs_32, cs_33, cs_34, cs_35, cs_36, cs_37, cs_38, cs_39, cs_40, cs_41, cs_42, cs_43, cs_44, cs_45, cs_46, cs_47, cs_48, cs_49, cs_50, cs_51, cs_52, cs_53, cs_54, cs_55, cs_56, cs_57, cs_58, cs_59, cs_60, cs_61, cs_62, cs_63, cs_64, cs_97, cs_100, cs_122, cs_200, cs_300, cs_448, cs_1000, al_11, al_12, al_13, al_14, al_15, al_16, al_17, al_18, al_19, al_20, al_21, al_22, al_23, al_24, al_25, al_26, al_27, al_28, al_29, al_30, al_31, al_32, al_33, al_34, al_35, al_36, al_37, al_38, al_39, al_40, al_41, al_42, al_43, al_44, al_45, al_46, al_47]
            exact hQ.ok (CX_state hM1)
          refine ev_at hC (fun pc => pc == 59 || pc == 82) 9 59 (ls := [some v9, some (.inl x), some (oR 1 f), some (vI (if i = 0 then jNo else a)), some (vI i), some (vI h), some (vI i)]) ?_
          try simp only [↓cb_X9_unlock_0, ↓cb_X9_unlock_21, ↓cb_X9_unlock_40, ↓cb_X9_unlock_59, ↓cb_X9_unlock_82, ↓te_aload, ↓te_astore, ↓te_bin, ↓te_callV, ↓te_const, ↓te_getI, ↓te_goto, ↓te_icmp, ↓te_ifnonnull, ↓te_iinc, ↓te_iload, ↓te_iret, ↓te_istore, ↓te_putI, ↓te_throw, ↓evb_c, ↓evb_n, ↓evk_ap, ↓evm_cut, ↓evm_go, ↓evm_0, ↓jret_v, ↓jret_n, ↓jretX_v, ↓jretX_n, jget, jset, cond_true, cond_false, Nat.reduceBEq, jc1, List.take_succ_cons, List.take_zero, List.drop_succ_cons, List.drop_zero, List.reverse_cons, List.reverse_nil, List.nil_append, List.cons_append, List.length_cons, List.length_nil, Nat.zero_add, Nat.reduceAdd, beq_self_eq_true, true_and, and_true, Nat.reduceLeDiff, Nat.le_refl, Nat.zero_le, Bool.or_true, Bool.true_or, Bool.or_false, Bool.false_or, Bool.or_self]
          try simp (disch := omega) only [Nat.reduceEqDiff, Prod.mk.injEq, Option.some.injEq, true_and, and_true, exists_eq_left', exists_eq_right, exists_and_left, exists_const, true_or, or_true, ne_eq, not_true_eq_false, not_false_eq_true, reduceCtorEq, false_and, and_false, if_true, if_false, forall_const, true_implies, false_implies, implies_true, qI_wI, qI_wP, qP_wI, qP_wP, qN_wI, qN_wP, and_self, nI_add, pk_mul, nI_clamp, vp_in_nI, ng_1, ng_10, nI_eq32, cs_0, cs_1, cs_2, cs_3, cs_4, cs_5, cs_6, cs_7, cs_8, cs_9, cs_10, cs_11, cs_12, cs_13, cs_14, cs_15, cs_16, cs_17, cs_18, cs_19, cs_20, cs_21, cs_22, cs_23, cs_24, cs_25, cs_26, cs_27, cs_28, cs_29, cs_30, cs_31, cs_32, cs_33, cs_34, cs_35, cs_36, cs_37, cs_38, cs_39, cs_40, cs_41, cs_42, cs_43, cs_44, cs_45, cs_46, cs_47, cs_48, cs_49, cs_50, cs_51, cs_52, cs_53, cs_54, cs_55, cs_56, cs_57, cs_58, cs_59, cs_60, cs_61, cs_62, cs_63, cs_64, cs_97, cs_100, cs_122, cs_200, cs_300, cs_448, cs_1000, al_11, al_12, al_13, al_14, al_15, al_16, al_17, al_18, al_19, al_20, al_21, al_22, al_23, al_24, al_25, al_26, al_27, al_28, al_29, al_30, al_31, al_32, al_33, al_34, al_35, al_36, al_37, al_38, al_39, al_40, al_41, al_42, al_43, al_44, al_45, al_46, al_47, nI_leI]
          exact ⟨fun _ => k82, fun z => absurd (Nat.le_refl _) z⟩
        | succ m2 ih =>
          intro i h M1 S1 p1 c1 hM1 hW1 hs2 e24 hu _
          have hm0 : ¬ m = 0 := by omega
          have ha : a < S1 10 14 := by have := hs2.1; omega
          have h42 : S1 42 a = f := (hs2.2 a ha).mpr (by omega)
          have hu2 : spUL f (13 - a - i) a h S1 = spUL f (13 - a - (i + 1)) a (h + spKept S1 a (S1 35 a)) (spBack S1 a) := by
            rw [show 13 - a - i = (13 - a - (i + 1)) + 1 by omega]
            show (if a < S1 10 14 then if S1 42 a = f then spUL f (13 - a - (i + 1)) a (h + spKept S1 a (S1 35 a)) (spBack S1 a) else _ else _) = _
            rw [if_pos ha, if_pos h42]
          refine ev_at hC (fun pc => pc == 59 || pc == 82) 9 59 (ls := [some v9, some (.inl x), some (oR 1 f), some (vI (if m = 0 then jNo else a)), some (vI m), some (vI h), some (vI i)]) ?_
          try simp only [↓cb_X9_unlock_0, ↓cb_X9_unlock_21, ↓cb_X9_unlock_40, ↓cb_X9_unlock_59, ↓cb_X9_unlock_82, ↓te_aload, ↓te_astore, ↓te_bin, ↓te_callV, ↓te_const, ↓te_getI, ↓te_goto, ↓te_icmp, ↓te_ifnonnull, ↓te_iinc, ↓te_iload, ↓te_iret, ↓te_istore, ↓te_putI, ↓te_throw, ↓evb_c, ↓evb_n, ↓evk_ap, ↓evm_cut, ↓evm_go, ↓evm_0, ↓jret_v, ↓jret_n, ↓jretX_v, ↓jretX_n, jget, jset, cond_true, cond_false, Nat.reduceBEq, jc1, List.take_succ_cons, List.take_zero, List.drop_succ_cons, List.drop_zero, List.reverse_cons, List.reverse_nil, List.nil_append, List.cons_append, List.length_cons, List.length_nil, Nat.zero_add, Nat.reduceAdd, beq_self_eq_true, true_and, and_true, Nat.reduceLeDiff, Nat.le_refl, Nat.zero_le, Bool.or_true, Bool.true_or, Bool.or_false, Bool.false_or, Bool.or_self]
          rw [if_neg hm0]
          try simp (disch := omega) only [Nat.reduceEqDiff, Prod.mk.injEq, Option.some.injEq, true_and, and_true, exists_eq_left', exists_eq_right, exists_and_left, exists_const, true_or, or_true, ne_eq, not_true_eq_false, not_false_eq_true, reduceCtorEq, false_and, and_false, if_true, if_false, forall_const, true_implies, false_implies, implies_true, qI_wI, qI_wP, qP_wI, qP_wP, qN_wI, qN_wP, and_self, nI_add, pk_mul, nI_clamp, vp_in_nI, ng_1, ng_10, nI_eq32, cs_0, cs_1, cs_2, cs_3, cs_4, cs_5, cs_6, cs_7, cs_8, cs_9, cs_10, cs_11, cs_12, cs_13, cs_14, cs_15, cs_16, cs_17, cs_18, cs_19, cs_20, cs_21, cs_22, cs_23, cs_24, cs_25, cs_26, cs_27, cs_28, cs_29, cs_30, cs_31, cs_32, cs_33, cs_34, cs_35, cs_36, cs_37, cs_38, cs_39, cs_40, cs_41, cs_42, cs_43, cs_44, cs_45, cs_46, cs_47, cs_48, cs_49, cs_50, cs_51, cs_52, cs_53, cs_54, cs_55, cs_56, cs_57, cs_58, cs_59, cs_60, cs_61, cs_62, cs_63, cs_64, cs_97, cs_100, cs_122, cs_200, cs_300, cs_448, cs_1000, al_11, al_12, al_13, al_14, al_15, al_16, al_17, al_18, al_19, al_20, al_21, al_22, al_23, al_24, al_25, al_26, al_27, al_28, al_29, al_30, al_31, al_32, al_33, al_34, al_35, al_36, al_37, al_38, al_39, al_40, al_41, al_42, al_43, al_44, al_45, al_46, al_47, nI_leI]
          refine ⟨fun z => absurd z (by omega), fun _ => ?_⟩
          refine cc_distribute G hM1 hW1 ha (fun M2 hM2 => ?_)
          try simp only [↓cb_X9_unlock_0, ↓cb_X9_unlock_21, ↓cb_X9_unlock_40, ↓cb_X9_unlock_59, ↓cb_X9_unlock_82, ↓te_aload, ↓te_astore, ↓te_bin, ↓te_callV, ↓te_const, ↓te_getI, ↓te_goto, ↓te_icmp, ↓te_ifnonnull, ↓te_iinc, ↓te_iload, ↓te_iret, ↓te_istore, ↓te_putI, ↓te_throw, ↓evb_c, ↓evb_n, ↓evk_ap, ↓evm_cut, ↓evm_go, ↓evm_0, ↓jret_v, ↓jret_n, ↓jretX_v, ↓jretX_n, jget, jset, cond_true, cond_false, Nat.reduceBEq, jc1, List.take_succ_cons, List.take_zero, List.drop_succ_cons, List.drop_zero, List.reverse_cons, List.reverse_nil, List.nil_append, List.cons_append, List.length_cons, List.length_nil, Nat.zero_add, Nat.reduceAdd, beq_self_eq_true, true_and, and_true, Nat.reduceLeDiff, Nat.le_refl, Nat.zero_le, Bool.or_true, Bool.true_or, Bool.or_false, Bool.false_or, Bool.or_self]
          try simp (disch := omega) only [Nat.reduceEqDiff, Prod.mk.injEq, Option.some.injEq, true_and, and_true, exists_eq_left', exists_eq_right, exists_and_left, exists_const, true_or, or_true, ne_eq, not_true_eq_false, not_false_eq_true, reduceCtorEq, false_and, and_false, if_true, if_false, forall_const, true_implies, false_implies, implies_true, qI_wI, qI_wP, qP_wI, qP_wP, qN_wI, qN_wP, and_self, nI_add, pk_mul, nI_clamp, vp_in_nI, ng_1, ng_10, nI_eq32, cs_0, cs_1, cs_2, cs_3, cs_4, cs_5, cs_6, cs_7, cs_8, cs_9, cs_10, cs_11, cs_12, cs_13, cs_14, cs_15, cs_16, cs_17, cs_18, cs_19, cs_20, cs_21, cs_22, cs_23, cs_24, cs_25, cs_26, cs_27, cs_28, cs_29, cs_30, cs_31, cs_32, cs_33, cs_34, cs_35, cs_36, cs_37, cs_38, cs_39, cs_40, cs_41, cs_42, cs_43, cs_44, cs_45, cs_46, cs_47, cs_48, cs_49, cs_50, cs_51, cs_52, cs_53, cs_54, cs_55, cs_56, cs_57, cs_58, cs_59, cs_60, cs_61, cs_62, cs_63, cs_64, cs_97, cs_100, cs_122, cs_200, cs_300, cs_448, cs_1000, al_11, al_12, al_13, al_14, al_15, al_16, al_17, al_18, al_19, al_20, al_21, al_22, al_23, al_24, al_25, al_26, al_27, al_28, al_29, al_30, al_31, al_32, al_33, al_34, al_35, al_36, al_37, al_38, al_39, al_40, al_41, al_42, al_43, al_44, al_45, al_46, al_47]
          have g := ih (i + 1) (h + spKept S1 a (S1 35 a)) M2 (spBack S1 a) _ (by omega) hM2 (Wf_back hW1 ha) hs2.back (by rw [spBack_24]; exact e24) (hu.trans hu2) (Or.inr trivial)
          rw [if_neg hm0] at g
          exact g
      have h0 : spUL f 13 0 0 (sw S 10 0 0) = spUL f (13 - a - 0) a 0 (sw S 10 0 0) := by
        have g := spUL_to (f := f) (d := 13 - a) (h := 0) (a := a) (S := sw S 10 0 0) (show a ≤ S 10 14 by omega) (fun l hl q => by have := (hs.2 l (show l < S 10 14 by omega)).mp q; omega) a (Nat.le_refl _)
        rw [show a + (13 - a) = 13 by omega, Nat.sub_self] at g
        rw [Nat.sub_zero]
        exact g
      refine ev_at hC (fun pc => pc == 59) 9 40 (ls := [some v9, some (.inl x), some (oR 1 f), none, none, none, none]) ?_
      try simp only [↓cb_X9_unlock_0, ↓cb_X9_unlock_21, ↓cb_X9_unlock_40, ↓cb_X9_unlock_59, ↓cb_X9_unlock_82, ↓te_aload, ↓te_astore, ↓te_bin, ↓te_callV, ↓te_const, ↓te_getI, ↓te_goto, ↓te_icmp, ↓te_ifnonnull, ↓te_iinc, ↓te_iload, ↓te_iret, ↓te_istore, ↓te_putI, ↓te_throw, ↓evb_c, ↓evb_n, ↓evk_ap, ↓evm_cut, ↓evm_go, ↓evm_0, ↓jret_v, ↓jret_n, ↓jretX_v, ↓jretX_n, jget, jset, cond_true, cond_false, Nat.reduceBEq, jc1, List.take_succ_cons, List.take_zero, List.drop_succ_cons, List.drop_zero, List.reverse_cons, List.reverse_nil, List.nil_append, List.cons_append, List.length_cons, List.length_nil, Nat.zero_add, Nat.reduceAdd, beq_self_eq_true, true_and, and_true, Nat.reduceLeDiff, Nat.le_refl, Nat.zero_le, Bool.or_true, Bool.true_or, Bool.or_false, Bool.false_or, Bool.or_self]
      try simp (disch := omega) only [Nat.reduceEqDiff, Prod.mk.injEq, Option.some.injEq, true_and, and_true, exists_eq_left', exists_eq_right, exists_and_left, exists_const, true_or, or_true, ne_eq, not_true_eq_false, not_false_eq_true, reduceCtorEq, false_and, and_false, if_true, if_false, forall_const, true_implies, false_implies, implies_true, qI_wI, qI_wP, qP_wI, qP_wP, qN_wI, qN_wP, and_self, nI_add, pk_mul, nI_clamp, vp_in_nI, ng_1, ng_10, nI_eq32, cs_0, cs_1, cs_2, cs_3, cs_4, cs_5, cs_6, cs_7, cs_8, cs_9, cs_10, cs_11, cs_12, cs_13, cs_14, cs_15, cs_16, cs_17, cs_18, cs_19, cs_20, cs_21, cs_22, cs_23, cs_24, cs_25, cs_26, cs_27, cs_28, cs_29, cs_30, cs_31, cs_32, cs_33, cs_34, cs_35, cs_36, cs_37, cs_38, cs_39, cs_40, cs_41, cs_42, cs_43, cs_44, cs_45, cs_46, cs_47, cs_48, cs_49, cs_50, cs_51, cs_52, cs_53, cs_54, cs_55, cs_56, cs_57, cs_58, cs_59, cs_60, cs_61, cs_62, cs_63, cs_64, cs_97, cs_100, cs_122, cs_200, cs_300, cs_448, cs_1000, al_11, al_12, al_13, al_14, al_15, al_16, al_17, al_18, al_19, al_20, al_21, al_22, al_23, al_24, al_25, al_26, al_27, al_28, al_29, al_30, al_31, al_32, al_33, al_34, al_35, al_36, al_37, al_38, al_39, al_40, al_41, al_42, al_43, al_44, al_45, al_46, al_47]
      refine cc_firstLineOf G hMr.1 hn.2.1 (by omega) hs ?_
      try simp only [↓cb_X9_unlock_0, ↓cb_X9_unlock_21, ↓cb_X9_unlock_40, ↓cb_X9_unlock_59, ↓cb_X9_unlock_82, ↓te_aload, ↓te_astore, ↓te_bin, ↓te_callV, ↓te_const, ↓te_getI, ↓te_goto, ↓te_icmp, ↓te_ifnonnull, ↓te_iinc, ↓te_iload, ↓te_iret, ↓te_istore, ↓te_putI, ↓te_throw, ↓evb_c, ↓evb_n, ↓evk_ap, ↓evm_cut, ↓evm_go, ↓evm_0, ↓jret_v, ↓jret_n, ↓jretX_v, ↓jretX_n, jget, jset, cond_true, cond_false, Nat.reduceBEq, jc1, List.take_succ_cons, List.take_zero, List.drop_succ_cons, List.drop_zero, List.reverse_cons, List.reverse_nil, List.nil_append, List.cons_append, List.length_cons, List.length_nil, Nat.zero_add, Nat.reduceAdd, beq_self_eq_true, true_and, and_true, Nat.reduceLeDiff, Nat.le_refl, Nat.zero_le, Bool.or_true, Bool.true_or, Bool.or_false, Bool.false_or, Bool.or_self]
      try simp (disch := omega) only [Nat.reduceEqDiff, Prod.mk.injEq, Option.some.injEq, true_and, and_true, exists_eq_left', exists_eq_right, exists_and_left, exists_const, true_or, or_true, ne_eq, not_true_eq_false, not_false_eq_true, reduceCtorEq, false_and, and_false, if_true, if_false, forall_const, true_implies, false_implies, implies_true, qI_wI, qI_wP, qP_wI, qP_wP, qN_wI, qN_wP, and_self, nI_add, pk_mul, nI_clamp, vp_in_nI, ng_1, ng_10, nI_eq32, cs_0, cs_1, cs_2, cs_3, cs_4, cs_5, cs_6, cs_7, cs_8, cs_9, cs_10, cs_11, cs_12, cs_13, cs_14, cs_15, cs_16, cs_17, cs_18, cs_19, cs_20, cs_21, cs_22, cs_23, cs_24, cs_25, cs_26, cs_27, cs_28, cs_29, cs_30, cs_31, cs_32, cs_33, cs_34, cs_35, cs_36, cs_37, cs_38, cs_39, cs_40, cs_41, cs_42, cs_43, cs_44, cs_45, cs_46, cs_47, cs_48, cs_49, cs_50, cs_51, cs_52, cs_53, cs_54, cs_55, cs_56, cs_57, cs_58, cs_59, cs_60, cs_61, cs_62, cs_63, cs_64, cs_97, cs_100, cs_122, cs_200, cs_300, cs_448, cs_1000, al_11, al_12, al_13, al_14, al_15, al_16, al_17, al_18, al_19, al_20, al_21, al_22, al_23, al_24, al_25, al_26, al_27, al_28, al_29, al_30, al_31, al_32, al_33, al_34, al_35, al_36, al_37, al_38, al_39, al_40, al_41, al_42, al_43, al_44, al_45, al_46, al_47]
      refine cc_linesOf G hMr.1 hn.2.1 (by omega) ?_
      rw [hs.cnt]
      try simp only [↓cb_X9_unlock_0, ↓cb_X9_unlock_21, ↓cb_X9_unlock_40, ↓cb_X9_unlock_59, ↓cb_X9_unlock_82, ↓te_aload, ↓te_astore, ↓te_bin, ↓te_callV, ↓te_const, ↓te_getI, ↓te_goto, ↓te_icmp, ↓te_ifnonnull, ↓te_iinc, ↓te_iload, ↓te_iret, ↓te_istore, ↓te_putI, ↓te_throw, ↓evb_c, ↓evb_n, ↓evk_ap, ↓evm_cut, ↓evm_go, ↓evm_0, ↓jret_v, ↓jret_n, ↓jretX_v, ↓jretX_n, jget, jset, cond_true, cond_false, Nat.reduceBEq, jc1, List.take_succ_cons, List.take_zero, List.drop_succ_cons, List.drop_zero, List.reverse_cons, List.reverse_nil, List.nil_append, List.cons_append, List.length_cons, List.length_nil, Nat.zero_add, Nat.reduceAdd, beq_self_eq_true, true_and, and_true, Nat.reduceLeDiff, Nat.le_refl, Nat.zero_le, Bool.or_true, Bool.true_or, Bool.or_false, Bool.false_or, Bool.or_self]
      try simp (disch := omega) only [Nat.reduceEqDiff, Prod.mk.injEq, Option.some.injEq, true_and, and_true, exists_eq_left', exists_eq_right, exists_and_left, exists_const, true_or, or_true, ne_eq, not_true_eq_false, not_false_eq_true, reduceCtorEq, false_and, and_false, if_true, if_false, forall_const, true_implies, false_implies, implies_true, qI_wI, qI_wP, qP_wI, qP_wP, qN_wI, qN_wP, and_self, nI_add, pk_mul, nI_clamp, vp_in_nI, ng_1, ng_10, nI_eq32, cs_0, cs_1, cs_2, cs_3, cs_4, cs_5, cs_6, cs_7, cs_8, cs_9, cs_10, cs_11, cs_12, cs_13, cs_14, cs_15, cs_16, cs_17, cs_18, cs_19, cs_20, cs_21, cs_22, cs_23, cs_24, cs_25, cs_26, cs_27, cs_28, cs_29, cs_30, cs_31, cs_32, cs_33, cs_34, cs_35, cs_36, cs_37, cs_38, cs_39, cs_40, cs_41, cs_42, cs_43, cs_44, cs_45, cs_46, cs_47, cs_48, cs_49, cs_50, cs_51, cs_52, cs_53, cs_54, cs_55, cs_56, cs_57, cs_58, cs_59, cs_60, cs_61, cs_62, cs_63, cs_64, cs_97, cs_100, cs_122, cs_200, cs_300, cs_448, cs_1000, al_11, al_12, al_13, al_14, al_15, al_16, al_17, al_18, al_19, al_20, al_21, al_22, al_23, al_24, al_25, al_26, al_27, al_28, al_29, al_30, al_31, al_32, al_33, al_34, al_35, al_36, al_37, al_38, al_39, al_40, al_41, al_42, al_43, al_44, al_45, al_46, al_47]
      exact key m 0 0 M (sw S 10 0 0) p (Nat.zero_add _) hMr hWr hs rfl h0 (Or.inr trivial)
    refine ev_at hC (fun pc => pc == 40) 9 21 (ls := [some v9, some (.inl x), some (oR 1 f), none, none, none, none]) ?_
    try simp only [↓cb_X9_unlock_0, ↓cb_X9_unlock_21, ↓cb_X9_unlock_40, ↓cb_X9_unlock_59, ↓cb_X9_unlock_82, ↓te_aload, ↓te_astore, ↓te_bin, ↓te_callV, ↓te_const, ↓te_getI, ↓te_goto, ↓te_icmp, ↓te_ifnonnull, ↓te_iinc, ↓te_iload, ↓te_iret, ↓te_istore, ↓te_putI, ↓te_throw, ↓evb_c, ↓evb_n, ↓evk_ap, ↓evm_cut, ↓evm_go, ↓evm_0, ↓jret_v, ↓jret_n, ↓jretX_v, ↓jretX_n, jget, jset, cond_true, cond_false, Nat.reduceBEq, jc1, List.take_succ_cons, List.take_zero, List.drop_succ_cons, List.drop_zero, List.reverse_cons, List.reverse_nil, List.nil_append, List.cons_append, List.length_cons, List.length_nil, Nat.zero_add, Nat.reduceAdd, beq_self_eq_true, true_and, and_true, Nat.reduceLeDiff, Nat.le_refl, Nat.zero_le, Bool.or_true, Bool.true_or, Bool.or_false, Bool.false_or, Bool.or_self]
    try simp (disch := omega) only [Nat.reduceEqDiff, Prod.mk.injEq, Option.some.injEq, true_and, and_true, exists_eq_left', exists_eq_right, exists_and_left, exists_const, true_or, or_true, ne_eq, not_true_eq_false, not_false_eq_true, reduceCtorEq, false_and, and_false, if_true, if_false, forall_const, true_implies, false_implies, implies_true, qI_wI, qI_wP, qP_wI, qP_wP, qN_wI, qN_wP, and_self, nI_add, pk_mul, nI_clamp, vp_in_nI, ng_1, ng_10, nI_eq32, cs_0, cs_1, cs_2, cs_3, cs_4, cs_5, cs_6, cs_7, cs_8, cs_9, cs_10, cs_11, cs_12, cs_13, cs_14, cs_15, cs_16, cs_17, cs_18, cs_19, cs_20, cs_21, cs_22, cs_23, cs_24, cs_25, cs_26, cs_27, cs_28, cs_29, cs_30, cs_31, cs_32, cs_33, cs_34, cs_35, cs_36, cs_37, cs_38, cs_39, cs_40, cs_41, cs_42, cs_43, cs_44, cs_45, cs_46, cs_47, cs_48, cs_49, cs_50, cs_51, cs_52, cs_53, cs_54, cs_55, cs_56, cs_57, cs_58, cs_59, cs_60, cs_61, cs_62, cs_63, cs_64, cs_97, cs_100, cs_122, cs_200, cs_300, cs_448, cs_1000, al_11, al_12, al_13, al_14, al_15, al_16, al_17, al_18, al_19, al_20, al_21, al_22, al_23, al_24, al_25, al_26, al_27, al_28, al_29, al_30, al_31, al_32, al_33, al_34, al_35, al_36, al_37, al_38, al_39, al_40, al_41, al_42, al_43, al_44, al_45, al_46, al_47, a1]
    refine ⟨fun z => k40 z, fun z => ?_⟩
    rw [if_pos (Classical.not_not.mp z)] at hQ
    exact hQ.no (by omega) hM
  · rw [if_neg h1] at hQ ⊢
    try simp only [↓cb_X9_unlock_0, ↓cb_X9_unlock_21, ↓cb_X9_unlock_40, ↓cb_X9_unlock_59, ↓cb_X9_unlock_82, ↓te_aload, ↓te_astore, ↓te_bin, ↓te_callV, ↓te_const, ↓te_getI, ↓te_goto, ↓te_icmp, ↓te_ifnonnull, ↓te_iinc, ↓te_iload, ↓te_iret, ↓te_istore, ↓te_putI, ↓te_throw, ↓evb_c, ↓evb_n, ↓evk_ap, ↓evm_cut, ↓evm_go, ↓evm_0, ↓jret_v, ↓jret_n, ↓jretX_v, ↓jretX_n, jget, jset, cond_true, cond_false, Nat.reduceBEq, jc1, List.take_succ_cons, List.take_zero, List.drop_succ_cons, List.drop_zero, List.reverse_cons, List.reverse_nil, List.nil_append, List.cons_append, List.length_cons, List.length_nil, Nat.zero_add, Nat.reduceAdd, beq_self_eq_true, true_and, and_true, Nat.reduceLeDiff, Nat.le_refl, Nat.zero_le, Bool.or_true, Bool.true_or, Bool.or_false, Bool.false_or, Bool.or_self]
    try simp (disch := omega) only [Nat.reduceEqDiff, Prod.mk.injEq, Option.some.injEq, true_and, and_true, exists_eq_left', exists_eq_right, exists_and_left, exists_const, true_or, or_true, ne_eq, not_true_eq_false, not_false_eq_true, reduceCtorEq, false_and, and_false, if_true, if_false, forall_const, true_implies, false_implies, implies_true, qI_wI, qI_wP, qP_wI, qP_wP, qN_wI, qN_wP, and_self, nI_add, pk_mul, nI_clamp, vp_in_nI, ng_1, ng_10, nI_eq32, cs_0, cs_1, cs_2, cs_3, cs_4, cs_5, cs_6, cs_7, cs_8, cs_9, cs_10, cs_11, cs_12, cs_13, cs_14, cs_15, cs_16, cs_17, cs_18, cs_19, cs_20, cs_21, cs_22, cs_23, cs_24, cs_25, cs_26, cs_27, cs_28, cs_29, cs_30, cs_31, cs_32, cs_33, cs_34, cs_35, cs_36, cs_37, cs_38, cs_39, cs_40, cs_41, cs_42, cs_43, cs_44, cs_45, cs_46, cs_47, cs_48, cs_49, cs_50, cs_51, cs_52, cs_53, cs_54, cs_55, cs_56, cs_57, cs_58, cs_59, cs_60, cs_61, cs_62, cs_63, cs_64, cs_97, cs_100, cs_122, cs_200, cs_300, cs_448, cs_1000, al_11, al_12, al_13, al_14, al_15, al_16, al_17, al_18, al_19, al_20, al_21, al_22, al_23, al_24, al_25, al_26, al_27, al_28, al_29, al_30, al_31, al_32, al_33, al_34, al_35, al_36, al_37, al_38, al_39, al_40, al_41, al_42, al_43, al_44, al_45, al_46, al_47]
    exact hQ.no (by omega) hM

