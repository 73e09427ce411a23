/-! THE CLASS: a new object -/
def jM0 : jx_M := (fun _ _ _ => 0, fun _ _ _ => none, fun _ => 0, fun r => if 48 ≤ r ∧ r < 51 then 1 else 0)
theorem jM0_I (r i k : Nat) : qI jM0 r i k = 0 := rfl
theorem jM0_P (r i k : Nat) : qP jM0 r i k = none := rfl
theorem jM0_N (r : Nat) : qN jM0 r = if 48 ≤ r ∧ r < 51 then 1 else 0 := rfl
def S00 : jS := sw (fun _ _ => 0) 10 13 60
/-- what is made ahead of the loops -/
def FB (M : jx_M) : Prop := (qP M 9 0 0 = some 0 ∧ qP M 9 0 1 = some 0 ∧ qP M 9 0 3 = some 0 ∧ qP M 9 0 4 = some 0 ∧ qP M 9 0 5 = some 0 ∧ qP M 9 0 7 = some 0 ∧ qP M 9 0 9 = some 0 ∧ qP M 9 0 11 = some 0 ∧ qP M 9 0 12 = some 0 ∧ qP M 9 0 13 = some 0) ∧ (qP M 7 0 0 = some 0 ∧ qP M 8 0 0 = some 0 ∧ qP M 2 0 0 = some 0 ∧ qP M 5 0 0 = some 0) ∧ (qI M 9 0 2 = nI 0 ∧ qI M 9 0 6 = nI 60 ∧ qI M 9 0 8 = nI 0 ∧ qI M 9 0 10 = nI 0) ∧ (qI M 8 0 1 = nI 0 ∧ qI M 2 0 1 = nI 0 ∧ qI M 5 0 1 = nI 0 ∧ ∀ j, qI M 24 0 j = 0) ∧ qN M 6 = 0 ∧ (∀ r i k, (r = 10 ∨ 25 ≤ r) → qI M r i k = 0 ∧ qP M r i k = none) ∧ ∀ r, (r = 10 ∨ 25 ≤ r) → qN M r = qN jM0 r
theorem FB.fr {M M' : jx_M} (h : FB M) (hI : ∀ r i k, ¬ (r = 1 ∨ r = 3 ∨ r = 4 ∨ (16 ≤ r ∧ r ≤ 20)) → qI M' r i k = qI M r i k) (hP : ∀ r i k, ¬ (r = 1 ∨ r = 3 ∨ r = 4 ∨ r = 11 ∨ r = 13 ∨ r = 14 ∨ (16 ≤ r ∧ r ≤ 20)) → qP M' r i k = qP M r i k) (hN : ∀ r, ¬ (r = 1 ∨ r = 3 ∨ r = 4 ∨ (16 ≤ r ∧ r ≤ 20)) → qN M' r = qN M r) : FB M' := by
  obtain ⟨a, b, c, d, e, f, g⟩ := h
  have p9 : ∀ k, qP M' 9 0 k = qP M 9 0 k := fun k => hP 9 0 k (by omega)
  have i9 : ∀ k, qI M' 9 0 k = qI M 9 0 k := fun k => hI 9 0 k (by omega)
  refine ⟨?_, ?_, ?_, ?_, ?_, fun r i k hr => ?_, fun r hr => ?_⟩
  · simp only [p9]; exact a
  · rw [hP 7 0 0 (by omega), hP 8 0 0 (by omega), hP 2 0 0 (by omega), hP 5 0 0 (by omega)]; exact b
  · simp only [i9]; exact c
  · rw [hI 8 0 1 (by omega), hI 2 0 1 (by omega), hI 5 0 1 (by omega)]
    exact ⟨d.1, d.2.1, d.2.2.1, fun j => by rw [hI 24 0 j (by omega)]; exact d.2.2.2 j⟩
  · rw [hN 6 (by omega)]; exact e
  · rw [hI r i k (by omega), hP r i k (by omega)]; exact f r i k hr
  · rw [hN r (by omega)]; exact g r hr
def P4 (M : jx_M) (n : Nat) : Prop := ∀ k, k < n → qP M 11 0 k = some k ∧ qI M 4 k 0 = nI (k % 29) ∧ qP M 4 k 1 = none ∧ qI M 4 k 2 = nI 0 ∧ qI M 4 k 3 = nI 0
def P3 (M : jx_M) (n : Nat) : Prop := ∀ o, o < n → qP M 13 0 o = some o ∧ (qP M 3 o 0 = some o ∧ qP M 3 o 1 = some o ∧ qP M 3 o 2 = some o ∧ qP M 3 o 3 = some o ∧ qP M 3 o 4 = some o) ∧ (∀ g, qI M 19 o g = 0) ∧ ∀ j, qI M 20 o j = 0
def P1 (M : jx_M) (n : Nat) : Prop := ∀ f, f < n → qP M 14 0 f = some f ∧ qI M 1 f 0 = nI f ∧ qI M 1 f 1 = nI 0 ∧ qI M 1 f 2 = nI 0
def N3 (M : jx_M) (n : Nat) : Prop := qN M 3 = n ∧ qN M 16 = n ∧ qN M 17 = n ∧ qN M 18 = n ∧ qN M 19 = n ∧ qN M 20 = n
theorem CM_00 {M : jx_M} (hF : FB M) (h4 : P4 M 58) (h3 : P3 M 12) (h1 : P1 M 4) : CM M S00 (fun l => l) := by
  obtain ⟨a, b, c, d, e, f, g⟩ := hF
  refine ⟨⟨a, b, c, e⟩, ⟨d.1, fun k hk => absurd hk (Nat.not_lt_zero k)⟩, fun j hj => d.2.2.2 j, fun f hf => h1 f hf, ⟨d.2.1, fun k hk => absurd hk (Nat.not_lt_zero k)⟩, ⟨d.2.2.1, fun k hk => absurd hk (Nat.not_lt_zero k)⟩, fun s hs => absurd hs (Nat.not_lt_zero s), fun k hk => ⟨?_, fun i hi => absurd hi (Nat.not_lt_zero i)⟩, ⟨fun o ho => (h3 o ho).2.1, ⟨fun l hl => ⟨hl, (h3 l hl).1⟩, fun l l' _ _ e => e⟩, fun l hl => absurd hl (Nat.not_lt_zero l), fun l _ hl => ⟨fun g _ => (h3 l hl).2.2.1 g, fun j _ => (h3 l hl).2.2.2 j⟩⟩⟩
  obtain ⟨k1, k2, k3, k4, k5⟩ := h4 k hk
  exact ⟨k1, k2, k3, k4, k5⟩
set_option maxRecDepth 20000 in
set_option maxHeartbeats 20000000 in
theorem ci_X9_126 (G : jx_G) {Q : jx_O → jx_M → Prop} {Wn : jx_J} (hC : Cl (cd_X9_init G) Q Wn) (hQ : ∀ M', CM M' S00 (fun l => l) → FB M' → Q (.inl none) M') : ∀ M1, FB M1 → qN M1 4 = 0 → N3 M1 0 → qN M1 1 = 0 → Wn 126 [some v9, some (vI 0)] [] M1 14 1499 := by
  have fn0 : fN 0 = 4 := rfl
  have fn1 : fN 1 = 3 := rfl
  have fn2 : fN 2 = 2 := rfl
  have fn3 : fN 3 = 10 := rfl
  have fn4 : fN 4 = 4 := rfl
  have fn5 : fN 5 = 2 := rfl
  have fn7 : fN 7 = 1 := rfl
  have fn8 : fN 8 = 2 := rfl
  have k219 : ∀ M1 x1, FB M1 → P4 M1 58 → P3 M1 12 → P1 M1 4 → Wn 219 [some v9, x1] [] M1 148 4815 := by
    intro M1 x1 a b c d
    refine ev_at hC (fun pc => false) 9 219 (ls := [some v9, x1]) ?_
    try simp only [↓cb_X9_init_0, ↓cb_X9_init_126, ↓cb_X9_init_158, ↓cb_X9_init_160, ↓cb_X9_init_188, ↓cb_X9_init_190, ↓cb_X9_init_219, ↓te_alen, ↓te_aload, ↓te_astP, ↓te_callV, ↓te_const, ↓te_dup, ↓te_getP, ↓te_goto, ↓te_icmp, ↓te_iinc, ↓te_iload, ↓te_istore, ↓te_new, ↓te_newa, ↓te_oinit, ↓te_putI, ↓te_putP, ↓te_rem, ↓te_vret, ↓evb_c, ↓evb_n, ↓evk_ap, ↓evm_cut, ↓evm_go, ↓evm_0, ↓jret_v, ↓jret_n, ↓jretX_v, ↓jretX_n, jget, jset, cond_true, cond_false, Nat.reduceBEq, jc1, List.take_succ_cons, List.take_zero, List.drop_succ_cons, List.drop_zero, List.reverse_cons, List.reverse_nil, List.nil_append, List.cons_append, List.length_cons, List.length_nil, Nat.zero_add, Nat.reduceAdd, beq_self_eq_true, true_and, and_true, Nat.reduceLeDiff, Nat.le_refl, Nat.zero_le, Bool.or_true, Bool.true_or, Bool.or_false, Bool.false_or, Bool.or_self]
    try simp (disch := omega) only [Nat.reduceEqDiff, Prod.mk.injEq, Option.some.injEq, true_and, and_true, exists_eq_left', exists_eq_right, exists_and_left, exists_const, true_or, or_true, ne_eq, not_true_eq_false, not_false_eq_true, reduceCtorEq, false_and, and_false, if_true, if_false, forall_const, true_implies, false_implies, implies_true, qI_wI, qI_wP, qP_wI, qP_wP, qN_wI, qN_wP, and_self, nI_add, pk_mul, nI_clamp, vp_in_nI, ng_1, ng_10, nI_eq32, cs_0, cs_1, cs_2, cs_3, cs_4, cs_5, cs_6, cs_7, cs_8, cs_9, cs_10, cs_11, cs_12, cs_13, cs_14, cs_15, cs_16, cs_17, cs_18, cs_19, cs_20, cs_21, cs_22, cs_23, cs_24, cs_25, cs_26, cs_27, cs_28, cs_29, cs_30, cs_31, cs_32, cs_33, cs_34, cs_35, cs_36, cs_37, cs_38, cs_39, cs_40, cs_41, cs_42, cs_43, cs_44, cs_45, cs_46, cs_47, cs_48, cs_49, cs_50, cs_51, cs_52, cs_53, cs_54, cs_55, cs_56, cs_57, cs_58, cs_59, cs_60, cs_61, cs_62, cs_63, cs_64, cs_97, cs_100, cs_122, cs_200, cs_300, cs_448, cs_1000, al_11, al_12, al_13, al_14, al_15, al_16, al_17, al_18, al_19, al_20, al_21, al_22, al_23, al_24, al_25, al_26, al_27, al_28, al_29, al_30, al_31, al_32, al_33, al_34, al_35, al_36, al_37, al_38, al_39, al_40, al_41, al_42, al_43, al_44, al_45, al_46, al_47, Nat.reduceLeDiff, Nat.le_refl]
    exact hQ M1 (CM_00 a b c d) a
  have k190 : ∀ (d i : Nat) (M1 : jx_M), i + d = 4 → FB M1 → P4 M1 58 → P3 M1 12 → P1 M1 i → qN M1 1 = i → Wn 190 [some v9, some (vI i)] [] M1 (144 + i) (4803 + 3 * i) := by
    intro d
    induction d with
    | zero =>
      intro i M1 g1 a b c d n1
      have g2 : i = 4 := by omega
      subst g2
      have e9 := a.1.2.2.2.2.2.2.1
      have g := k219 M1 (some (vI 4)) a b c d
      refine ev_at hC (fun pc => pc == 190 || pc == 219) 9 190 (ls := [some v9, some (vI 4)]) ?_
      try simp only [↓cb_X9_init_0, ↓cb_X9_init_126, ↓cb_X9_init_158, ↓cb_X9_init_160, ↓cb_X9_init_188, ↓cb_X9_init_190, ↓cb_X9_init_219, ↓te_alen, ↓te_aload, ↓te_astP, ↓te_callV, ↓te_const, ↓te_dup, ↓te_getP, ↓te_goto, ↓te_icmp, ↓te_iinc, ↓te_iload, ↓te_istore, ↓te_new, ↓te_newa, ↓te_oinit, ↓te_putI, ↓te_putP, ↓te_rem, ↓te_vret, ↓evb_c, ↓evb_n, ↓evk_ap, ↓evm_cut, ↓evm_go, ↓evm_0, ↓jret_v, ↓jret_n, ↓jretX_v, ↓jretX_n, jget, jset, cond_true, cond_false, Nat.reduceBEq, jc1, List.take_succ_cons, List.take_zero, List.drop_succ_cons, List.drop_zero, List.reverse_cons, List.reverse_nil, List.nil_append, List.cons_append, List.length_cons, List.length_nil, Nat.zero_add, Nat.reduceAdd, beq_self_eq_true, true_and, and_true, Nat.reduceLeDiff, Nat.le_refl, Nat.zero_le, Bool.or_true, Bool.true_or, Bool.or_false, Bool.false_or, Bool.or_self]
      try simp (disch := omega) only [Nat.reduceEqDiff, Prod.mk.injEq, Option.some.injEq, true_and, and_true, exists_eq_left', exists_eq_right, exists_and_left, exists_const, true_or, or_true, ne_eq, not_true_eq_false, not_false_eq_true, reduceCtorEq, false_and, and_false, if_true, if_false, forall_const, true_implies, false_implies, implies_true, qI_wI, qI_wP, qP_wI, qP_wP, qN_wI, qN_wP, and_self, nI_add, pk_mul, nI_clamp, vp_in_nI, ng_1, ng_10, nI_eq32, cs_0, cs_1, cs_2, cs_3, cs_4, cs_5, cs_6, cs_7, cs_8, cs_9, cs_10, cs_11, cs_12, cs_13, cs_14, cs_15, cs_16, cs_17, cs_18, cs_19, cs_20, cs_21, cs_22, cs_23, cs_24, cs_25, cs_26, cs_27, cs_28, cs_29, cs_30, cs_31, cs_32, cs_33, cs_34, cs_35, cs_36, cs_37, cs_38, cs_39, cs_40, cs_41, cs_42, cs_43, cs_44, cs_45, cs_46, cs_47, cs_48, cs_49, cs_50, cs_51, cs_52, cs_53, cs_54, cs_55, cs_56, cs_57, cs_58, cs_59, cs_60, cs_61, cs_62, cs_63, cs_64, cs_97, cs_100, cs_122, cs_200, cs_300, cs_448, cs_1000, al_11, al_12, al_13, al_14, al_15, al_16, al_17, al_18, al_19, al_20, al_21, al_22, al_23, al_24, al_25, al_26, al_27, al_28, al_29, al_30, al_31, al_32, al_33, al_34, al_35, al_36, al_37, al_38, al_39, al_40, al_41, al_42, al_43, al_44, al_45, al_46, al_47, e9, nI_leI, Nat.reduceLeDiff]
      first
        | exact g
        | exact ⟨fun _ => g, fun z => absurd (Nat.le_refl 4) z⟩
    | succ d ih =>
      intro i M1 g1 a b c d1 n1
      have e9 := a.1.2.2.2.2.2.2.1
      have t9 : qP (wI (wI (wI (wNew M1 1) 1 i 1 (nI 0)) 1 i 2 (nI 0)) 1 i 0 (nI i)) 9 0 9 = some 0 := by
        rw [qP_wI, qP_wI, qP_wI, qP_wNew, if_neg (by omega)]; exact e9
      have g := ih (i + 1) (wP (wI (wI (wI (wNew M1 1) 1 i 1 (nI 0)) 1 i 2 (nI 0)) 1 i 0 (nI i)) 14 0 i (some i)) (by omega)
        (a.fr (fun r j k hr => by rw [qI_wP, qI_wI, if_neg (by omega), qI_wI, if_neg (by omega), qI_wI, if_neg (by omega), qI_wNew, if_neg (by omega)]) (fun r j k hr => by rw [qP_wP, if_neg (by omega), qP_wI, qP_wI, qP_wI, qP_wNew, if_neg (by omega)]) (fun r hr => by rw [qN_wP, qN_wI, qN_wI, qN_wI, qN_wNew, if_neg (by omega)]))
        (fun k hk => by
          have q := b k hk
          simp only [qP_wP, qP_wI, qI_wP, qI_wI, qP_wNew, qI_wNew, Nat.reduceEqDiff, false_and, if_false]
          exact q)
        (fun o ho => by
          have q := c o ho
          simp only [qP_wP, qP_wI, qI_wP, qI_wI, qP_wNew, qI_wNew, Nat.reduceEqDiff, false_and, if_false]
          exact q)
        (fun f hf => by
          by_cases e : f = i
          · subst e
            refine ⟨?_, ?_, ?_, ?_⟩
            · rw [qP_wP, if_pos ⟨rfl, rfl, rfl⟩]
            · rw [qI_wP, qI_wI, if_pos ⟨rfl, rfl, rfl⟩]
            · rw [qI_wP, qI_wI, if_neg (by omega), qI_wI, if_neg (by omega), qI_wI, if_pos ⟨rfl, rfl, rfl⟩]
            · rw [qI_wP, qI_wI, if_neg (by omega), qI_wI, if_pos ⟨rfl, rfl, rfl⟩]
          · obtain ⟨q1, q2, q3, q4⟩ := d1 f (by omega)
            refine ⟨?_, ?_, ?_, ?_⟩
            · rw [qP_wP, if_neg (by omega), qP_wI, qP_wI, qP_wI, qP_wNew, if_neg (by omega)]; exact q1
            · rw [qI_wP, qI_wI, if_neg (by omega), qI_wI, if_neg (by omega), qI_wI, if_neg (by omega), qI_wNew, if_neg (by omega)]; exact q2
            · rw [qI_wP, qI_wI, if_neg (by omega), qI_wI, if_neg (by omega), qI_wI, if_neg (by omega), qI_wNew, if_neg (by omega)]; exact q3
            · rw [qI_wP, qI_wI, if_neg (by omega), qI_wI, if_neg (by omega), qI_wI, if_neg (by omega), qI_wNew, if_neg (by omega)]; exact q4)
        (by rw [qN_wP, qN_wI, qN_wI, qN_wI, qN_wNew, if_pos rfl, n1])
      refine ev_at hC (fun pc => pc == 190 || pc == 219) 9 190 (ls := [some v9, some (vI i)]) ?_
      try simp only [↓cb_X9_init_0, ↓cb_X9_init_126, ↓cb_X9_init_158, ↓cb_X9_init_160, ↓cb_X9_init_188, ↓cb_X9_init_190, ↓cb_X9_init_219, ↓te_alen, ↓te_aload, ↓te_astP, ↓te_callV, ↓te_const, ↓te_dup, ↓te_getP, ↓te_goto, ↓te_icmp, ↓te_iinc, ↓te_iload, ↓te_istore, ↓te_new, ↓te_newa, ↓te_oinit, ↓te_putI, ↓te_putP, ↓te_rem, ↓te_vret, ↓evb_c, ↓evb_n, ↓evk_ap, ↓evm_cut, ↓evm_go, ↓evm_0, ↓jret_v, ↓jret_n, ↓jretX_v, ↓jretX_n, jget, jset, cond_true, cond_false, Nat.reduceBEq, jc1, List.take_succ_cons, List.take_zero, List.drop_succ_cons, List.drop_zero, List.reverse_cons, List.reverse_nil, List.nil_append, List.cons_append, List.length_cons, List.length_nil, Nat.zero_add, Nat.reduceAdd, beq_self_eq_true, true_and, and_true, Nat.reduceLeDiff, Nat.le_refl, Nat.zero_le, Bool.or_true, Bool.true_or, Bool.or_false, Bool.false_or, Bool.or_self]
      try simp (disch := omega) only [Nat.reduceEqDiff, Prod.mk.injEq, Option.some.injEq, true_and, and_true, exists_eq_left', exists_eq_right, exists_and_left, exists_const, true_or, or_true, ne_eq, not_true_eq_false, not_false_eq_true, reduceCtorEq, false_and, and_false, if_true, if_false, forall_const, true_implies, false_implies, implies_true, qI_wI, qI_wP, qP_wI, qP_wP, qN_wI, qN_wP, and_self, nI_add, pk_mul, nI_clamp, vp_in_nI, ng_1, ng_10, nI_eq32, cs_0, cs_1, cs_2, cs_3, cs_4, cs_5, cs_6, cs_7, cs_8, cs_9, cs_10, cs_11, cs_12, cs_13, cs_14, cs_15, cs_16, cs_17, cs_18, cs_19, cs_20, cs_21, cs_22, cs_23, cs_24, cs_25, cs_26, cs_27, cs_28, cs_29, cs_30, cs_31, cs_32, cs_33, cs_34, cs_35, cs_36, cs_37, cs_38, cs_39, cs_40, cs_41, cs_42, cs_43, cs_44, cs_45, cs_46, cs_47, cs_48, cs_49, cs_50, cs_51, cs_52, cs_53, cs_54, cs_55, cs_56, cs_57, cs_58, cs_59, cs_60, cs_61, cs_62, cs_63, cs_64, cs_97, cs_100, cs_122, cs_200, cs_300, cs_448, cs_1000, al_11, al_12, al_13, al_14, al_15, al_16, al_17, al_18, al_19, al_20, al_21, al_22, al_23, al_24, al_25, al_26, al_27, al_28, al_29, al_30, al_31, al_32, al_33, al_34, al_35, al_36, al_37, al_38, al_39, al_40, al_41, al_42, al_43, al_44, al_45, al_46, al_47, e9, n1, fn1, nI_leI]
      have tail : ∀ K, K (.inl none) (wI (wI (wI (wNew M1 1) 1 i 1 (nI 0)) 1 i 2 (nI 0)) 1 i 0 (nI i)) → Mt G m_X1_init [oR 1 i, vI i] (wNew M1 1) K := fun K hK => ci_X1 G hK
      refine ⟨fun z => absurd z (by omega), fun _ => ?_⟩
      first
        | refine tail _ ?_
        | refine ⟨by omega, by omega, tail _ ?_⟩
        | refine ⟨by omega, by omega, by omega, by omega, tail _ ?_⟩
      try simp only [↓cb_X9_init_0, ↓cb_X9_init_126, ↓cb_X9_init_158, ↓cb_X9_init_160, ↓cb_X9_init_188, ↓cb_X9_init_190, ↓cb_X9_init_219, ↓te_alen, ↓te_aload, ↓te_astP, ↓te_callV, ↓te_const, ↓te_dup, ↓te_getP, ↓te_goto, ↓te_icmp, ↓te_iinc, ↓te_iload, ↓te_istore, ↓te_new, ↓te_newa, ↓te_oinit, ↓te_putI, ↓te_putP, ↓te_rem, ↓te_vret, ↓evb_c, ↓evb_n, ↓evk_ap, ↓evm_cut, ↓evm_go, ↓evm_0, ↓jret_v, ↓jret_n, ↓jretX_v, ↓jretX_n, jget, jset, cond_true, cond_false, Nat.reduceBEq, jc1, List.take_succ_cons, List.take_zero, List.drop_succ_cons, List.drop_zero, List.reverse_cons, List.reverse_nil, List.nil_append, List.cons_append, List.length_cons, List.length_nil, Nat.zero_add, Nat.reduceAdd, beq_self_eq_true, true_and, and_true, Nat.reduceLeDiff, Nat.le_refl, Nat.zero_le, Bool.or_true, Bool.true_or, Bool.or_false, Bool.false_or, Bool.or_self]
      try simp (disch := omega) only [Nat.reduceEqDiff, Prod.mk.injEq, Option.some.injEq, true_and, and_true, exists_eq_left', exists_eq_right, exists_and_left, exists_const, true_or, or_true, ne_eq, not_true_eq_false, not_false_eq_true, reduceCtorEq, false_and, and_false, if_true, if_false, forall_const, true_implies, false_implies, implies_true, qI_wI, qI_wP, qP_wI, qP_wP, qN_wI, qN_wP, and_self, nI_add, pk_mul, nI_clamp, vp_in_nI, ng_1, ng_10, nI_eq32, cs_0, cs_1, cs_2, cs_3, cs_4, cs_5, cs_6, cs_7, cs_8, cs_9, cs_10, cs_11, cs_12, cs_13, cs_14, cs_15, cs_16, cs_17, cs_18, cs_19, cs_20, cs_21, cs_22, cs_23, cs_24, cs_25, cs_26, cs_27, cs_28, cs_29, cs_30, cs_31, cs_32, cs_33, cs_34, cs_35, cs_36, cs_37, cs_38, cs_39, cs_40, cs_41, cs_42, cs_43, cs_44, cs_45, cs_46, cs_47, cs_48, cs_49, cs_50, cs_51, cs_52, cs_53, cs_54, cs_55, cs_56, cs_57, cs_58, cs_59, cs_60, cs_61, cs_62, cs_63, cs_64, cs_97, cs_100, cs_122, cs_200, cs_300, cs_448, cs_1000, al_11, al_12, al_13, al_14, al_15, al_16, al_17, al_18, al_19, al_20, al_21, al_22, al_23, al_24, al_25, al_26, al_27, al_28, al_29, al_30, al_31, al_32, al_33, al_34, al_35, al_36, al_37, al_38, al_39, al_40, al_41, al_42, al_43, al_44, al_45, al_46, al_47, e9, t9]
      first
        | exact g
        | exact ⟨vp_in_nI (by omega) (by omega), g⟩
        | exact ⟨by omega, g⟩
  have k160 : ∀ (d i : Nat) (M1 : jx_M), i + d = 12 → FB M1 → P4 M1 58 → P3 M1 i → N3 M1 i → qN M1 1 = 0 → Wn 160 [some v9, some (vI i)] [] M1 (72 + 6 * i) (1731 + 256 * i) := by
    intro d
    induction d with
    | zero =>
      intro i M1 g1 a b c n3 n1
      have g2 : i = 12 := by omega
      subst g2
      have e7 := a.1.2.2.2.2.2.1
      have g := k190 4 0 M1 rfl a b c (fun f hf => by omega) n1
      have g188 : Wn 188 [some v9, some (vI 12)] [] M1 (72 + 6 * 12) (1731 + 256 * 12) := by
        refine ev_at hC (fun pc => pc == 190) 9 188 (ls := [some v9, some (vI 12)]) ?_
        try simp only [↓cb_X9_init_0, ↓cb_X9_init_126, ↓cb_X9_init_158, ↓cb_X9_init_160, ↓cb_X9_init_188, ↓cb_X9_init_190, ↓cb_X9_init_219, ↓te_alen, ↓te_aload, ↓te_astP, ↓te_callV, ↓te_const, ↓te_dup, ↓te_getP, ↓te_goto, ↓te_icmp, ↓te_iinc, ↓te_iload, ↓te_istore, ↓te_new, ↓te_newa, ↓te_oinit, ↓te_putI, ↓te_putP, ↓te_rem, ↓te_vret, ↓evb_c, ↓evb_n, ↓evk_ap, ↓evm_cut, ↓evm_go, ↓evm_0, ↓jret_v, ↓jret_n, ↓jretX_v, ↓jretX_n, jget, jset, cond_true, cond_false, Nat.reduceBEq, jc1, List.take_succ_cons, List.take_zero, List.drop_succ_cons, List.drop_zero, List.reverse_cons, List.reverse_nil, List.nil_append, List.cons_append, List.length_cons, List.length_nil, Nat.zero_add, Nat.reduceAdd, beq_self_eq_true, true_and, and_true, Nat.reduceLeDiff, Nat.le_refl, Nat.zero_le, Bool.or_true, Bool.true_or, Bool.or_false, Bool.false_or, Bool.or_self]
        try simp (disch := omega) only [Nat.reduceEqDiff, Prod.mk.injEq, Option.some.injEq, true_and, and_true, exists_eq_left', exists_eq_right, exists_and_left, exists_const, true_or, or_true, ne_eq, not_true_eq_false, not_false_eq_true, reduceCtorEq, false_and, and_false, if_true, if_false, forall_const, true_implies, false_implies, implies_true, qI_wI, qI_wP, qP_wI, qP_wP, qN_wI, qN_wP, and_self, nI_add, pk_mul, nI_clamp, vp_in_nI, ng_1, ng_10, nI_eq32, cs_0, cs_1, cs_2, cs_3, cs_4, cs_5, cs_6, cs_7, cs_8, cs_9, cs_10, cs_11, cs_12, cs_13, cs_14, cs_15, cs_16, cs_17, cs_18, cs_19, cs_20, cs_21, cs_22, cs_23, cs_24, cs_25, cs_26, cs_27, cs_28, cs_29, cs_30, cs_31, cs_32, cs_33, cs_34, cs_35, cs_36, cs_37, cs_38, cs_39, cs_40, cs_41, cs_42, cs_43, cs_44, cs_45, cs_46, cs_47, cs_48, cs_49, cs_50, cs_51, cs_52, cs_53, cs_54, cs_55, cs_56, cs_57, cs_58, cs_59, cs_60, cs_61, cs_62, cs_63, cs_64, cs_97, cs_100, cs_122, cs_200, cs_300, cs_448, cs_1000, al_11, al_12, al_13, al_14, al_15, al_16, al_17, al_18, al_19, al_20, al_21, al_22, al_23, al_24, al_25, al_26, al_27, al_28, al_29, al_30, al_31, al_32, al_33, al_34, al_35, al_36, al_37, al_38, al_39, al_40, al_41, al_42, al_43, al_44, al_45, al_46, al_47]
        exact g
      refine ev_at hC (fun pc => pc == 160 || pc == 188) 9 160 (ls := [some v9, some (vI 12)]) ?_
      try simp only [↓cb_X9_init_0, ↓cb_X9_init_126, ↓cb_X9_init_158, ↓cb_X9_init_160, ↓cb_X9_init_188, ↓cb_X9_init_190, ↓cb_X9_init_219, ↓te_alen, ↓te_aload, ↓te_astP, ↓te_callV, ↓te_const, ↓te_dup, ↓te_getP, ↓te_goto, ↓te_icmp, ↓te_iinc, ↓te_iload, ↓te_istore, ↓te_new, ↓te_newa, ↓te_oinit, ↓te_putI, ↓te_putP, ↓te_rem, ↓te_vret, ↓evb_c, ↓evb_n, ↓evk_ap, ↓evm_cut, ↓evm_go, ↓evm_0, ↓jret_v, ↓jret_n, ↓jretX_v, ↓jretX_n, jget, jset, cond_true, cond_false, Nat.reduceBEq, jc1, List.take_succ_cons, List.take_zero, List.drop_succ_cons, List.drop_zero, List.reverse_cons, List.reverse_nil, List.nil_append, List.cons_append, List.length_cons, List.length_nil, Nat.zero_add, Nat.reduceAdd, beq_self_eq_true, true_and, and_true, Nat.reduceLeDiff, Nat.le_refl, Nat.zero_le, Bool.or_true, Bool.true_or, Bool.or_false, Bool.false_or, Bool.or_self]
      try simp (disch := omega) only [Nat.reduceEqDiff, Prod.mk.injEq, Option.some.injEq, true_and, and_true, exists_eq_left', exists_eq_right, exists_and_left, exists_const, true_or, or_true, ne_eq, not_true_eq_false, not_false_eq_true, reduceCtorEq, false_and, and_false, if_true, if_false, forall_const, true_implies, false_implies, implies_true, qI_wI, qI_wP, qP_wI, qP_wP, qN_wI, qN_wP, and_self, nI_add, pk_mul, nI_clamp, vp_in_nI, ng_1, ng_10, nI_eq32, cs_0, cs_1, cs_2, cs_3, cs_4, cs_5, cs_6, cs_7, cs_8, cs_9, cs_10, cs_11, cs_12, cs_13, cs_14, cs_15, cs_16, cs_17, cs_18, cs_19, cs_20, cs_21, cs_22, cs_23, cs_24, cs_25, cs_26, cs_27, cs_28, cs_29, cs_30, cs_31, cs_32, cs_33, cs_34, cs_35, cs_36, cs_37, cs_38, cs_39, cs_40, cs_41, cs_42, cs_43, cs_44, cs_45, cs_46, cs_47, cs_48, cs_49, cs_50, cs_51, cs_52, cs_53, cs_54, cs_55, cs_56, cs_57, cs_58, cs_59, cs_60, cs_61, cs_62, cs_63, cs_64, cs_97, cs_100, cs_122, cs_200, cs_300, cs_448, cs_1000, al_11, al_12, al_13, al_14, al_15, al_16, al_17, al_18, al_19, al_20, al_21, al_22, al_23, al_24, al_25, al_26, al_27, al_28, al_29, al_30, al_31, al_32, al_33, al_34, al_35, al_36, al_37, al_38, al_39, al_40, al_41, al_42, al_43, al_44, al_45, al_46, al_47, e7, nI_leI, Nat.reduceLeDiff]
      first
        | exact g188
        | exact ⟨fun _ => g188, fun z => absurd (Nat.le_refl 12) z⟩
    | succ d ih =>
      intro i M1 g1 a b c n3 n1
      obtain ⟨m3, m16, m17, m18, m19, m20⟩ := n3
      have e7 := a.1.2.2.2.2.2.1
      have LI3 : ∀ r j k, ¬ r = 3 → ¬ (16 ≤ r ∧ r ≤ 20) → qI (mLn (wNew M1 3) i) r j k = qI M1 r j k := fun r j k hr hr2 => by
        unfold mLn
        simp only [qI_wP, qI_wI, qI_wNew]
        repeat rw [if_neg (by omega)]
      have LP3 : ∀ r j k, ¬ r = 3 → ¬ (16 ≤ r ∧ r ≤ 20) → qP (mLn (wNew M1 3) i) r j k = qP M1 r j k := fun r j k hr hr2 => by
        unfold mLn
        simp only [qP_wP, qP_wI, qP_wNew]
        repeat rw [if_neg (by omega)]
      have LN3 : ∀ r, ¬ r = 3 → ¬ (16 ≤ r ∧ r ≤ 20) → qN (mLn (wNew M1 3) i) r = qN M1 r := fun r hr hr2 => by
        unfold mLn
        simp only [qN_wP, qN_wI, qN_wNew]
        repeat rw [if_neg (by omega)]
      have t7 : qP (mLn (wNew M1 3) i) 9 0 7 = some 0 := (LP3 9 0 7 (by omega) (by omega)).trans e7
      have u16 : qN (wNew M1 3) 16 = i := by rw [qN_wNew, if_neg (by omega)]; exact m16
      have u17 : qN (wNew M1 3) 17 = i := by rw [qN_wNew, if_neg (by omega)]; exact m17
      have u18 : qN (wNew M1 3) 18 = i := by rw [qN_wNew, if_neg (by omega)]; exact m18
      have u19 : qN (wNew M1 3) 19 = i := by rw [qN_wNew, if_neg (by omega)]; exact m19
      have u20 : qN (wNew M1 3) 20 = i := by rw [qN_wNew, if_neg (by omega)]; exact m20
      have hN3 : N3 (wP (mLn (wNew M1 3) i) 13 0 i (some i)) (i + 1) := by
        unfold N3 mLn
        simp only [qN_wP, qN_wI, qN_wNew, Nat.reduceEqDiff, if_false, if_true, m3, m16, m17, m18, m19, m20, and_self]
      have hP3 : P3 (wP (mLn (wNew M1 3) i) 13 0 i (some i)) (i + 1) := fun o ho => by
        by_cases e : o = i
        · subst e
          unfold mLn
          simp only [qP_wP, qP_wI, qI_wP, qI_wI, qP_wNew, qI_wNew, qN_wP, qN_wI, qN_wNew, Nat.reduceEqDiff, false_and, and_false, if_false, if_true, true_and, and_true, m3, m16, m17, m18, m19, m20, and_self, implies_true]
        · obtain ⟨q1, ⟨q2, q3, q4, q5, q6⟩, q7, q8⟩ := c o (by omega)
          unfold mLn
          simp only [qP_wP, qP_wI, qI_wP, qI_wI, qP_wNew, qI_wNew, qN_wP, qN_wI, qN_wNew, Nat.reduceEqDiff, false_and, and_false, if_false, if_true, true_and, and_true, m3, m16, m17, m18, m19, m20, e]
          exact ⟨q1, ⟨q2, q3, q4, q5, q6⟩, q7, q8⟩
      have g := ih (i + 1) (wP (mLn (wNew M1 3) i) 13 0 i (some i)) (by omega)
        (a.fr (fun r j k hr => by rw [qI_wP]; exact LI3 r j k (by omega) (by omega)) (fun r j k hr => by rw [qP_wP, if_neg (by omega)]; exact LP3 r j k (by omega) (by omega)) (fun r hr => by rw [qN_wP]; exact LN3 r (by omega) (by omega)))
        (fun k hk => by
          have q := b k hk
          rw [qP_wP, if_neg (by omega), qI_wP, qP_wP, if_neg (by omega), qI_wP, qI_wP, LP3 _ _ _ (by omega) (by omega), LP3 _ _ _ (by omega) (by omega), LI3 _ _ _ (by omega) (by omega), LI3 _ _ _ (by omega) (by omega), LI3 _ _ _ (by omega) (by omega)]
          exact q)
        hP3 hN3 (by rw [qN_wP, LN3 1 (by omega) (by omega)]; exact n1)
      rw [show 72 + 6 * (i + 1) = 72 + 6 * i + 1 + 5 by omega, show 1731 + 256 * (i + 1) = 1731 + 256 * i + 10 + 246 by omega] at g
      refine ev_at hC (fun pc => pc == 160 || pc == 188) 9 160 (ls := [some v9, some (vI i)]) ?_
      try simp only [↓cb_X9_init_0, ↓cb_X9_init_126, ↓cb_X9_init_158, ↓cb_X9_init_160, ↓cb_X9_init_188, ↓cb_X9_init_190, ↓cb_X9_init_219, ↓te_alen, ↓te_aload, ↓te_astP, ↓te_callV, ↓te_const, ↓te_dup, ↓te_getP, ↓te_goto, ↓te_icmp, ↓te_iinc, ↓te_iload, ↓te_istore, ↓te_new, ↓te_newa, ↓te_oinit, ↓te_putI, ↓te_putP, ↓te_rem, ↓te_vret, ↓evb_c, ↓evb_n, ↓evk_ap, ↓evm_cut, ↓evm_go, ↓evm_0, ↓jret_v, ↓jret_n, ↓jretX_v, ↓jretX_n, jget, jset, cond_true, cond_false, Nat.reduceBEq, jc1, List.take_succ_cons, List.take_zero, List.drop_succ_cons, List.drop_zero, List.reverse_cons, List.reverse_nil, List.nil_append, List.cons_append, List.length_cons, List.length_nil, Nat.zero_add, Nat.reduceAdd, beq_self_eq_true, true_and, and_true, Nat.reduceLeDiff, Nat.le_refl, Nat.zero_le, Bool.or_true, Bool.true_or, Bool.or_false, Bool.false_or, Bool.or_self]
      try simp (disch := omega) only [Nat.reduceEqDiff, Prod.mk.injEq, Option.some.injEq, true_and, and_true, exists_eq_left', exists_eq_right, exists_and_left, exists_const, true_or, or_true, ne_eq, not_true_eq_false, not_false_eq_true, reduceCtorEq, false_and, and_false, if_true, if_false, forall_const, true_implies, false_implies, implies_true, qI_wI, qI_wP, qP_wI, qP_wP, qN_wI, qN_wP, and_self, nI_add, pk_mul, nI_clamp, vp_in_nI, ng_1, ng_10, nI_eq32, cs_0, cs_1, cs_2, cs_3, cs_4, cs_5, cs_6, cs_7, cs_8, cs_9, cs_10, cs_11, cs_12, cs_13, cs_14, cs_15, cs_16, cs_17, cs_18, cs_19, cs_20, cs_21, cs_22, cs_23, cs_24, cs_25, cs_26, cs_27, cs_28, cs_29, cs_30, cs_31, cs_32, cs_33, cs_34, cs_35, cs_36, cs_37, cs_38, cs_39, cs_40, cs_41, cs_42, cs_43, cs_44, cs_45, cs_46, cs_47, cs_48, cs_49, cs_50, cs_51, cs_52, cs_53, cs_54, cs_55, cs_56, cs_57, cs_58, cs_59, cs_60, cs_61, cs_62, cs_63, cs_64, cs_97, cs_100, cs_122, cs_200, cs_300, cs_448, cs_1000, al_11, al_12, al_13, al_14, al_15, al_16, al_17, al_18, al_19, al_20, al_21, al_22, al_23, al_24, al_25, al_26, al_27, al_28, al_29, al_30, al_31, al_32, al_33, al_34, al_35, al_36, al_37, al_38, al_39, al_40, al_41, al_42, al_43, al_44, al_45, al_46, al_47, e7, m3, fn3, nI_leI]
      have tail : ∀ K, K (.inl none) (mLn (wNew M1 3) i) → Mt G m_X3_init [oR 3 i] (wNew M1 3) K := fun K hK => ci_X3 G u16 u17 u18 u19 u20 hK
      refine ⟨fun z => absurd z (by omega), fun _ => ?_⟩
      first
        | refine tail _ ?_
        | refine ⟨by omega, by omega, tail _ ?_⟩
        | refine ⟨by omega, by omega, by omega, by omega, tail _ ?_⟩
      try simp only [↓cb_X9_init_0, ↓cb_X9_init_126, ↓cb_X9_init_158, ↓cb_X9_init_160, ↓cb_X9_init_188, ↓cb_X9_init_190, ↓cb_X9_init_219, ↓te_alen, ↓te_aload, ↓te_astP, ↓te_callV, ↓te_const, ↓te_dup, ↓te_getP, ↓te_goto, ↓te_icmp, ↓te_iinc, ↓te_iload, ↓te_istore, ↓te_new, ↓te_newa, ↓te_oinit, ↓te_putI, ↓te_putP, ↓te_rem, ↓te_vret, ↓evb_c, ↓evb_n, ↓evk_ap, ↓evm_cut, ↓evm_go, ↓evm_0, ↓jret_v, ↓jret_n, ↓jretX_v, ↓jretX_n, jget, jset, cond_true, cond_false, Nat.reduceBEq, jc1, List.take_succ_cons, List.take_zero, List.drop_succ_cons, List.drop_zero, List.reverse_cons, List.reverse_nil, List.nil_append, List.cons_append, List.length_cons, List.length_nil, Nat.zero_add, Nat.reduceAdd, beq_self_eq_true, true_and, and_true, Nat.reduceLeDiff, Nat.le_refl, Nat.zero_le, Bool.or_true, Bool.true_or, Bool.or_false, Bool.false_or, Bool.or_self]
      try simp (disch := omega) only [Nat.reduceEqDiff, Prod.mk.injEq, Option.some.injEq, true_and, and_true, exists_eq_left', exists_eq_right, exists_and_left, exists_const, true_or, or_true, ne_eq, not_true_eq_false, not_false_eq_true, reduceCtorEq, false_and, and_false, if_true, if_false, forall_const, true_implies, false_implies, implies_true, qI_wI, qI_wP, qP_wI, qP_wP, qN_wI, qN_wP, and_self, nI_add, pk_mul, nI_clamp, vp_in_nI, ng_1, ng_10, nI_eq32, cs_0, cs_1, cs_2, cs_3, cs_4, cs_5, cs_6, cs_7, cs_8, cs_9, cs_10, cs_11, cs_12, cs_13, cs_14, cs_15, cs_16, cs_17, cs_18, cs_19, cs_20, cs_21, cs_22, cs_23, cs_24, cs_25, cs_26, cs_27, cs_28, cs_29, cs_30, cs_31, cs_32, cs_33, cs_34, cs_35, cs_36, cs_37, cs_38, cs_39, cs_40, cs_41, cs_42, cs_43, cs_44, cs_45, cs_46, cs_47, cs_48, cs_49, cs_50, cs_51, cs_52, cs_53, cs_54, cs_55, cs_56, cs_57, cs_58, cs_59, cs_60, cs_61, cs_62, cs_63, cs_64, cs_97, cs_100, cs_122, cs_200, cs_300, cs_448, cs_1000, al_11, al_12, al_13, al_14, al_15, al_16, al_17, al_18, al_19, al_20, al_21, al_22, al_23, al_24, al_25, al_26, al_27, al_28, al_29, al_30, al_31, al_32, al_33, al_34, al_35, al_36, al_37, al_38, al_39, al_40, al_41, al_42, al_43, al_44, al_45, al_46, al_47, e7, t7]
      first
        | exact g
        | exact ⟨vp_in_nI (by omega) (by omega), g⟩
        | exact ⟨by omega, g⟩
  have k126 : ∀ (d i : Nat) (M1 : jx_M), i + d = 58 → FB M1 → P4 M1 i → qN M1 4 = i → N3 M1 0 → qN M1 1 = 0 → Wn 126 [some v9, some (vI i)] [] M1 (14 + i) (1499 + 4 * i) := by
    intro d
    induction d with
    | zero =>
      intro i M1 g1 a b n4 n3 n1
      have g2 : i = 58 := by omega
      subst g2
      have e0 := a.1.1
      have g := k160 12 0 M1 rfl a b (fun o ho => by omega) n3 n1
      have g158 : Wn 158 [some v9, some (vI 58)] [] M1 (14 + 58) (1499 + 4 * 58) := by
        refine ev_at hC (fun pc => pc == 160) 9 158 (ls := [some v9, some (vI 58)]) ?_
        try simp only [↓cb_X9_init_0, ↓cb_X9_init_126, ↓cb_X9_init_158, ↓cb_X9_init_160, ↓cb_X9_init_188, ↓cb_X9_init_190, ↓cb_X9_init_219, ↓te_alen, ↓te_aload, ↓te_astP, ↓te_callV, ↓te_const, ↓te_dup, ↓te_getP, ↓te_goto, ↓te_icmp, ↓te_iinc, ↓te_iload, ↓te_istore, ↓te_new, ↓te_newa, ↓te_oinit, ↓te_putI, ↓te_putP, ↓te_rem, ↓te_vret, ↓evb_c, ↓evb_n, ↓evk_ap, ↓evm_cut, ↓evm_go, ↓evm_0, ↓jret_v, ↓jret_n, ↓jretX_v, ↓jretX_n, jget, jset, cond_true, cond_false, Nat.reduceBEq, jc1, List.take_succ_cons, List.take_zero, List.drop_succ_cons, List.drop_zero, List.reverse_cons, List.reverse_nil, List.nil_append, List.cons_append, List.length_cons, List.length_nil, Nat.zero_add, Nat.reduceAdd, beq_self_eq_true, true_and, and_true, Nat.reduceLeDiff, Nat.le_refl, Nat.zero_le, Bool.or_true, Bool.true_or, Bool.or_false, Bool.false_or, Bool.or_self]
        try simp (disch := omega) only [Nat.reduceEqDiff, Prod.mk.injEq, Option.some.injEq, true_and, and_true, exists_eq_left', exists_eq_right, exists_and_left, exists_const, true_or, or_true, ne_eq, not_true_eq_false, not_false_eq_true, reduceCtorEq, false_and, and_false, if_true, if_false, forall_const, true_implies, false_implies, implies_true, qI_wI, qI_wP, qP_wI, qP_wP, qN_wI, qN_wP, and_self, nI_add, pk_mul, nI_clamp, vp_in_nI, ng_1, ng_10, nI_eq32, cs_0, cs_1, cs_2, cs_3, cs_4, cs_5, cs_6, cs_7, cs_8, cs_9, cs_10, cs_11, cs_12, cs_13, cs_14, cs_15, cs_16, cs_17, cs_18, cs_19, cs_20, cs_21, cs_22, cs_23, cs_24, cs_25, cs_26, cs_27, cs_28, cs_29, cs_30, cs_31, cs_32, cs_33, cs_34, cs_35, cs_36, cs_37, cs_38, cs_39, cs_40, cs_41, cs_42, cs_43, cs_44, cs_45, cs_46, cs_47, cs_48, cs_49, cs_50, cs_51, cs_52, cs_53, cs_54, cs_55, cs_56, cs_57, cs_58, cs_59, cs_60, cs_61, cs_62, cs_63, cs_64, cs_97, cs_100, cs_122, cs_200, cs_300, cs_448, cs_1000, al_11, al_12, al_13, al_14, al_15, al_16, al_17, al_18, al_19, al_20, al_21, al_22, al_23, al_24, al_25, al_26, al_27, al_28, al_29, al_30, al_31, al_32, al_33, al_34, al_35, al_36, al_37, al_38, al_39, al_40, al_41, al_42, al_43, al_44, al_45, al_46, al_47]
        exact g
      refine ev_at hC (fun pc => pc == 126 || pc == 158) 9 126 (ls := [some v9, some (vI 58)]) ?_
      try simp only [↓cb_X9_init_0, ↓cb_X9_init_126, ↓cb_X9_init_158, ↓cb_X9_init_160, ↓cb_X9_init_188, ↓cb_X9_init_190, ↓cb_X9_init_219, ↓te_alen, ↓te_aload, ↓te_astP, ↓te_callV, ↓te_const, ↓te_dup, ↓te_getP, ↓te_goto, ↓te_icmp, ↓te_iinc, ↓te_iload, ↓te_istore, ↓te_new, ↓te_newa, ↓te_oinit, ↓te_putI, ↓te_putP, ↓te_rem, ↓te_vret, ↓evb_c, ↓evb_n, ↓evk_ap, ↓evm_cut, ↓evm_go, ↓evm_0, ↓jret_v, ↓jret_n, ↓jretX_v, ↓jretX_n, jget, jset, cond_true, cond_false, Nat.reduceBEq, jc1, List.take_succ_cons, List.take_zero, List.drop_succ_cons, List.drop_zero, List.reverse_cons, List.reverse_nil, List.nil_append, List.cons_append, List.length_cons, List.length_nil, Nat.zero_add, Nat.reduceAdd, beq_self_eq_true, true_and, and_true, Nat.reduceLeDiff, Nat.le_refl, Nat.zero_le, Bool.or_true, Bool.true_or, Bool.or_false, Bool.false_or, Bool.or_self]
      try simp (disch := omega) only [Nat.reduceEqDiff, Prod.mk.injEq, Option.some.injEq, true_and, and_true, exists_eq_left', exists_eq_right, exists_and_left, exists_const, true_or, or_true, ne_eq, not_true_eq_false, not_false_eq_true, reduceCtorEq, false_and, and_false, if_true, if_false, forall_const, true_implies, false_implies, implies_true, qI_wI, qI_wP, qP_wI, qP_wP, qN_wI, qN_wP, and_self, nI_add, pk_mul, nI_clamp, vp_in_nI, ng_1, ng_10, nI_eq32, cs_0, cs_1, cs_2, cs_3, cs_4, cs_5, cs_6, cs_7, cs_8, cs_9, cs_10, cs_11, cs_12, cs_13, cs_14, cs_15, cs_16, cs_17, cs_18, cs_19, cs_20, cs_21, cs_22, cs_23, cs_24, cs_25, cs_26, cs_27, cs_28, cs_29, cs_30, cs_31, cs_32, cs_33, cs_34, cs_35, cs_36, cs_37, cs_38, cs_39, cs_40, cs_41, cs_42, cs_43, cs_44, cs_45, cs_46, cs_47, cs_48, cs_49, cs_50, cs_51, cs_52, cs_53, cs_54, cs_55, cs_56, cs_57, cs_58, cs_59, cs_60, cs_61, cs_62, cs_63, cs_64, cs_97, cs_100, cs_122, cs_200, cs_300, cs_448, cs_1000, al_11, al_12, al_13, al_14, al_15, al_16, al_17, al_18, al_19, al_20, al_21, al_22, al_23, al_24, al_25, al_26, al_27, al_28, al_29, al_30, al_31, al_32, al_33, al_34, al_35, al_36, al_37, al_38, al_39, al_40, al_41, al_42, al_43, al_44, al_45, al_46, al_47, e0, nI_leI, Nat.reduceLeDiff]
      first
        | exact g158
        | exact ⟨fun _ => g158, fun z => absurd (Nat.le_refl 58) z⟩
    | succ d ih =>
      intro i M1 g1 a b n4 n3 n1
      have e0 := a.1.1
      have t0 : qP (wI (wI (wI (wP (wNew M1 4) 4 i 1 none) 4 i 2 (nI 0)) 4 i 3 (nI 0)) 4 i 0 (nI (i % 29))) 9 0 0 = some 0 := by
        rw [qP_wI, qP_wI, qP_wI, qP_wP, if_neg (by omega), qP_wNew, if_neg (by omega)]; exact e0
      have g := ih (i + 1) (wP (wI (wI (wI (wP (wNew M1 4) 4 i 1 none) 4 i 2 (nI 0)) 4 i 3 (nI 0)) 4 i 0 (nI (i % 29))) 11 0 i (some i)) (by omega)
        (a.fr (fun r j k hr => by rw [qI_wP, qI_wI, if_neg (by omega), qI_wI, if_neg (by omega), qI_wI, if_neg (by omega), qI_wP, qI_wNew, if_neg (by omega)]) (fun r j k hr => by rw [qP_wP, if_neg (by omega), qP_wI, qP_wI, qP_wI, qP_wP, if_neg (by omega), qP_wNew, if_neg (by omega)]) (fun r hr => by rw [qN_wP, qN_wI, qN_wI, qN_wI, qN_wP, qN_wNew, if_neg (by omega)]))
        (fun k hk => by
          by_cases e : k = i
          · subst e
            simp only [qP_wP, qP_wI, qI_wP, qI_wI, qP_wNew, qI_wNew, Nat.reduceEqDiff, false_and, and_false, if_false, if_true, true_and, and_true, and_self]
          · obtain ⟨q1, q2, q3, q4, q5⟩ := b k (by omega)
            simp only [qP_wP, qP_wI, qI_wP, qI_wI, qP_wNew, qI_wNew, Nat.reduceEqDiff, false_and, and_false, if_false, if_true, true_and, and_true, n4, e]
            exact ⟨q1, q2, q3, q4, q5⟩)
        (by rw [qN_wP, qN_wI, qN_wI, qN_wI, qN_wP, qN_wNew, if_pos rfl, n4])
        (by
          obtain ⟨m3, m16, m17, m18, m19, m20⟩ := n3
          unfold N3
          simp only [qN_wP, qN_wI, qN_wNew, Nat.reduceEqDiff, if_false, m3, m16, m17, m18, m19, m20, and_self])
        (by rw [qN_wP, qN_wI, qN_wI, qN_wI, qN_wP, qN_wNew, if_neg (by omega)]; exact n1)
      refine ev_at hC (fun pc => pc == 126 || pc == 158) 9 126 (ls := [some v9, some (vI i)]) ?_
      try simp only [↓cb_X9_init_0, ↓cb_X9_init_126, ↓cb_X9_init_158, ↓cb_X9_init_160, ↓cb_X9_init_188, ↓cb_X9_init_190, ↓cb_X9_init_219, ↓te_alen, ↓te_aload, ↓te_astP, ↓te_callV, ↓te_const, ↓te_dup, ↓te_getP, ↓te_goto, ↓te_icmp, ↓te_iinc, ↓te_iload, ↓te_istore, ↓te_new, ↓te_newa, ↓te_oinit, ↓te_putI, ↓te_putP, ↓te_rem, ↓te_vret, ↓evb_c, ↓evb_n, ↓evk_ap, ↓evm_cut, ↓evm_go, ↓evm_0, ↓jret_v, ↓jret_n, ↓jretX_v, ↓jretX_n, jget, jset, cond_true, cond_false, Nat.reduceBEq, jc1, List.take_succ_cons, List.take_zero, List.drop_succ_cons, List.drop_zero, List.reverse_cons, List.reverse_nil, List.nil_append, List.cons_append, List.length_cons, List.length_nil, Nat.zero_add, Nat.reduceAdd, beq_self_eq_true, true_and, and_true, Nat.reduceLeDiff, Nat.le_refl, Nat.zero_le, Bool.or_true, Bool.true_or, Bool.or_false, Bool.false_or, Bool.or_self]
      try simp (disch := omega) only [Nat.reduceEqDiff, Prod.mk.injEq, Option.some.injEq, true_and, and_true, exists_eq_left', exists_eq_right, exists_and_left, exists_const, true_or, or_true, ne_eq, not_true_eq_false, not_false_eq_true, reduceCtorEq, false_and, and_false, if_true, if_false, forall_const, true_implies, false_implies, implies_true, qI_wI, qI_wP, qP_wI, qP_wP, qN_wI, qN_wP, and_self, nI_add, pk_mul, nI_clamp, vp_in_nI, ng_1, ng_10, nI_eq32, cs_0, cs_1, cs_2, cs_3, cs_4, cs_5, cs_6, cs_7, cs_8, cs_9, cs_10, cs_11, cs_12, cs_13, cs_14, cs_15, cs_16, cs_17, cs_18, cs_19, cs_20, cs_21, cs_22, cs_23, cs_24, cs_25, cs_26, cs_27, cs_28, cs_29, cs_30, cs_31, cs_32, cs_33, cs_34, cs_35, cs_36, cs_37, cs_38, cs_39, cs_40, cs_41, cs_42, cs_43, cs_44, cs_45, cs_46, cs_47, cs_48, cs_49, cs_50, cs_51, cs_52, cs_53, cs_54, cs_55, cs_56, cs_57, cs_58, cs_59, cs_60, cs_61, cs_62, cs_63, cs_64, cs_97, cs_100, cs_122, cs_200, cs_300, cs_448, cs_1000, al_11, al_12, al_13, al_14, al_15, al_16, al_17, al_18, al_19, al_20, al_21, al_22, al_23, al_24, al_25, al_26, al_27, al_28, al_29, al_30, al_31, al_32, al_33, al_34, al_35, al_36, al_37, al_38, al_39, al_40, al_41, al_42, al_43, al_44, al_45, al_46, al_47, e0, n4, fn4, pk_div, nI_rem, nI_leI]
      have tail : ∀ K, K (.inl none) (wI (wI (wI (wP (wNew M1 4) 4 i 1 none) 4 i 2 (nI 0)) 4 i 3 (nI 0)) 4 i 0 (nI (i % 29))) → Mt G m_X4_init [oR 4 i, vI (i % 29)] (wNew M1 4) K := fun K hK => ci_X4 G hK
      refine ⟨fun z => absurd z (by omega), fun _ => ?_⟩
      first
        | refine tail _ ?_
        | refine ⟨by omega, by omega, tail _ ?_⟩
        | refine ⟨by omega, by omega, by omega, by omega, tail _ ?_⟩
      try simp only [↓cb_X9_init_0, ↓cb_X9_init_126, ↓cb_X9_init_158, ↓cb_X9_init_160, ↓cb_X9_init_188, ↓cb_X9_init_190, ↓cb_X9_init_219, ↓te_alen, ↓te_aload, ↓te_astP, ↓te_callV, ↓te_const, ↓te_dup, ↓te_getP, ↓te_goto, ↓te_icmp, ↓te_iinc, ↓te_iload, ↓te_istore, ↓te_new, ↓te_newa, ↓te_oinit, ↓te_putI, ↓te_putP, ↓te_rem, ↓te_vret, ↓evb_c, ↓evb_n, ↓evk_ap, ↓evm_cut, ↓evm_go, ↓evm_0, ↓jret_v, ↓jret_n, ↓jretX_v, ↓jretX_n, jget, jset, cond_true, cond_false, Nat.reduceBEq, jc1, List.take_succ_cons, List.take_zero, List.drop_succ_cons, List.drop_zero, List.reverse_cons, List.reverse_nil, List.nil_append, List.cons_append, List.length_cons, List.length_nil, Nat.zero_add, Nat.reduceAdd, beq_self_eq_true, true_and, and_true, Nat.reduceLeDiff, Nat.le_refl, Nat.zero_le, Bool.or_true, Bool.true_or, Bool.or_false, Bool.false_or, Bool.or_self]
      try simp (disch := omega) only [Nat.reduceEqDiff, Prod.mk.injEq, Option.some.injEq, true_and, and_true, exists_eq_left', exists_eq_right, exists_and_left, exists_const, true_or, or_true, ne_eq, not_true_eq_false, not_false_eq_true, reduceCtorEq, false_and, and_false, if_true, if_false, forall_const, true_implies, false_implies, implies_true, qI_wI, qI_wP, qP_wI, qP_wP, qN_wI, qN_wP, and_self, nI_add, pk_mul, nI_clamp, vp_in_nI, ng_1, ng_10, nI_eq32, cs_0, cs_1, cs_2, cs_3, cs_4, cs_5, cs_6, cs_7, cs_8, cs_9, cs_10, cs_11, cs_12, cs_13, cs_14, cs_15, cs_16, cs_17, cs_18, cs_19, cs_20, cs_21, cs_22, cs_23, cs_24, cs_25, cs_26, cs_27, cs_28, cs_29, cs_30, cs_31, cs_32, cs_33, cs_34, cs_35, cs_36, cs_37, cs_38, cs_39, cs_40, cs_41, cs_42, cs_43, cs_44, cs_45, cs_46, cs_47, cs_48, cs_49, cs_50, cs_51, cs_52, cs_53, cs_54, cs_55, cs_56, cs_57, cs_58, cs_59, cs_60, cs_61, cs_62, cs_63, cs_64, cs_97, cs_100, cs_122, cs_200, cs_300, cs_448, cs_1000, al_11, al_12, al_13, al_14, al_15, al_16, al_17, al_18, al_19, al_20, al_21, al_22, al_23, al_24, al_25, al_26, al_27, al_28, al_29, al_30, al_31, al_32, al_33, al_34, al_35, al_36, al_37, al_38, al_39, al_40, al_41, al_42, al_43, al_44, al_45, al_46, al_47, e0, t0]
      first
        | exact g
        | exact ⟨vp_in_nI (by omega) (by omega), g⟩
        | exact ⟨by omega, g⟩
  exact fun M1 a n4 n3 n1 => k126 58 0 M1 rfl a (fun k hk => by omega) n4 n3 n1

