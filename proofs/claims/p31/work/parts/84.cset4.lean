/-! THE CLASS: taken back -/
def bkS (sq pl : Nat → Nat) : Nat → jS → jS
  | 0, V => V
  | j + 1, V => bkS sq pl j (spPut (sw V 28 (sq j) 0) (pl (sq j)) (sq j))
def AG (X Y : jS) : Prop := ∀ a b, a = 27 ∨ a = 28 ∨ a = 29 ∨ a = 30 → X a b = Y a b
theorem bkS_row {sq pl : Nat → Nat} {a b : Nat} (h : ¬ (a = 27 ∨ a = 28 ∨ a = 29 ∨ a = 30)) : ∀ (j : Nat) (V : jS), bkS sq pl j V a b = V a b
  | 0, _ => rfl
  | j + 1, V => by
    unfold bkS
    rw [bkS_row h j, spPut_row _ _ _ h, sw_at, if_neg (by omega)]
theorem AG.put {X Y : jS} (h : AG X Y) (k s : Nat) : AG (spPut (sw X 28 s 0) k s) (spPut (sw Y 28 s 0) k s) := by
  have e30 : ∀ j, sw X 28 s 0 30 j = sw Y 28 s 0 30 j := fun j => by rw [sw_at, if_neg (by omega), sw_at, if_neg (by omega)]; exact h 30 j (by omega)
  intro a b hab
  rcases hab with e | e | e | e
  · subst e
    have e : sw X 28 s 0 27 b = sw Y 28 s 0 27 b := by rw [sw_at, if_neg (by omega), sw_at, if_neg (by omega)]; exact h 27 b (by omega)
    rw [spPut_27, spPut_27, e]
  · subst e
    rw [spPut_28, spPut_28, sw_at, sw_at, h 28 b (by omega)]
  · subst e
    have e : sw X 28 s 0 29 b = sw Y 28 s 0 29 b := by rw [sw_at, if_neg (by omega), sw_at, if_neg (by omega)]; exact h 29 b (by omega)
    rw [spPut_29, spPut_29, e30, e]
  · subst e
    rw [spPut_30, spPut_30, e30, e30]
theorem bkS_c {sq sq' pl : Nat → Nat} : ∀ (j : Nat) (X Y : jS), AG X Y → (∀ i, i < j → sq i = sq' i) → AG (bkS sq pl j X) (bkS sq' pl j Y)
  | 0, _, _, h, _ => h
  | j + 1, X, Y, h, hs => by
    unfold bkS
    rw [hs j (by omega)]
    exact bkS_c j _ _ (h.put _ _) (fun i hi => hs i (by omega))
set_option maxRecDepth 20000 in
set_option maxHeartbeats 20000000 in
theorem cc_lsort_raw (G : jx_G) {M : jx_M} {Q : jx_O → jx_M → Prop} {o m k s : Nat} (hA : CA M) (ho : o < 12) (h6 : qI M 3 o 6 = nI m) (hm : m ≤ 60) (hk : k < m) (h16 : qP M 16 o k = some s) (hQ : Q (rP 6 (some s)) M) : Mt G m_X3_sortOn [oR 3 o, vI k] M Q := by
  refine Mt.of (sc_X3_sortOn G) (by decide +kernel) (jArgs.of rfl) (Nat.le_of_ble_eq_true rfl) (fun Wn hC => ?_)
  have h0 := (hA o ho).1
  refine ev_at hC (fun pc => false) 9 0 (ls := [some (oR 3 o), some (vI k)]) ?_
  simp only [↓cb_X3_sortOn_0, ↓cb_X3_sortOn_30, ↓cb_X3_sortOn_31, ↓te_aldP, ↓te_alen, ↓te_aload, ↓te_aret, ↓te_getI, ↓te_getP, ↓te_goto, ↓te_icmp, ↓te_if, ↓te_iload, ↓te_null, ↓evb_c, ↓evb_n, ↓evk_ap, ↓evm_cut, ↓evm_go, ↓evm_0, ↓jret_v, ↓jret_n, jget, jset, cond_true, cond_false, Nat.reduceBEq, jc1, List.take_succ_cons, List.take_zero, List.drop_succ_cons, List.drop_zero, List.reverse_cons, List.reverse_nil, List.nil_append, List.cons_append, List.length_cons, List.length_nil, Nat.zero_add, Nat.reduceAdd, beq_self_eq_true, true_and, and_true, Nat.reduceLeDiff, Nat.le_refl, Nat.zero_le, Bool.or_true, Bool.true_or, Bool.or_false, Bool.false_or, Bool.or_self]
  simp (disch := omega) only [Nat.reduceEqDiff, Prod.mk.injEq, Option.some.injEq, true_and, and_true, exists_eq_left', exists_eq_right, exists_and_left, exists_const, true_or, or_true, ne_eq, not_true_eq_false, not_false_eq_true, reduceCtorEq, false_and, and_false, if_true, if_false, forall_const, true_implies, false_implies, implies_true, qI_wI, qI_wP, qP_wI, qP_wP, qN_wI, qN_wP, and_self, nI_add, pk_mul, nI_clamp, vp_in_nI, ng_1, ng_10, nI_eq32, cs_0, cs_1, cs_2, cs_3, cs_4, cs_5, cs_6, cs_7, cs_8, cs_9, cs_10, cs_11, cs_12, cs_13, cs_14, cs_15, cs_16, cs_17, cs_18, cs_19, cs_20, cs_21, cs_22, cs_23, cs_24, cs_25, cs_26, cs_27, cs_28, cs_29, cs_30, cs_31, cs_32, cs_33, cs_34, cs_35, cs_36, cs_37, cs_38, cs_39, cs_40, cs_41, cs_42, cs_43, cs_44, cs_45, cs_46, cs_47, cs_48, cs_49, cs_50, cs_51, cs_52, cs_53, cs_54, cs_55, cs_56, cs_57, cs_58, cs_59, cs_60, cs_61, cs_62, cs_63, cs_64, cs_97, cs_100, cs_122, cs_200, cs_300, cs_448, cs_1000, al_11, al_12, al_13, al_14, al_15, al_16, al_17, al_18, al_19, al_20, al_21, al_22, al_23, al_24, al_25, al_26, al_27, al_28, al_29, al_30, al_31, al_32, al_33, al_34, al_35, al_36, al_37, al_38, al_39, al_40, al_41, al_42, al_43, al_44, al_45, al_46, al_47, h0, h6, h16, nI_leI, nI_ltI]
  repeat (first | exact hQ | (refine ⟨fun h9 => absurd h9 (by first | omega | assumption), fun _ => ?_⟩) | (refine ⟨fun _ => ?_, fun h9 => absurd (by first | omega | assumption) h9⟩))
set_option maxRecDepth 20000 in
set_option maxHeartbeats 20000000 in
theorem cc_takeBackL (G : jx_G) {M0 M : jx_M} {V : jS} {p sq pl : Nat → Nat} {o m : Nat} {X : (Nat → Nat) → Nat} {Q : jx_O → jx_M → Prop} (hM : CX M0 M V p) (ho : o < 12) (hm : m ≤ 60) (h6 : qI M 3 o 6 = nI m) (h16 : ∀ j, j < m → qP M 16 o j = some (sq j)) (h66 : ∀ j, j < m → qP M 6 (sq j) 6 = some (pl (sq j))) (hpl : ∀ j, j < m → pl (sq j) < 58) (hW : WC V (fun w => X w + sumr (fun j => w (sq j)) 0 m)) (hQ : ∀ M', CX M0 M' (bkS sq pl m V) p → Q (.inl none) M') : Mt G m_X9_takeBack [v9, oR 3 o] M Q := by
  refine Mt.of (sc_X9_takeBack G) (by decide +kernel) (jArgs.of rfl) (Nat.le_of_ble_eq_true rfl) (fun Wn hC => ?_)
  have key : ∀ (j : Nat) (M1 : jx_M) (V1 : jS) (x3 : Option jx_V), j ≤ m → CX M0 M1 V1 p → qI M1 3 o 6 = nI m → (∀ i, i < m → qP M1 16 o i = some (sq i)) → (∀ i, i < m → qP M1 6 (sq i) 6 = some (pl (sq i))) → WC V1 (fun w => X w + sumr (fun i => w (sq i)) 0 j) → (∀ M', CX M0 M' (bkS sq pl j V1) p → Q (.inl none) M') → Wn 7 [some v9, some (oR 3 o), some (vI (j + 4294967295)), x3] [] M1 0 0 := by
    intro j
    induction j with
    | zero =>
      intro M1 V1 x3 c1 hM1 d6 d16 d66 hW1 hQ1
      have k47 : Wn 47 [some v9, some (oR 3 o), some (vI (0 + 4294967295)), x3] [] M1 0 0 := by
        refine ev_at hC (fun pc => false) 9 47 (ls := [some v9, some (oR 3 o), some (vI (0 + 4294967295)), x3]) ?_
        try simp only [↓cb_X9_takeBack_0, ↓cb_X9_takeBack_7, ↓cb_X9_takeBack_41, ↓cb_X9_takeBack_47, ↓te_aload, ↓te_astore, ↓te_bin, ↓te_callV, ↓te_const, ↓te_getI, ↓te_getP, ↓te_goto, ↓te_if, ↓te_ifnull, ↓te_iinc, ↓te_iload, ↓te_istore, ↓te_putZ, ↓te_vret, ↓evb_c, ↓evb_n, ↓evk_ap, ↓evm_cut, ↓evm_go, ↓evm_0, ↓jret_v, ↓jret_n, jget, jset, cond_true, cond_false, Nat.reduceBEq, jc1, List.take_succ_cons, List.take_zero, List.drop_succ_cons, List.drop_zero, List.reverse_cons, List.reverse_nil, List.nil_append, List.cons_append, List.length_cons, List.length_nil, Nat.zero_add, Nat.reduceAdd, beq_self_eq_true, true_and, and_true, Nat.reduceLeDiff, Nat.le_refl, Nat.zero_le, Bool.or_true, Bool.true_or, Bool.or_false, Bool.false_or, Bool.or_self]
        exact hQ1 M1 hM1
      refine ev_at hC (fun pc => pc == 7 || pc == 41 || pc == 47) 9 7 (ls := [some v9, some (oR 3 o), some (vI (0 + 4294967295)), x3]) ?_
      try simp only [↓cb_X9_takeBack_0, ↓cb_X9_takeBack_7, ↓cb_X9_takeBack_41, ↓cb_X9_takeBack_47, ↓te_aload, ↓te_astore, ↓te_bin, ↓te_callV, ↓te_const, ↓te_getI, ↓te_getP, ↓te_goto, ↓te_if, ↓te_ifnull, ↓te_iinc, ↓te_iload, ↓te_istore, ↓te_putZ, ↓te_vret, ↓evb_c, ↓evb_n, ↓evk_ap, ↓evm_cut, ↓evm_go, ↓evm_0, ↓jret_v, ↓jret_n, jget, jset, cond_true, cond_false, Nat.reduceBEq, jc1, List.take_succ_cons, List.take_zero, List.drop_succ_cons, List.drop_zero, List.reverse_cons, List.reverse_nil, List.nil_append, List.cons_append, List.length_cons, List.length_nil, Nat.zero_add, Nat.reduceAdd, beq_self_eq_true, true_and, and_true, Nat.reduceLeDiff, Nat.le_refl, Nat.zero_le, Bool.or_true, Bool.true_or, Bool.or_false, Bool.false_or, Bool.or_self]
      exact ⟨fun _ => k47, fun h9 => absurd (show nI (0 + 4294967295) < nI 0 by decide +kernel) h9⟩
    | succ j ih =>
      intro M1 V1 x3 c1 hM1 d6 d16 d66 hW1 hQ1
      rw [show j + 1 + 4294967295 = j + 4294967296 by omega, show vI (j + 4294967296) = vI j from congrArg Sum.inl (nI_wrap j)]
      have hA1 := hM1.1.2.2.2.2.2.2.2.2.1
      have e16 := d16 j (by omega)
      have e66 := d66 j (by omega)
      have epl := hpl j (by omega)
      have hR : ∀ w : Nat → Nat, X w + sumr (fun i => w (sq i)) 0 (j + 1) = (X w + sumr (fun i => w (sq i)) 0 j) + w (sq j) := fun w => by
        rw [show sumr (fun i => w (sq i)) 0 (j + 1) = sumr (fun i => w (sq i)) 0 j + w (sq j) from sumr_s j, Nat.add_assoc]
      have hin : 0 < X (ind (sq j)) + sumr (fun i => ind (sq j) (sq i)) 0 (j + 1) := by rw [hR (ind (sq j)), ind_self]; omega
      have hlive := hW1.2.2.live (s := sq j) (by show 0 < _ + _ + (X (ind (sq j)) + sumr (fun i => ind (sq j) (sq i)) 0 (j + 1)); omega)
      have hno : ∀ k i, k < 58 → i < V1 30 k → ¬ V1 29 (300 * k + i) = sq j := fun k i hk hi => hW1.2.2.noPile hin hk hi
      have hn1 := hW1.1.1.1
      have hc : ∀ k, k < 58 → V1 30 k < 300 := fun k hk => by
        have q := hW1.2.2.cnt hk
        have q2 := hR (fun _ => 1)
        simp only [q2] at q
        omega
      have hW2 : WC (spPut (sw V1 28 (sq j) 0) (pl (sq j)) (sq j)) (fun w => X w + sumr (fun i => w (sq i)) 0 j) := (hW1.turn (s := sq j) (v := 0) hin (by omega)).put epl hR
      have hM2 : CX M0 (mPut (wI M1 6 (sq j) 4 (nI 0)) (pl (sq j)) (sq j)) (spPut (sw V1 28 (sq j) 0) (pl (sq j)) (sq j)) p := by
        refine ⟨CM_put (CM_sort hM1.1 (Or.inr (Or.inl ⟨rfl, rfl⟩))) epl hlive.1 (hc _ epl) (fun k hk => by have := hc k hk; show V1 30 k ≤ 300; omega) hno hlive.2 (by rw [sw_at, if_pos ⟨rfl, rfl⟩]), mPut_KP (hM1.2.wI (by omega))⟩
      have k41 : Wn 41 [some v9, some (oR 3 o), some (vI j), some (oR 6 (sq j))] [] (mPut (wI M1 6 (sq j) 4 (nI 0)) (pl (sq j)) (sq j)) 0 0 := by
        refine ev_at hC (fun pc => pc == 7) 9 41 (ls := [some v9, some (oR 3 o), some (vI j), some (oR 6 (sq j))]) ?_
        try simp only [↓cb_X9_takeBack_0, ↓cb_X9_takeBack_7, ↓cb_X9_takeBack_41, ↓cb_X9_takeBack_47, ↓te_aload, ↓te_astore, ↓te_bin, ↓te_callV, ↓te_const, ↓te_getI, ↓te_getP, ↓te_goto, ↓te_if, ↓te_ifnull, ↓te_iinc, ↓te_iload, ↓te_istore, ↓te_putZ, ↓te_vret, ↓evb_c, ↓evb_n, ↓evk_ap, ↓evm_cut, ↓evm_go, ↓evm_0, ↓jret_v, ↓jret_n, jget, jset, cond_true, cond_false, Nat.reduceBEq, jc1, List.take_succ_cons, List.take_zero, List.drop_succ_cons, List.drop_zero, List.reverse_cons, List.reverse_nil, List.nil_append, List.cons_append, List.length_cons, List.length_nil, Nat.zero_add, Nat.reduceAdd, beq_self_eq_true, true_and, and_true, Nat.reduceLeDiff, Nat.le_refl, Nat.zero_le, Bool.or_true, Bool.true_or, Bool.or_false, Bool.false_or, Bool.or_self]
        try simp (disch := omega) only [Nat.reduceEqDiff, Prod.mk.injEq, Option.some.injEq, true_and, and_true, exists_eq_left', exists_eq_right, exists_and_left, exists_const, true_or, or_true, ne_eq, not_true_eq_false, not_false_eq_true, reduceCtorEq, false_and, and_false, if_true, if_false, forall_const, true_implies, false_implies, implies_true, qI_wI, qI_wP, qP_wI, qP_wP, qN_wI, qN_wP, and_self, nI_add, pk_mul, nI_clamp, vp_in_nI, ng_1, ng_10, nI_eq32, cs_0, cs_1, cs_2, cs_3, cs_4, cs_5, cs_6, cs_7, cs_8, cs_9, cs_10, cs_11, cs_12, cs_13, cs_14, cs_15, cs_16, cs_17, cs_18, cs_19, cs_20, cs_21, cs_22, cs_23, cs_24, cs_25, cs_26, cs_27, cs_28, cs_29, cs_30, cs_31, cs_32, cs_33, cs_34, cs_35, cs_36, cs_37, cs_38, cs_39, cs_40, cs_41, cs_42, cs_43, cs_44, cs_45, cs_46, cs_47, cs_48, cs_49, cs_50, cs_51, cs_52, cs_53, cs_54, cs_55, cs_56, cs_57, cs_58, cs_59, cs_60, cs_61, cs_62, cs_63, cs_64, cs_97, cs_100, cs_122, cs_200, cs_300, cs_448, cs_1000, al_11, al_12, al_13, al_14, al_15, al_16, al_17, al_18, al_19, al_20, al_21, al_22, al_23, al_24, al_25, al_26, al_27, al_28, al_29, al_30, al_31, al_32, al_33, al_34, al_35, al_36, al_37, al_38, al_39, al_40, al_41, al_42, al_43, al_44, al_45, al_46, al_47]
        try rw [show nI j + -1 = nI (j + 4294967295) by rw [← nI_add, ← ng_1]; rfl]
        refine ih _ _ _ (by omega) hM2 ?_ (fun i hi => ?_) (fun i hi => ?_) hW2 hQ1
        · rw [mPut_I, if_neg (by omega), if_neg (by omega), qI_wI, if_neg (by omega)]; exact d6
        · rw [mPut_P, if_neg (by omega), if_neg (by omega), if_neg (by omega), qP_wI]; exact d16 i hi
        · rw [mPut_P, if_neg (by omega), if_neg (by omega), qP_wI]
          by_cases e : sq i = sq j
          · rw [if_pos ⟨rfl, e, rfl⟩, e]
          · rw [if_neg (fun q => e q.2.1)]
            exact d66 i hi
      refine ev_at hC (fun pc => pc == 7 || pc == 41 || pc == 47) 9 7 (ls := [some v9, some (oR 3 o), some (vI j), x3]) ?_
      try simp only [↓cb_X9_takeBack_0, ↓cb_X9_takeBack_7, ↓cb_X9_takeBack_41, ↓cb_X9_takeBack_47, ↓te_aload, ↓te_astore, ↓te_bin, ↓te_callV, ↓te_const, ↓te_getI, ↓te_getP, ↓te_goto, ↓te_if, ↓te_ifnull, ↓te_iinc, ↓te_iload, ↓te_istore, ↓te_putZ, ↓te_vret, ↓evb_c, ↓evb_n, ↓evk_ap, ↓evm_cut, ↓evm_go, ↓evm_0, ↓jret_v, ↓jret_n, jget, jset, cond_true, cond_false, Nat.reduceBEq, jc1, List.take_succ_cons, List.take_zero, List.drop_succ_cons, List.drop_zero, List.reverse_cons, List.reverse_nil, List.nil_append, List.cons_append, List.length_cons, List.length_nil, Nat.zero_add, Nat.reduceAdd, beq_self_eq_true, true_and, and_true, Nat.reduceLeDiff, Nat.le_refl, Nat.zero_le, Bool.or_true, Bool.true_or, Bool.or_false, Bool.false_or, Bool.or_self]
      try simp (disch := omega) only [Nat.reduceEqDiff, Prod.mk.injEq, Option.some.injEq, true_and, and_true, exists_eq_left', exists_eq_right, exists_and_left, exists_const, true_or, or_true, ne_eq, not_true_eq_false, not_false_eq_true, reduceCtorEq, false_and, and_false, if_true, if_false, forall_const, true_implies, false_implies, implies_true, qI_wI, qI_wP, qP_wI, qP_wP, qN_wI, qN_wP, and_self, nI_add, pk_mul, nI_clamp, vp_in_nI, ng_1, ng_10, nI_eq32, cs_0, cs_1, cs_2, cs_3, cs_4, cs_5, cs_6, cs_7, cs_8, cs_9, cs_10, cs_11, cs_12, cs_13, cs_14, cs_15, cs_16, cs_17, cs_18, cs_19, cs_20, cs_21, cs_22, cs_23, cs_24, cs_25, cs_26, cs_27, cs_28, cs_29, cs_30, cs_31, cs_32, cs_33, cs_34, cs_35, cs_36, cs_37, cs_38, cs_39, cs_40, cs_41, cs_42, cs_43, cs_44, cs_45, cs_46, cs_47, cs_48, cs_49, cs_50, cs_51, cs_52, cs_53, cs_54, cs_55, cs_56, cs_57, cs_58, cs_59, cs_60, cs_61, cs_62, cs_63, cs_64, cs_97, cs_100, cs_122, cs_200, cs_300, cs_448, cs_1000, al_11, al_12, al_13, al_14, al_15, al_16, al_17, al_18, al_19, al_20, al_21, al_22, al_23, al_24, al_25, al_26, al_27, al_28, al_29, al_30, al_31, al_32, al_33, al_34, al_35, al_36, al_37, al_38, al_39, al_40, al_41, al_42, al_43, al_44, al_45, al_46, al_47, nI_ltI]
      refine ⟨fun h9 => absurd h9 (by omega), fun _ => ?_⟩
      refine cc_lsort_raw G hA1 ho d6 hm (by omega) e16 ?_
      try simp only [↓cb_X9_takeBack_0, ↓cb_X9_takeBack_7, ↓cb_X9_takeBack_41, ↓cb_X9_takeBack_47, ↓te_aload, ↓te_astore, ↓te_bin, ↓te_callV, ↓te_const, ↓te_getI, ↓te_getP, ↓te_goto, ↓te_if, ↓te_ifnull, ↓te_iinc, ↓te_iload, ↓te_istore, ↓te_putZ, ↓te_vret, ↓evb_c, ↓evb_n, ↓evk_ap, ↓evm_cut, ↓evm_go, ↓evm_0, ↓jret_v, ↓jret_n, jget, jset, cond_true, cond_false, Nat.reduceBEq, jc1, List.take_succ_cons, List.take_zero, List.drop_succ_cons, List.drop_zero, List.reverse_cons, List.reverse_nil, List.nil_append, List.cons_append, List.length_cons, List.length_nil, Nat.zero_add, Nat.reduceAdd, beq_self_eq_true, true_and, and_true, Nat.reduceLeDiff, Nat.le_refl, Nat.zero_le, Bool.or_true, Bool.true_or, Bool.or_false, Bool.false_or, Bool.or_self]
      try simp (disch := omega) only [Nat.reduceEqDiff, Prod.mk.injEq, Option.some.injEq, true_and, and_true, exists_eq_left', exists_eq_right, exists_and_left, exists_const, true_or, or_true, ne_eq, not_true_eq_false, not_false_eq_true, reduceCtorEq, false_and, and_false, if_true, if_false, forall_const, true_implies, false_implies, implies_true, qI_wI, qI_wP, qP_wI, qP_wP, qN_wI, qN_wP, and_self, nI_add, pk_mul, nI_clamp, vp_in_nI, ng_1, ng_10, nI_eq32, cs_0, cs_1, cs_2, cs_3, cs_4, cs_5, cs_6, cs_7, cs_8, cs_9, cs_10, cs_11, cs_12, cs_13, cs_14, cs_15, cs_16, cs_17, cs_18, cs_19, cs_20, cs_21, cs_22, cs_23, cs_24, cs_25, cs_26, cs_27, cs_28, cs_29, cs_30, cs_31, cs_32, cs_33, cs_34, cs_35, cs_36, cs_37, cs_38, cs_39, cs_40, cs_41, cs_42, cs_43, cs_44, cs_45, cs_46, cs_47, cs_48, cs_49, cs_50, cs_51, cs_52, cs_53, cs_54, cs_55, cs_56, cs_57, cs_58, cs_59, cs_60, cs_61, cs_62, cs_63, cs_64, cs_97, cs_100, cs_122, cs_200, cs_300, cs_448, cs_1000, al_11, al_12, al_13, al_14, al_15, al_16, al_17, al_18, al_19, al_20, al_21, al_22, al_23, al_24, al_25, al_26, al_27, al_28, al_29, al_30, al_31, al_32, al_33, al_34, al_35, al_36, al_37, al_38, al_39, al_40, al_41, al_42, al_43, al_44, al_45, al_46, al_47, e66]
      have put : ∀ K, K (.inl none) (mPut (wI M1 6 (sq j) 4 (nI 0)) (pl (sq j)) (sq j)) → Mt G m_X4_put [oR 4 (pl (sq j)), oR 6 (sq j)] (wI M1 6 (sq j) 4 (nI 0)) K := fun K hK => cc_put G hK
      first
        | refine put _ ?_
        | (refine ⟨fun z => absurd z (by simp), fun _ => ?_⟩; refine put _ ?_)
        | (refine ⟨fun z => absurd z (by simp), fun _ => ⟨fun z => absurd z (by simp), fun _ => ?_⟩⟩; refine put _ ?_)
      try simp only [↓cb_X9_takeBack_0, ↓cb_X9_takeBack_7, ↓cb_X9_takeBack_41, ↓cb_X9_takeBack_47, ↓te_aload, ↓te_astore, ↓te_bin, ↓te_callV, ↓te_const, ↓te_getI, ↓te_getP, ↓te_goto, ↓te_if, ↓te_ifnull, ↓te_iinc, ↓te_iload, ↓te_istore, ↓te_putZ, ↓te_vret, ↓evb_c, ↓evb_n, ↓evk_ap, ↓evm_cut, ↓evm_go, ↓evm_0, ↓jret_v, ↓jret_n, jget, jset, cond_true, cond_false, Nat.reduceBEq, jc1, List.take_succ_cons, List.take_zero, List.drop_succ_cons, List.drop_zero, List.reverse_cons, List.reverse_nil, List.nil_append, List.cons_append, List.length_cons, List.length_nil, Nat.zero_add, Nat.reduceAdd, beq_self_eq_true, true_and, and_true, Nat.reduceLeDiff, Nat.le_refl, Nat.zero_le, Bool.or_true, Bool.true_or, Bool.or_false, Bool.false_or, Bool.or_self]
      exact k41
  refine ev_at hC (fun pc => pc == 7) 9 0 (ls := [some v9, some (oR 3 o), none, none]) ?_
  try simp only [↓cb_X9_takeBack_0, ↓cb_X9_takeBack_7, ↓cb_X9_takeBack_41, ↓cb_X9_takeBack_47, ↓te_aload, ↓te_astore, ↓te_bin, ↓te_callV, ↓te_const, ↓te_getI, ↓te_getP, ↓te_goto, ↓te_if, ↓te_ifnull, ↓te_iinc, ↓te_iload, ↓te_istore, ↓te_putZ, ↓te_vret, ↓evb_c, ↓evb_n, ↓evk_ap, ↓evm_cut, ↓evm_go, ↓evm_0, ↓jret_v, ↓jret_n, jget, jset, cond_true, cond_false, Nat.reduceBEq, jc1, List.take_succ_cons, List.take_zero, List.drop_succ_cons, List.drop_zero, List.reverse_cons, List.reverse_nil, List.nil_append, List.cons_append, List.length_cons, List.length_nil, Nat.zero_add, Nat.reduceAdd, beq_self_eq_true, true_and, and_true, Nat.reduceLeDiff, Nat.le_refl, Nat.zero_le, Bool.or_true, Bool.true_or, Bool.or_false, Bool.false_or, Bool.or_self]
  try simp (disch := omega) only [Nat.reduceEqDiff, Prod.mk.injEq, Option.some.injEq, true_and, and_true, exists_eq_left', exists_eq_right, exists_and_left, exists_const, true_or, or_true, ne_eq, not_true_eq_false, not_false_eq_true, reduceCtorEq, false_and, and_false, if_true, if_false, forall_const, true_implies, false_implies, implies_true, qI_wI, qI_wP, qP_wI, qP_wP, qN_wI, qN_wP, and_self, nI_add, pk_mul, nI_clamp, vp_in_nI, ng_1, ng_10, nI_eq32, cs_0, cs_1, cs_2, cs_3, cs_4, cs_5, cs_6, cs_7, cs_8, cs_9, cs_10, cs_11, cs_12, cs_13, cs_14, cs_15, cs_16, cs_17, cs_18, cs_19, cs_20, cs_21, cs_22, cs_23, cs_24, cs_25, cs_26, cs_27, cs_28, cs_29, cs_30, cs_31, cs_32, cs_33, cs_34, cs_35, cs_36, cs_37, cs_38, cs_39, cs_40, cs_41, cs_42, cs_43, cs_44, cs_45, cs_46, cs_47, cs_48, cs_49, cs_50, cs_51, cs_52, cs_53, cs_54, cs_55, cs_56, cs_57, cs_58, cs_59, cs_60, cs_61, cs_62, cs_63, cs_64, cs_97, cs_100, cs_122, cs_200, cs_300, cs_448, cs_1000, al_11, al_12, al_13, al_14, al_15, al_16, al_17, al_18, al_19, al_20, al_21, al_22, al_23, al_24, al_25, al_26, al_27, al_28, al_29, al_30, al_31, al_32, al_33, al_34, al_35, al_36, al_37, al_38, al_39, al_40, al_41, al_42, al_43, al_44, al_45, al_46, al_47, h6]
  rw [show nI m - nI 1 = nI (m + 4294967295) by rw [← nI_add, ← ng_1]; exact Int32.sub_eq_add_neg ..]
  exact key m M V none (Nat.le_refl _) hM h6 h16 h66 hW hQ

