/-! THE LAW: its start and its loop -/
theorem CM.ext2 {M M' : jx_M} {S : jS} {p : Nat → Nat} (h : CM M S p) (hI : ∀ r i k, r < 25 → ¬ r = 10 → qI M' r i k = qI M r i k ∧ qP M' r i k = qP M r i k) (hN : qN M' 6 = qN M 6) : CM M' S p := by
  obtain ⟨hB, hT, hS, hF, hH, hPr, hO, hK, hL⟩ := h
  have i : ∀ r, r < 25 → ¬ r = 10 → sI M M' r := fun r h1 h2 j k => (hI r j k h1 h2).1
  have q : ∀ r, r < 25 → ¬ r = 10 → sP M M' r := fun r h1 h2 j k => (hI r j k h1 h2).2
  exact ⟨hB.fr (fun k => q 9 (by omega) (by omega) 0 k) (fun k _ => i 9 (by omega) (by omega) 0 k) (q 7 (by omega) (by omega)) (q 8 (by omega) (by omega)) (q 2 (by omega) (by omega)) (q 5 (by omega) (by omega)) hN rfl rfl rfl rfl, hT.fr (i 8 (by omega) (by omega)) (i 21 (by omega) (by omega)) rfl (fun _ _ => rfl), hS.fr (i 24 (by omega) (by omega)) (fun _ => rfl), hF.fr (q 14 (by omega) (by omega)) (i 1 (by omega) (by omega)) (fun _ _ => rfl) (fun _ _ => rfl), hH.fr (i 2 (by omega) (by omega)) (q 22 (by omega) (by omega)) rfl (fun _ _ => rfl), hPr.fr (i 5 (by omega) (by omega)) (i 23 (by omega) (by omega)) rfl (fun _ _ => rfl), hO.fr (q 12 (by omega) (by omega)) (i 6 (by omega) (by omega)) rfl (fun _ _ _ _ => rfl), hK.fr (q 11 (by omega) (by omega)) (i 4 (by omega) (by omega)) (q 4 (by omega) (by omega)) (fun _ _ _ _ => ⟨q 6 (by omega) (by omega) _ _, q 6 (by omega) (by omega) _ _⟩) rfl (fun _ _ => rfl) (fun _ _ _ _ => rfl) (fun _ _ => rfl) (fun _ _ => Iff.rfl), hL.fr (i 3 (by omega) (by omega)) (q 3 (by omega) (by omega)) (q 13 (by omega) (by omega)) (q 16 (by omega) (by omega)) (i 17 (by omega) (by omega)) (i 18 (by omega) (by omega)) (i 19 (by omega) (by omega)) (i 20 (by omega) (by omega)) (fun _ => q 6 (by omega) (by omega) _ _) rfl (fun _ _ _ => rfl)⟩
theorem S00_at (a b : Nat) : S00 a b = if a = 10 ∧ b = 13 then 60 else 0 := rfl
theorem S00_0 {a b : Nat} (h : ¬ (a = 10 ∧ b = 13)) : S00 a b = 0 := if_neg h
theorem Wf_00 : Wf S00 := by
  have e13 : S00 10 13 = 60 := rfl
  have z : ∀ a b, ¬ (a = 10 ∧ b = 13) → S00 a b = 0 := fun a b h => S00_0 h
  refine ⟨⟨⟨⟨?_, ?_, ?_, ?_, ?_, ?_, ?_⟩, ⟨?_, fun k => ?_, fun k hk => ?_⟩, fun s => ?_, fun s => ?_, fun s => ?_, fun k => ?_, fun k => ?_, fun k => ?_, fun k hk => ?_⟩, ⟨fun k i hk hi => ?_, fun i hi => ?_⟩, fun w => ?_⟩, fun l k hl hk => ?_, fun l hl => ?_, fun a b c h1 h2 h3 h4 h5 => ?_⟩
  · rw [z 10 1 (by omega)]; omega
  · rw [z 10 14 (by omega)]; omega
  · rw [z 10 24 (by omega)]; omega
  · rw [z 10 28 (by omega)]; omega
  · rw [e13]; omega
  · rw [e13]; omega
  · exact z 32 5 (by omega)
  · rw [z 10 12 (by omega)]; omega
  · rw [z 33 k (by omega)]; omega
  · rw [z 10 12 (by omega)] at hk; omega
  · rw [z 25 s (by omega)]; omega
  · rw [z 27 s (by omega)]; omega
  · rw [z 28 s (by omega)]; omega
  · rw [z 41 k (by omega)]; omega
  · rw [z 45 k (by omega)]; omega
  · rw [z 43 k (by omega)]; omega
  · exact z 43 k (by omega)
  · rw [z 30 k (by omega)] at hi; omega
  · rw [z 10 9 (by omega)] at hi; omega
  · have p1 : pws S00 w = 0 := sumr_0 _ (fun k _ => by unfold pw; rw [z 30 k (by omega)]; rfl)
    have p2 : hws S00 w = 0 := by unfold hws; rw [z 10 9 (by omega)]; rfl
    have p3 : lvs S00 w = 0 := by unfold lvs; rw [z 10 1 (by omega)]; rfl
    have p4 : lws S00 w (S00 10 14) = 0 := by rw [z 10 14 (by omega)]; rfl
    rw [p1, p2, p3]
    show 0 + 0 + lws S00 w (S00 10 14) = 0
    rw [p4]
  · rw [z 10 14 (by omega)] at hl; omega
  · rw [z 10 14 (by omega)] at hl; omega
  · rw [z 10 14 (by omega)] at h3; omega
theorem W0_00 : W0 S00 := fun s _ => S00_0 (by omega)
set_option maxRecDepth 20000 in
set_option maxHeartbeats 20000000 in
theorem law_loop (G : jx_G) (hst : (gl G).stackTraces = false) {Q : jx_O → jx_M → Prop} {Wn : jx_J} (hC : Cl (cd_L_law G) Q Wn) (hL : gL G ≤ 2048) : ∀ (d i : Nat) (M : jx_M) (x5 x6 : Option jx_V) (cu su : Nat), gL G + 4 ≤ i + 4 * d → i ≤ gL G + 4 → LI M → cu ≤ 173 + 10 * i → su ≤ 33294 + 90 * i → Wn 23 [some v50, some v9, some vm, some v47, some (vI i), x5, x6] [] M cu su := by
  intro d
  have k1831 : ∀ (i : Nat) (M : jx_M) (x5 x6 : Option jx_V) (cu su : Nat), cu ≤ 728160 → su ≤ 6911624 → Wn 1831 [some v50, some v9, some vm, some v47, some (vI i), x5, x6] [] M cu su := by
    intro i M x5 x6 cu su h1 h2
    refine ev_at hC (fun pc => false) 9 1831 (ls := [some v50, some v9, some vm, some v47, some (vI i), x5, x6]) ?_
    try simp only [↓cb_L_law_0, ↓cb_L_law_23, ↓cb_L_law_164, ↓cb_L_law_224, ↓cb_L_law_241, ↓cb_L_law_244, ↓cb_L_law_292, ↓cb_L_law_309, ↓cb_L_law_312, ↓cb_L_law_350, ↓cb_L_law_367, ↓cb_L_law_370, ↓cb_L_law_383, ↓cb_L_law_419, ↓cb_L_law_436, ↓cb_L_law_439, ↓cb_L_law_459, ↓cb_L_law_460, ↓cb_L_law_486, ↓cb_L_law_487, ↓cb_L_law_503, ↓cb_L_law_520, ↓cb_L_law_523, ↓cb_L_law_571, ↓cb_L_law_588, ↓cb_L_law_591, ↓cb_L_law_627, ↓cb_L_law_644, ↓cb_L_law_647, ↓cb_L_law_707, ↓cb_L_law_724, ↓cb_L_law_727, ↓cb_L_law_763, ↓cb_L_law_780, ↓cb_L_law_783, ↓cb_L_law_831, ↓cb_L_law_848, ↓cb_L_law_851, ↓cb_L_law_887, ↓cb_L_law_904, ↓cb_L_law_907, ↓cb_L_law_943, ↓cb_L_law_960, ↓cb_L_law_963, ↓cb_L_law_999, ↓cb_L_law_1016, ↓cb_L_law_1019, ↓cb_L_law_1067, ↓cb_L_law_1084, ↓cb_L_law_1087, ↓cb_L_law_1135, ↓cb_L_law_1152, ↓cb_L_law_1155, ↓cb_L_law_1191, ↓cb_L_law_1208, ↓cb_L_law_1211, ↓cb_L_law_1259, ↓cb_L_law_1276, ↓cb_L_law_1279, ↓cb_L_law_1292, ↓cb_L_law_1340, ↓cb_L_law_1357, ↓cb_L_law_1360, ↓cb_L_law_1408, ↓cb_L_law_1425, ↓cb_L_law_1428, ↓cb_L_law_1476, ↓cb_L_law_1493, ↓cb_L_law_1496, ↓cb_L_law_1544, ↓cb_L_law_1561, ↓cb_L_law_1564, ↓cb_L_law_1600, ↓cb_L_law_1617, ↓cb_L_law_1620, ↓cb_L_law_1633, ↓cb_L_law_1681, ↓cb_L_law_1698, ↓cb_L_law_1701, ↓cb_L_law_1749, ↓cb_L_law_1766, ↓cb_L_law_1769, ↓cb_L_law_1805, ↓cb_L_law_1822, ↓cb_L_law_1825, ↓cb_L_law_1831, ↓te_aldJ, ↓te_aload, ↓te_astore, ↓te_bin, ↓te_callH, ↓te_callV, ↓te_const, ↓te_dup, ↓te_goto, ↓te_i2c, ↓te_i2l, ↓te_icmp, ↓te_if, ↓te_iinc, ↓te_iload, ↓te_istore, ↓te_lcmp, ↓te_ldX, ↓te_lenX, ↓te_lret, ↓te_new, ↓te_newa, ↓te_tsw, ↓evb_c, ↓evb_n, ↓evk_ap, ↓evm_cut, ↓evm_go, ↓evm_0, ↓jret_v, ↓jret_n, ↓jretX_v, ↓jretX_n, jget, jset, cond_true, cond_false, Nat.reduceBEq, jc1, List.take_succ_cons, List.take_zero, List.drop_succ_cons, List.drop_zero, List.reverse_cons, List.reverse_nil, List.nil_append, List.cons_append, List.length_cons, List.length_nil, Nat.zero_add, Nat.reduceAdd, beq_self_eq_true, true_and, and_true, Nat.reduceLeDiff, Nat.le_refl, Nat.zero_le, Bool.or_true, Bool.true_or, Bool.or_false, Bool.false_or, Bool.or_self]
    first
      | exact ⟨h1, h2, rfl⟩
      | exact ⟨h1, h2, trivial⟩
      | exact ⟨h1, h2⟩
  have hend : ∀ i, gL G < i + 4 → i ≤ gL G + 4 → nI (gL G) - nI 4 < nI i := by
    intro i h1 h2
    by_cases c : 4 ≤ gL G
    · rw [pk_sub c, nI_ltI (by omega) (by omega)]; omega
    · exact Int32.lt_of_lt_of_le (pk_sneg (by omega) (by omega)) (nI_le (Nat.zero_le _) (by omega))
  have hgo : ∀ i, i + 4 ≤ gL G → ¬ nI (gL G) - nI 4 < nI i := by
    intro i h1
    rw [pk_sub (by omega), nI_ltI (by omega) (by omega)]; omega
  induction d with
  | zero =>
    intro i M x5 x6 cu su h1 h2 h3 h4 h5
    have g := k1831 i M x5 x6 cu su (by omega) (by omega)
    refine ev_at hC (fun pc => pc == 1831) 9 23 (ls := [some v50, some v9, some vm, some v47, some (vI i), x5, x6]) ?_
    try simp only [↓cb_L_law_0, ↓cb_L_law_23, ↓cb_L_law_164, ↓cb_L_law_224, ↓cb_L_law_241, ↓cb_L_law_244, ↓cb_L_law_292, ↓cb_L_law_309, ↓cb_L_law_312, ↓cb_L_law_350, ↓cb_L_law_367, ↓cb_L_law_370, ↓cb_L_law_383, ↓cb_L_law_419, ↓cb_L_law_436, ↓cb_L_law_439, ↓cb_L_law_459, ↓cb_L_law_460, ↓cb_L_law_486, ↓cb_L_law_487, ↓cb_L_law_503, ↓cb_L_law_520, ↓cb_L_law_523, ↓cb_L_law_571, ↓cb_L_law_588, ↓cb_L_law_591, ↓cb_L_law_627, ↓cb_L_law_644, ↓cb_L_law_647, ↓cb_L_law_707, ↓cb_L_law_724, ↓cb_L_law_727, ↓cb_L_law_763, ↓cb_L_law_780, ↓cb_L_law_783, ↓cb_L_law_831, ↓cb_L_law_848, ↓cb_L_law_851, ↓cb_L_law_887, ↓cb_L_law_904, ↓cb_L_law_907, ↓cb_L_law_943, ↓cb_L_law_960, ↓cb_L_law_963, ↓cb_L_law_999, ↓cb_L_law_1016, ↓cb_L_law_1019, ↓cb_L_law_1067, ↓cb_L_law_1084, ↓cb_L_law_1087, ↓cb_L_law_1135, ↓cb_L_law_1152, ↓cb_L_law_1155, ↓cb_L_law_1191, ↓cb_L_law_1208, ↓cb_L_law_1211, ↓cb_L_law_1259, ↓cb_L_law_1276, ↓cb_L_law_1279, ↓cb_L_law_1292, ↓cb_L_law_1340, ↓cb_L_law_1357, ↓cb_L_law_1360, ↓cb_L_law_1408, ↓cb_L_law_1425, ↓cb_L_law_1428, ↓cb_L_law_1476, ↓cb_L_law_1493, ↓cb_L_law_1496, ↓cb_L_law_1544, ↓cb_L_law_1561, ↓cb_L_law_1564, ↓cb_L_law_1600, ↓cb_L_law_1617, ↓cb_L_law_1620, ↓cb_L_law_1633, ↓cb_L_law_1681, ↓cb_L_law_1698, ↓cb_L_law_1701, ↓cb_L_law_1749, ↓cb_L_law_1766, ↓cb_L_law_1769, ↓cb_L_law_1805, ↓cb_L_law_1822, ↓cb_L_law_1825, ↓cb_L_law_1831, ↓te_aldJ, ↓te_aload, ↓te_astore, ↓te_bin, ↓te_callH, ↓te_callV, ↓te_const, ↓te_dup, ↓te_goto, ↓te_i2c, ↓te_i2l, ↓te_icmp, ↓te_if, ↓te_iinc, ↓te_iload, ↓te_istore, ↓te_lcmp, ↓te_ldX, ↓te_lenX, ↓te_lret, ↓te_new, ↓te_newa, ↓te_tsw, ↓evb_c, ↓evb_n, ↓evk_ap, ↓evm_cut, ↓evm_go, ↓evm_0, ↓jret_v, ↓jret_n, ↓jretX_v, ↓jretX_n, jget, jset, cond_true, cond_false, Nat.reduceBEq, jc1, List.take_succ_cons, List.take_zero, List.drop_succ_cons, List.drop_zero, List.reverse_cons, List.reverse_nil, List.nil_append, List.cons_append, List.length_cons, List.length_nil, Nat.zero_add, Nat.reduceAdd, beq_self_eq_true, true_and, and_true, Nat.reduceLeDiff, Nat.le_refl, Nat.zero_le, Bool.or_true, Bool.true_or, Bool.or_false, Bool.false_or, Bool.or_self]
    exact ⟨fun _ => g, fun z => absurd (hend i (by omega) (by omega)) z⟩
  | succ d ih =>
    intro i M x5 x6 cu su h1 h2 h3 h4 h5
    have k1825 : ∀ (M' : jx_M) (x5 x6 : Option jx_V) (cu' su' : Nat), i + 4 ≤ gL G → LI M' → cu' ≤ cu + 40 → su' ≤ su + 360 → Wn 1825 [some v50, some v9, some vm, some v47, some (vI i), x5, x6] [] M' cu' su' := by
      intro M' x5 x6 cu' su' q0 q1 q2 q3
      refine ev_at hC (fun pc => pc == 23) 9 1825 (ls := [some v50, some v9, some vm, some v47, some (vI i), x5, x6]) ?_
      try simp only [↓cb_L_law_0, ↓cb_L_law_23, ↓cb_L_law_164, ↓cb_L_law_224, ↓cb_L_law_241, ↓cb_L_law_244, ↓cb_L_law_292, ↓cb_L_law_309, ↓cb_L_law_312, ↓cb_L_law_350, ↓cb_L_law_367, ↓cb_L_law_370, ↓cb_L_law_383, ↓cb_L_law_419, ↓cb_L_law_436, ↓cb_L_law_439, ↓cb_L_law_459, ↓cb_L_law_460, ↓cb_L_law_486, ↓cb_L_law_487, ↓cb_L_law_503, ↓cb_L_law_520, ↓cb_L_law_523, ↓cb_L_law_571, ↓cb_L_law_588, ↓cb_L_law_591, ↓cb_L_law_627, ↓cb_L_law_644, ↓cb_L_law_647, ↓cb_L_law_707, ↓cb_L_law_724, ↓cb_L_law_727, ↓cb_L_law_763, ↓cb_L_law_780, ↓cb_L_law_783, ↓cb_L_law_831, ↓cb_L_law_848, ↓cb_L_law_851, ↓cb_L_law_887, ↓cb_L_law_904, ↓cb_L_law_907, ↓cb_L_law_943, ↓cb_L_law_960, ↓cb_L_law_963, ↓cb_L_law_999, ↓cb_L_law_1016, ↓cb_L_law_1019, ↓cb_L_law_1067, ↓cb_L_law_1084, ↓cb_L_law_1087, ↓cb_L_law_1135, ↓cb_L_law_1152, ↓cb_L_law_1155, ↓cb_L_law_1191, ↓cb_L_law_1208, ↓cb_L_law_1211, ↓cb_L_law_1259, ↓cb_L_law_1276, ↓cb_L_law_1279, ↓cb_L_law_1292, ↓cb_L_law_1340, ↓cb_L_law_1357, ↓cb_L_law_1360, ↓cb_L_law_1408, ↓cb_L_law_1425, ↓cb_L_law_1428, ↓cb_L_law_1476, ↓cb_L_law_1493, ↓cb_L_law_1496, ↓cb_L_law_1544, ↓cb_L_law_1561, ↓cb_L_law_1564, ↓cb_L_law_1600, ↓cb_L_law_1617, ↓cb_L_law_1620, ↓cb_L_law_1633, ↓cb_L_law_1681, ↓cb_L_law_1698, ↓cb_L_law_1701, ↓cb_L_law_1749, ↓cb_L_law_1766, ↓cb_L_law_1769, ↓cb_L_law_1805, ↓cb_L_law_1822, ↓cb_L_law_1825, ↓cb_L_law_1831, ↓te_aldJ, ↓te_aload, ↓te_astore, ↓te_bin, ↓te_callH, ↓te_callV, ↓te_const, ↓te_dup, ↓te_goto, ↓te_i2c, ↓te_i2l, ↓te_icmp, ↓te_if, ↓te_iinc, ↓te_iload, ↓te_istore, ↓te_lcmp, ↓te_ldX, ↓te_lenX, ↓te_lret, ↓te_new, ↓te_newa, ↓te_tsw, ↓evb_c, ↓evb_n, ↓evk_ap, ↓evm_cut, ↓evm_go, ↓evm_0, ↓jret_v, ↓jret_n, ↓jretX_v, ↓jretX_n, jget, jset, cond_true, cond_false, Nat.reduceBEq, jc1, List.take_succ_cons, List.take_zero, List.drop_succ_cons, List.drop_zero, List.reverse_cons, List.reverse_nil, List.nil_append, List.cons_append, List.length_cons, List.length_nil, Nat.zero_add, Nat.reduceAdd, beq_self_eq_true, true_and, and_true, Nat.reduceLeDiff, Nat.le_refl, Nat.zero_le, Bool.or_true, Bool.true_or, Bool.or_false, Bool.false_or, Bool.or_self]
      try simp (disch := omega) only [Nat.reduceEqDiff, Prod.mk.injEq, Option.some.injEq, true_and, and_true, exists_eq_left', exists_eq_right, exists_and_left, exists_const, true_or, or_true, ne_eq, not_true_eq_false, not_false_eq_true, reduceCtorEq, false_and, and_false, if_true, if_false, forall_const, true_implies, false_implies, implies_true, qI_wI, qI_wP, qP_wI, qP_wP, qN_wI, qN_wP, and_self, nI_add, pk_mul, nI_clamp, vp_in_nI, ng_1, ng_10, nI_eq32, cs_0, cs_1, cs_2, cs_3, cs_4, cs_5, cs_6, cs_7, cs_8, cs_9, cs_10, cs_11, cs_12, cs_13, cs_14, cs_15, cs_16, cs_17, cs_18, cs_19, cs_20, cs_21, cs_22, cs_23, cs_24, cs_25, cs_26, cs_27, cs_28, cs_29, cs_30, cs_31, cs_32, cs_33, cs_34, cs_35, cs_36, cs_37, cs_38, cs_39, cs_40, cs_41, cs_42, cs_43, cs_44, cs_45, cs_46, cs_47, cs_48, cs_49, cs_50, cs_51, cs_52, cs_53, cs_54, cs_55, cs_56, cs_57, cs_58, cs_59, cs_60, cs_61, cs_62, cs_63, cs_64, cs_97, cs_100, cs_122, cs_200, cs_300, cs_448, cs_1000, al_11, al_12, al_13, al_14, al_15, al_16, al_17, al_18, al_19, al_20, al_21, al_22, al_23, al_24, al_25, al_26, al_27, al_28, al_29, al_30, al_31, al_32, al_33, al_34, al_35, al_36, al_37, al_38, al_39, al_40, al_41, al_42, al_43, al_44, al_45, al_46, al_47]
      exact ih (i + 4) M' x5 x6 cu' su' (by omega) (by omega) q1 (by omega) (by omega)
    by_cases c : i + 4 ≤ gL G
    · have v0 : vp_in (nI i) (gL G) := vp_in_nI (by omega) (by omega)
      have nx := fun M' x5 x6 cu' su' (q1 : LI M') (q2 : cu' ≤ cu + 40) (q3 : su' ≤ su + 360) => k1825 M' x5 x6 cu' su' c q1 q2 q3
      refine ev_at hC (fun pc => pc == 1831 || pc == 1825 || pc == 164 || pc == 244 || pc == 312 || pc == 370 || pc == 383 || pc == 439 || pc == 523 || pc == 591 || pc == 647 || pc == 727 || pc == 783 || pc == 851 || pc == 907 || pc == 963 || pc == 1019 || pc == 1087 || pc == 1155 || pc == 1211 || pc == 1279 || pc == 1292 || pc == 1360 || pc == 1428 || pc == 1496 || pc == 1564 || pc == 1620 || pc == 1633 || pc == 1701 || pc == 1769) 9 23 (ls := [some v50, some v9, some vm, some v47, some (vI i), x5, x6]) ?_
      try simp only [↓cb_L_law_0, ↓cb_L_law_23, ↓cb_L_law_164, ↓cb_L_law_224, ↓cb_L_law_241, ↓cb_L_law_244, ↓cb_L_law_292, ↓cb_L_law_309, ↓cb_L_law_312, ↓cb_L_law_350, ↓cb_L_law_367, ↓cb_L_law_370, ↓cb_L_law_383, ↓cb_L_law_419, ↓cb_L_law_436, ↓cb_L_law_439, ↓cb_L_law_459, ↓cb_L_law_460, ↓cb_L_law_486, ↓cb_L_law_487, ↓cb_L_law_503, ↓cb_L_law_520, ↓cb_L_law_523, ↓cb_L_law_571, ↓cb_L_law_588, ↓cb_L_law_591, ↓cb_L_law_627, ↓cb_L_law_644, ↓cb_L_law_647, ↓cb_L_law_707, ↓cb_L_law_724, ↓cb_L_law_727, ↓cb_L_law_763, ↓cb_L_law_780, ↓cb_L_law_783, ↓cb_L_law_831, ↓cb_L_law_848, ↓cb_L_law_851, ↓cb_L_law_887, ↓cb_L_law_904, ↓cb_L_law_907, ↓cb_L_law_943, ↓cb_L_law_960, ↓cb_L_law_963, ↓cb_L_law_999, ↓cb_L_law_1016, ↓cb_L_law_1019, ↓cb_L_law_1067, ↓cb_L_law_1084, ↓cb_L_law_1087, ↓cb_L_law_1135, ↓cb_L_law_1152, ↓cb_L_law_1155, ↓cb_L_law_1191, ↓cb_L_law_1208, ↓cb_L_law_1211, ↓cb_L_law_1259, ↓cb_L_law_1276, ↓cb_L_law_1279, ↓cb_L_law_1292, ↓cb_L_law_1340, ↓cb_L_law_1357, ↓cb_L_law_1360, ↓cb_L_law_1408, ↓cb_L_law_1425, ↓cb_L_law_1428, ↓cb_L_law_1476, ↓cb_L_law_1493, ↓cb_L_law_1496, ↓cb_L_law_1544, ↓cb_L_law_1561, ↓cb_L_law_1564, ↓cb_L_law_1600, ↓cb_L_law_1617, ↓cb_L_law_1620, ↓cb_L_law_1633, ↓cb_L_law_1681, ↓cb_L_law_1698, ↓cb_L_law_1701, ↓cb_L_law_1749, ↓cb_L_law_1766, ↓cb_L_law_1769, ↓cb_L_law_1805, ↓cb_L_law_1822, ↓cb_L_law_1825, ↓cb_L_law_1831, ↓te_aldJ, ↓te_aload, ↓te_astore, ↓te_bin, ↓te_callH, ↓te_callV, ↓te_const, ↓te_dup, ↓te_goto, ↓te_i2c, ↓te_i2l, ↓te_icmp, ↓te_if, ↓te_iinc, ↓te_iload, ↓te_istore, ↓te_lcmp, ↓te_ldX, ↓te_lenX, ↓te_lret, ↓te_new, ↓te_newa, ↓te_tsw, ↓evb_c, ↓evb_n, ↓evk_ap, ↓evm_cut, ↓evm_go, ↓evm_0, ↓jret_v, ↓jret_n, ↓jretX_v, ↓jretX_n, jget, jset, cond_true, cond_false, Nat.reduceBEq, jc1, List.take_succ_cons, List.take_zero, List.drop_succ_cons, List.drop_zero, List.reverse_cons, List.reverse_nil, List.nil_append, List.cons_append, List.length_cons, List.length_nil, Nat.zero_add, Nat.reduceAdd, beq_self_eq_true, true_and, and_true, Nat.reduceLeDiff, Nat.le_refl, Nat.zero_le, Bool.or_true, Bool.true_or, Bool.or_false, Bool.false_or, Bool.or_self]
      refine ⟨fun z => absurd z (hgo i c), fun _ => ⟨v0, ?_⟩⟩
      have cutt : ∀ t, (t == 1831 || t == 1825 || t == 164 || t == 244 || t == 312 || t == 370 || t == 383 || t == 439 || t == 523 || t == 591 || t == 647 || t == 727 || t == 783 || t == 851 || t == 907 || t == 963 || t == 1019 || t == 1087 || t == 1155 || t == 1211 || t == 1279 || t == 1292 || t == 1360 || t == 1428 || t == 1496 || t == 1564 || t == 1620 || t == 1633 || t == 1701 || t == 1769) = true → Wn t [some v50, some v9, some vm, some v47, some (vI i), x5, x6] [] M cu su → evm (cd_L_law G) (fun pc => pc == 1831 || pc == 1825 || pc == 164 || pc == 244 || pc == 312 || pc == 370 || pc == 383 || pc == 439 || pc == 523 || pc == 591 || pc == 647 || pc == 727 || pc == 783 || pc == 851 || pc == 907 || pc == 963 || pc == 1019 || pc == 1087 || pc == 1155 || pc == 1211 || pc == 1279 || pc == 1292 || pc == 1360 || pc == 1428 || pc == 1496 || pc == 1564 || pc == 1620 || pc == 1633 || pc == 1701 || pc == 1769) Q Wn 9 t [some v50, some v9, some vm, some v47, some (vI i), x5, x6] [] M cu su := by
        intro t h1 h2
        rw [evm_cut (cut := fun pc => pc == 1831 || pc == 1825 || pc == 164 || pc == 244 || pc == 312 || pc == 370 || pc == 383 || pc == 439 || pc == 523 || pc == 591 || pc == 647 || pc == 727 || pc == 783 || pc == 851 || pc == 907 || pc == 963 || pc == 1019 || pc == 1087 || pc == 1155 || pc == 1211 || pc == 1279 || pc == 1292 || pc == 1360 || pc == 1428 || pc == 1496 || pc == 1564 || pc == 1620 || pc == 1633 || pc == 1701 || pc == 1769) h1]
        exact h2
      refine jsw_of _ _ (fun t ht => ?_) (cutt 1825 (by decide +kernel) (nx M x5 x6 cu su h3 (by omega) (by omega)))
      rcases List.mem_cons.mp ht with rfl | ht
      · exact cutt 164 (by decide +kernel) (lc_cast G hst hC h3 c hL (by omega) (by omega) nx)
      rcases List.mem_cons.mp ht with rfl | ht
      · exact cutt 244 (by decide +kernel) (lc_spaces G hst hC h3 c hL (by omega) (by omega) nx)
      rcases List.mem_cons.mp ht with rfl | ht
      · exact cutt 312 (by decide +kernel) (lc_type G hst hC h3 c hL (by omega) (by omega) nx)
      rcases List.mem_cons.mp ht with rfl | ht
      · exact cutt 370 (by decide +kernel) (lc_clear G hC h3 c hL (by omega) (by omega) nx)
      rcases List.mem_cons.mp ht with rfl | ht
      · exact cutt 383 (by decide +kernel) (lc_measure G hst hC h3 c hL (by omega) (by omega) nx)
      rcases List.mem_cons.mp ht with rfl | ht
      · exact cutt 439 (by decide +kernel) (lc_set G hst hC h3 c hL (by omega) (by omega) nx)
      rcases List.mem_cons.mp ht with rfl | ht
      · exact cutt 523 (by decide +kernel) (lc_mend G hst hC h3 c hL (by omega) (by omega) nx)
      rcases List.mem_cons.mp ht with rfl | ht
      · exact cutt 591 (by decide +kernel) (lc_putBack G hst hC h3 c hL (by omega) (by omega) nx)
      rcases List.mem_cons.mp ht with rfl | ht
      · exact cutt 647 (by decide +kernel) (lc_foul G hst hC h3 c hL (by omega) (by omega) nx)
      rcases List.mem_cons.mp ht with rfl | ht
      · exact cutt 727 (by decide +kernel) (lc_sortPie G hst hC h3 c hL (by omega) (by omega) nx)
      rcases List.mem_cons.mp ht with rfl | ht
      · exact cutt 783 (by decide +kernel) (lc_lock G hst hC h3 c hL (by omega) (by omega) nx)
      rcases List.mem_cons.mp ht with rfl | ht
      · exact cutt 851 (by decide +kernel) (lc_lift G hst hC h3 c hL (by omega) (by omega) nx)
      rcases List.mem_cons.mp ht with rfl | ht
      · exact cutt 907 (by decide +kernel) (lc_proof G hst hC h3 c hL (by omega) (by omega) nx)
      rcases List.mem_cons.mp ht with rfl | ht
      · exact cutt 963 (by decide +kernel) (lc_unlock G hst hC h3 c hL (by omega) (by omega) nx)
      rcases List.mem_cons.mp ht with rfl | ht
      · exact cutt 1019 (by decide +kernel) (lc_inBox G hst hC h3 c hL (by omega) (by omega) nx)
      rcases List.mem_cons.mp ht with rfl | ht
      · exact cutt 1087 (by decide +kernel) (lc_top G hst hC h3 c hL (by omega) (by omega) nx)
      rcases List.mem_cons.mp ht with rfl | ht
      · exact cutt 1155 (by decide +kernel) (lc_inSpaces G hst hC h3 c hL (by omega) (by omega) nx)
      rcases List.mem_cons.mp ht with rfl | ht
      · exact cutt 1211 (by decide +kernel) (lc_sort G hst hC h3 c hL (by omega) (by omega) nx)
      rcases List.mem_cons.mp ht with rfl | ht
      · exact cutt 1279 (by decide +kernel) (lc_lines G hC h3 c hL (by omega) (by omega) nx)
      rcases List.mem_cons.mp ht with rfl | ht
      · exact cutt 1292 (by decide +kernel) (lc_line G hst hC h3 c hL (by omega) (by omega) nx)
      rcases List.mem_cons.mp ht with rfl | ht
      · exact cutt 1360 (by decide +kernel) (lc_sortAt G hst hC h3 c hL (by omega) (by omega) nx)
      rcases List.mem_cons.mp ht with rfl | ht
      · exact cutt 1428 (by decide +kernel) (lc_gap G hst hC h3 c hL (by omega) (by omega) nx)
      rcases List.mem_cons.mp ht with rfl | ht
      · exact cutt 1496 (by decide +kernel) (lc_form G hst hC h3 c hL (by omega) (by omega) nx)
      rcases List.mem_cons.mp ht with rfl | ht
      · exact cutt 1564 (by decide +kernel) (lc_printed G hst hC h3 c hL (by omega) (by omega) nx)
      rcases List.mem_cons.mp ht with rfl | ht
      · exact cutt 1620 (by decide +kernel) (lc_pie G hC h3 c hL (by omega) (by omega) nx)
      rcases List.mem_cons.mp ht with rfl | ht
      · exact cutt 1633 (by decide +kernel) (lc_lead G hst hC h3 c hL (by omega) (by omega) nx)
      rcases List.mem_cons.mp ht with rfl | ht
      · exact cutt 1701 (by decide +kernel) (lc_leadAnew G hst hC h3 c hL (by omega) (by omega) nx)
      rcases List.mem_cons.mp ht with rfl | ht
      · exact cutt 1769 (by decide +kernel) (lc_ahead G hst hC h3 c hL (by omega) (by omega) nx)
      exact absurd ht List.not_mem_nil
    · have g := k1831 i M x5 x6 cu su (by omega) (by omega)
      refine ev_at hC (fun pc => pc == 1831) 9 23 (ls := [some v50, some v9, some vm, some v47, some (vI i), x5, x6]) ?_
      try simp only [↓cb_L_law_0, ↓cb_L_law_23, ↓cb_L_law_164, ↓cb_L_law_224, ↓cb_L_law_241, ↓cb_L_law_244, ↓cb_L_law_292, ↓cb_L_law_309, ↓cb_L_law_312, ↓cb_L_law_350, ↓cb_L_law_367, ↓cb_L_law_370, ↓cb_L_law_383, ↓cb_L_law_419, ↓cb_L_law_436, ↓cb_L_law_439, ↓cb_L_law_459, ↓cb_L_law_460, ↓cb_L_law_486, ↓cb_L_law_487, ↓cb_L_law_503, ↓cb_L_law_520, ↓cb_L_law_523, ↓cb_L_law_571, ↓cb_L_law_588, ↓cb_L_law_591, ↓cb_L_law_627, ↓cb_L_law_644, ↓cb_L_law_647, ↓cb_L_law_707, ↓cb_L_law_724, ↓cb_L_law_727, ↓cb_L_law_763, ↓cb_L_law_780, ↓cb_L_law_783, ↓cb_L_law_831, ↓cb_L_law_848, ↓cb_L_law_851, ↓cb_L_law_887, ↓cb_L_law_904, ↓cb_L_law_907, ↓cb_L_law_943, ↓cb_L_law_960, ↓cb_L_law_963, ↓cb_L_law_999, ↓cb_L_law_1016, ↓cb_L_law_1019, ↓cb_L_law_1067, ↓cb_L_law_1084, ↓cb_L_law_1087, ↓cb_L_law_1135, ↓cb_L_law_1152, ↓cb_L_law_1155, ↓cb_L_law_1191, ↓cb_L_law_1208, ↓cb_L_law_1211, ↓cb_L_law_1259, ↓cb_L_law_1276, ↓cb_L_law_1279, ↓cb_L_law_1292, ↓cb_L_law_1340, ↓cb_L_law_1357, ↓cb_L_law_1360, ↓cb_L_law_1408, ↓cb_L_law_1425, ↓cb_L_law_1428, ↓cb_L_law_1476, ↓cb_L_law_1493, ↓cb_L_law_1496, ↓cb_L_law_1544, ↓cb_L_law_1561, ↓cb_L_law_1564, ↓cb_L_law_1600, ↓cb_L_law_1617, ↓cb_L_law_1620, ↓cb_L_law_1633, ↓cb_L_law_1681, ↓cb_L_law_1698, ↓cb_L_law_1701, ↓cb_L_law_1749, ↓cb_L_law_1766, ↓cb_L_law_1769, ↓cb_L_law_1805, ↓cb_L_law_1822, ↓cb_L_law_1825, ↓cb_L_law_1831, ↓te_aldJ, ↓te_aload, ↓te_astore, ↓te_bin, ↓te_callH, ↓te_callV, ↓te_const, ↓te_dup, ↓te_goto, ↓te_i2c, ↓te_i2l, ↓te_icmp, ↓te_if, ↓te_iinc, ↓te_iload, ↓te_istore, ↓te_lcmp, ↓te_ldX, ↓te_lenX, ↓te_lret, ↓te_new, ↓te_newa, ↓te_tsw, ↓evb_c, ↓evb_n, ↓evk_ap, ↓evm_cut, ↓evm_go, ↓evm_0, ↓jret_v, ↓jret_n, ↓jretX_v, ↓jretX_n, jget, jset, cond_true, cond_false, Nat.reduceBEq, jc1, List.take_succ_cons, List.take_zero, List.drop_succ_cons, List.drop_zero, List.reverse_cons, List.reverse_nil, List.nil_append, List.cons_append, List.length_cons, List.length_nil, Nat.zero_add, Nat.reduceAdd, beq_self_eq_true, true_and, and_true, Nat.reduceLeDiff, Nat.le_refl, Nat.zero_le, Bool.or_true, Bool.true_or, Bool.or_false, Bool.false_or, Bool.or_self]
      exact ⟨fun _ => g, fun z => absurd (hend i (by omega) (by omega)) z⟩
set_option maxRecDepth 20000 in
set_option maxHeartbeats 20000000 in
theorem law_run (G : jx_G) (hst : (gl G).stackTraces = false) {Q : jx_O → jx_M → Prop} {Wn : jx_J} (hC : Cl (cd_L_law G) Q Wn) (hL : gL G ≤ 2048) : Wn 0 [some v50, none, none, none, none, none, none] [] jM0 0 0 := by
  have fn9 : fN 9 = 14 := rfl
  have fn10 : fN 10 = 33 := rfl
  have z9 : qN jM0 9 = 0 := by rw [jM0_N, if_neg (by omega)]
  refine ev_at hC (fun pc => pc == 23) 9 0 (ls := [some v50, none, none, none, none, none, none]) ?_
  try simp only [↓cb_L_law_0, ↓cb_L_law_23, ↓cb_L_law_164, ↓cb_L_law_224, ↓cb_L_law_241, ↓cb_L_law_244, ↓cb_L_law_292, ↓cb_L_law_309, ↓cb_L_law_312, ↓cb_L_law_350, ↓cb_L_law_367, ↓cb_L_law_370, ↓cb_L_law_383, ↓cb_L_law_419, ↓cb_L_law_436, ↓cb_L_law_439, ↓cb_L_law_459, ↓cb_L_law_460, ↓cb_L_law_486, ↓cb_L_law_487, ↓cb_L_law_503, ↓cb_L_law_520, ↓cb_L_law_523, ↓cb_L_law_571, ↓cb_L_law_588, ↓cb_L_law_591, ↓cb_L_law_627, ↓cb_L_law_644, ↓cb_L_law_647, ↓cb_L_law_707, ↓cb_L_law_724, ↓cb_L_law_727, ↓cb_L_law_763, ↓cb_L_law_780, ↓cb_L_law_783, ↓cb_L_law_831, ↓cb_L_law_848, ↓cb_L_law_851, ↓cb_L_law_887, ↓cb_L_law_904, ↓cb_L_law_907, ↓cb_L_law_943, ↓cb_L_law_960, ↓cb_L_law_963, ↓cb_L_law_999, ↓cb_L_law_1016, ↓cb_L_law_1019, ↓cb_L_law_1067, ↓cb_L_law_1084, ↓cb_L_law_1087, ↓cb_L_law_1135, ↓cb_L_law_1152, ↓cb_L_law_1155, ↓cb_L_law_1191, ↓cb_L_law_1208, ↓cb_L_law_1211, ↓cb_L_law_1259, ↓cb_L_law_1276, ↓cb_L_law_1279, ↓cb_L_law_1292, ↓cb_L_law_1340, ↓cb_L_law_1357, ↓cb_L_law_1360, ↓cb_L_law_1408, ↓cb_L_law_1425, ↓cb_L_law_1428, ↓cb_L_law_1476, ↓cb_L_law_1493, ↓cb_L_law_1496, ↓cb_L_law_1544, ↓cb_L_law_1561, ↓cb_L_law_1564, ↓cb_L_law_1600, ↓cb_L_law_1617, ↓cb_L_law_1620, ↓cb_L_law_1633, ↓cb_L_law_1681, ↓cb_L_law_1698, ↓cb_L_law_1701, ↓cb_L_law_1749, ↓cb_L_law_1766, ↓cb_L_law_1769, ↓cb_L_law_1805, ↓cb_L_law_1822, ↓cb_L_law_1825, ↓cb_L_law_1831, ↓te_aldJ, ↓te_aload, ↓te_astore, ↓te_bin, ↓te_callH, ↓te_callV, ↓te_const, ↓te_dup, ↓te_goto, ↓te_i2c, ↓te_i2l, ↓te_icmp, ↓te_if, ↓te_iinc, ↓te_iload, ↓te_istore, ↓te_lcmp, ↓te_ldX, ↓te_lenX, ↓te_lret, ↓te_new, ↓te_newa, ↓te_tsw, ↓evb_c, ↓evb_n, ↓evk_ap, ↓evm_cut, ↓evm_go, ↓evm_0, ↓jret_v, ↓jret_n, ↓jretX_v, ↓jretX_n, jget, jset, cond_true, cond_false, Nat.reduceBEq, jc1, List.take_succ_cons, List.take_zero, List.drop_succ_cons, List.drop_zero, List.reverse_cons, List.reverse_nil, List.nil_append, List.cons_append, List.length_cons, List.length_nil, Nat.zero_add, Nat.reduceAdd, beq_self_eq_true, true_and, and_true, Nat.reduceLeDiff, Nat.le_refl, Nat.zero_le, Bool.or_true, Bool.true_or, Bool.or_false, Bool.false_or, Bool.or_self]
  try simp (disch := omega) only [Nat.reduceEqDiff, Prod.mk.injEq, Option.some.injEq, true_and, and_true, exists_eq_left', exists_eq_right, exists_and_left, exists_const, true_or, or_true, ne_eq, not_true_eq_false, not_false_eq_true, reduceCtorEq, false_and, and_false, if_true, if_false, forall_const, true_implies, false_implies, implies_true, qI_wI, qI_wP, qP_wI, qP_wP, qN_wI, qN_wP, and_self, nI_add, pk_mul, nI_clamp, vp_in_nI, ng_1, ng_10, nI_eq32, cs_0, cs_1, cs_2, cs_3, cs_4, cs_5, cs_6, cs_7, cs_8, cs_9, cs_10, cs_11, cs_12, cs_13, cs_14, cs_15, cs_16, cs_17, cs_18, cs_19, cs_20, cs_21, cs_22, cs_23, cs_24, cs_25, cs_26, cs_27, cs_28, cs_29, cs_30, cs_31, cs_32, cs_33, cs_34, cs_35, cs_36, cs_37, cs_38, cs_39, cs_40, cs_41, cs_42, cs_43, cs_44, cs_45, cs_46, cs_47, cs_48, cs_49, cs_50, cs_51, cs_52, cs_53, cs_54, cs_55, cs_56, cs_57, cs_58, cs_59, cs_60, cs_61, cs_62, cs_63, cs_64, cs_97, cs_100, cs_122, cs_200, cs_300, cs_448, cs_1000, al_11, al_12, al_13, al_14, al_15, al_16, al_17, al_18, al_19, al_20, al_21, al_22, al_23, al_24, al_25, al_26, al_27, al_28, al_29, al_30, al_31, al_32, al_33, al_34, al_35, al_36, al_37, al_38, al_39, al_40, al_41, al_42, al_43, al_44, al_45, al_46, al_47, z9, fn9, Nat.reduceLeDiff, Nat.le_refl, Nat.reduceAdd]
  refine ci_X9 G (fun M1 c1 f1 => ?_)
  have z10 : qN M1 10 = 0 := by rw [f1.2.2.2.2.2.2 10 (by omega), jM0_N, if_neg (by omega)]
  try simp only [↓cb_L_law_0, ↓cb_L_law_23, ↓cb_L_law_164, ↓cb_L_law_224, ↓cb_L_law_241, ↓cb_L_law_244, ↓cb_L_law_292, ↓cb_L_law_309, ↓cb_L_law_312, ↓cb_L_law_350, ↓cb_L_law_367, ↓cb_L_law_370, ↓cb_L_law_383, ↓cb_L_law_419, ↓cb_L_law_436, ↓cb_L_law_439, ↓cb_L_law_459, ↓cb_L_law_460, ↓cb_L_law_486, ↓cb_L_law_487, ↓cb_L_law_503, ↓cb_L_law_520, ↓cb_L_law_523, ↓cb_L_law_571, ↓cb_L_law_588, ↓cb_L_law_591, ↓cb_L_law_627, ↓cb_L_law_644, ↓cb_L_law_647, ↓cb_L_law_707, ↓cb_L_law_724, ↓cb_L_law_727, ↓cb_L_law_763, ↓cb_L_law_780, ↓cb_L_law_783, ↓cb_L_law_831, ↓cb_L_law_848, ↓cb_L_law_851, ↓cb_L_law_887, ↓cb_L_law_904, ↓cb_L_law_907, ↓cb_L_law_943, ↓cb_L_law_960, ↓cb_L_law_963, ↓cb_L_law_999, ↓cb_L_law_1016, ↓cb_L_law_1019, ↓cb_L_law_1067, ↓cb_L_law_1084, ↓cb_L_law_1087, ↓cb_L_law_1135, ↓cb_L_law_1152, ↓cb_L_law_1155, ↓cb_L_law_1191, ↓cb_L_law_1208, ↓cb_L_law_1211, ↓cb_L_law_1259, ↓cb_L_law_1276, ↓cb_L_law_1279, ↓cb_L_law_1292, ↓cb_L_law_1340, ↓cb_L_law_1357, ↓cb_L_law_1360, ↓cb_L_law_1408, ↓cb_L_law_1425, ↓cb_L_law_1428, ↓cb_L_law_1476, ↓cb_L_law_1493, ↓cb_L_law_1496, ↓cb_L_law_1544, ↓cb_L_law_1561, ↓cb_L_law_1564, ↓cb_L_law_1600, ↓cb_L_law_1617, ↓cb_L_law_1620, ↓cb_L_law_1633, ↓cb_L_law_1681, ↓cb_L_law_1698, ↓cb_L_law_1701, ↓cb_L_law_1749, ↓cb_L_law_1766, ↓cb_L_law_1769, ↓cb_L_law_1805, ↓cb_L_law_1822, ↓cb_L_law_1825, ↓cb_L_law_1831, ↓te_aldJ, ↓te_aload, ↓te_astore, ↓te_bin, ↓te_callH, ↓te_callV, ↓te_const, ↓te_dup, ↓te_goto, ↓te_i2c, ↓te_i2l, ↓te_icmp, ↓te_if, ↓te_iinc, ↓te_iload, ↓te_istore, ↓te_lcmp, ↓te_ldX, ↓te_lenX, ↓te_lret, ↓te_new, ↓te_newa, ↓te_tsw, ↓evb_c, ↓evb_n, ↓evk_ap, ↓evm_cut, ↓evm_go, ↓evm_0, ↓jret_v, ↓jret_n, ↓jretX_v, ↓jretX_n, jget, jset, cond_true, cond_false, Nat.reduceBEq, jc1, List.take_succ_cons, List.take_zero, List.drop_succ_cons, List.drop_zero, List.reverse_cons, List.reverse_nil, List.nil_append, List.cons_append, List.length_cons, List.length_nil, Nat.zero_add, Nat.reduceAdd, beq_self_eq_true, true_and, and_true, Nat.reduceLeDiff, Nat.le_refl, Nat.zero_le, Bool.or_true, Bool.true_or, Bool.or_false, Bool.false_or, Bool.or_self]
  try simp (disch := omega) only [Nat.reduceEqDiff, Prod.mk.injEq, Option.some.injEq, true_and, and_true, exists_eq_left', exists_eq_right, exists_and_left, exists_const, true_or, or_true, ne_eq, not_true_eq_false, not_false_eq_true, reduceCtorEq, false_and, and_false, if_true, if_false, forall_const, true_implies, false_implies, implies_true, qI_wI, qI_wP, qP_wI, qP_wP, qN_wI, qN_wP, and_self, nI_add, pk_mul, nI_clamp, vp_in_nI, ng_1, ng_10, nI_eq32, cs_0, cs_1, cs_2, cs_3, cs_4, cs_5, cs_6, cs_7, cs_8, cs_9, cs_10, cs_11, cs_12, cs_13, cs_14, cs_15, cs_16, cs_17, cs_18, cs_19, cs_20, cs_21, cs_22, cs_23, cs_24, cs_25, cs_26, cs_27, cs_28, cs_29, cs_30, cs_31, cs_32, cs_33, cs_34, cs_35, cs_36, cs_37, cs_38, cs_39, cs_40, cs_41, cs_42, cs_43, cs_44, cs_45, cs_46, cs_47, cs_48, cs_49, cs_50, cs_51, cs_52, cs_53, cs_54, cs_55, cs_56, cs_57, cs_58, cs_59, cs_60, cs_61, cs_62, cs_63, cs_64, cs_97, cs_100, cs_122, cs_200, cs_300, cs_448, cs_1000, al_11, al_12, al_13, al_14, al_15, al_16, al_17, al_18, al_19, al_20, al_21, al_22, al_23, al_24, al_25, al_26, al_27, al_28, al_29, al_30, al_31, al_32, al_33, al_34, al_35, al_36, al_37, al_38, al_39, al_40, al_41, al_42, al_43, al_44, al_45, al_46, al_47, z10, fn10, Nat.reduceLeDiff, Nat.le_refl, Nat.reduceAdd]
  refine ci_X10 G f1 (fun M2 r2 fr n6 n47 => ?_)
  have hLI : LI (wNew M2 47) := by
    refine ⟨S00, fun l => l, ⟨?_, fun r k hr => ?_⟩, ?_, Wf_00, W0_00, ?_⟩
    · have q := r2.1
      unfold RMr at q ⊢
      simp only [qP_wNew, Nat.reduceEqDiff, false_and, if_false]
      exact q
    · rw [qI_wNew, if_neg (by omega)]
      exact r2.2 r k hr
    · refine (c1.ext2 fr n6).ext2 (fun r i k h1 h2 => ⟨?_, ?_⟩) ?_
      · rw [qI_wNew, if_neg (by omega)]
      · rw [qP_wNew, if_neg (by omega)]
      · rw [qN_wNew, if_neg (by omega)]
    · rw [qN_wNew, if_pos rfl, n47]
  try simp only [↓cb_L_law_0, ↓cb_L_law_23, ↓cb_L_law_164, ↓cb_L_law_224, ↓cb_L_law_241, ↓cb_L_law_244, ↓cb_L_law_292, ↓cb_L_law_309, ↓cb_L_law_312, ↓cb_L_law_350, ↓cb_L_law_367, ↓cb_L_law_370, ↓cb_L_law_383, ↓cb_L_law_419, ↓cb_L_law_436, ↓cb_L_law_439, ↓cb_L_law_459, ↓cb_L_law_460, ↓cb_L_law_486, ↓cb_L_law_487, ↓cb_L_law_503, ↓cb_L_law_520, ↓cb_L_law_523, ↓cb_L_law_571, ↓cb_L_law_588, ↓cb_L_law_591, ↓cb_L_law_627, ↓cb_L_law_644, ↓cb_L_law_647, ↓cb_L_law_707, ↓cb_L_law_724, ↓cb_L_law_727, ↓cb_L_law_763, ↓cb_L_law_780, ↓cb_L_law_783, ↓cb_L_law_831, ↓cb_L_law_848, ↓cb_L_law_851, ↓cb_L_law_887, ↓cb_L_law_904, ↓cb_L_law_907, ↓cb_L_law_943, ↓cb_L_law_960, ↓cb_L_law_963, ↓cb_L_law_999, ↓cb_L_law_1016, ↓cb_L_law_1019, ↓cb_L_law_1067, ↓cb_L_law_1084, ↓cb_L_law_1087, ↓cb_L_law_1135, ↓cb_L_law_1152, ↓cb_L_law_1155, ↓cb_L_law_1191, ↓cb_L_law_1208, ↓cb_L_law_1211, ↓cb_L_law_1259, ↓cb_L_law_1276, ↓cb_L_law_1279, ↓cb_L_law_1292, ↓cb_L_law_1340, ↓cb_L_law_1357, ↓cb_L_law_1360, ↓cb_L_law_1408, ↓cb_L_law_1425, ↓cb_L_law_1428, ↓cb_L_law_1476, ↓cb_L_law_1493, ↓cb_L_law_1496, ↓cb_L_law_1544, ↓cb_L_law_1561, ↓cb_L_law_1564, ↓cb_L_law_1600, ↓cb_L_law_1617, ↓cb_L_law_1620, ↓cb_L_law_1633, ↓cb_L_law_1681, ↓cb_L_law_1698, ↓cb_L_law_1701, ↓cb_L_law_1749, ↓cb_L_law_1766, ↓cb_L_law_1769, ↓cb_L_law_1805, ↓cb_L_law_1822, ↓cb_L_law_1825, ↓cb_L_law_1831, ↓te_aldJ, ↓te_aload, ↓te_astore, ↓te_bin, ↓te_callH, ↓te_callV, ↓te_const, ↓te_dup, ↓te_goto, ↓te_i2c, ↓te_i2l, ↓te_icmp, ↓te_if, ↓te_iinc, ↓te_iload, ↓te_istore, ↓te_lcmp, ↓te_ldX, ↓te_lenX, ↓te_lret, ↓te_new, ↓te_newa, ↓te_tsw, ↓evb_c, ↓evb_n, ↓evk_ap, ↓evm_cut, ↓evm_go, ↓evm_0, ↓jret_v, ↓jret_n, ↓jretX_v, ↓jretX_n, jget, jset, cond_true, cond_false, Nat.reduceBEq, jc1, List.take_succ_cons, List.take_zero, List.drop_succ_cons, List.drop_zero, List.reverse_cons, List.reverse_nil, List.nil_append, List.cons_append, List.length_cons, List.length_nil, Nat.zero_add, Nat.reduceAdd, beq_self_eq_true, true_and, and_true, Nat.reduceLeDiff, Nat.le_refl, Nat.zero_le, Bool.or_true, Bool.true_or, Bool.or_false, Bool.false_or, Bool.or_self]
  try simp (disch := omega) only [Nat.reduceEqDiff, Prod.mk.injEq, Option.some.injEq, true_and, and_true, exists_eq_left', exists_eq_right, exists_and_left, exists_const, true_or, or_true, ne_eq, not_true_eq_false, not_false_eq_true, reduceCtorEq, false_and, and_false, if_true, if_false, forall_const, true_implies, false_implies, implies_true, qI_wI, qI_wP, qP_wI, qP_wP, qN_wI, qN_wP, and_self, nI_add, pk_mul, nI_clamp, vp_in_nI, ng_1, ng_10, nI_eq32, cs_0, cs_1, cs_2, cs_3, cs_4, cs_5, cs_6, cs_7, cs_8, cs_9, cs_10, cs_11, cs_12, cs_13, cs_14, cs_15, cs_16, cs_17, cs_18, cs_19, cs_20, cs_21, cs_22, cs_23, cs_24, cs_25, cs_26, cs_27, cs_28, cs_29, cs_30, cs_31, cs_32, cs_33, cs_34, cs_35, cs_36, cs_37, cs_38, cs_39, cs_40, cs_41, cs_42, cs_43, cs_44, cs_45, cs_46, cs_47, cs_48, cs_49, cs_50, cs_51, cs_52, cs_53, cs_54, cs_55, cs_56, cs_57, cs_58, cs_59, cs_60, cs_61, cs_62, cs_63, cs_64, cs_97, cs_100, cs_122, cs_200, cs_300, cs_448, cs_1000, al_11, al_12, al_13, al_14, al_15, al_16, al_17, al_18, al_19, al_20, al_21, al_22, al_23, al_24, al_25, al_26, al_27, al_28, al_29, al_30, al_31, al_32, al_33, al_34, al_35, al_36, al_37, al_38, al_39, al_40, al_41, al_42, al_43, al_44, al_45, al_46, al_47, n47, Nat.reduceLeDiff, Nat.le_refl, Nat.reduceAdd]
  have g := law_loop G hst hC hL (gL G + 4) 0 (wNew M2 47) none none 173 33294 (by omega) (by omega) hLI (by omega) (by omega)
  first
    | exact g
    | exact ⟨fun _ => n47, g⟩
    | exact ⟨trivial, g⟩
