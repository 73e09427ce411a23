def mRep (M : jx_M) (o k s : Nat) : jx_M := wP (wI (wP M 16 o k (some s)) 6 s 5 (nI 1)) 6 s 7 (some o)
theorem mRep_I (M : jx_M) (o k s r i c : Nat) : qI (mRep M o k s) r i c = if r = 6 ∧ i = s ∧ c = 5 then nI 1 else qI M r i c := by
  simp only [mRep, qI_wI, qI_wP]
theorem mRep_P (M : jx_M) (o k s r i c : Nat) : qP (mRep M o k s) r i c = if r = 6 ∧ i = s ∧ c = 7 then some o else if r = 16 ∧ i = o ∧ c = k then some s else qP M r i c := by
  simp only [mRep, qP_wI, qP_wP]
theorem CX_rep {M0 M : jx_M} {S : jS} {p : Nat → Nat} {l k s : Nat} (hM : CX M0 M S p) (hl : l < S 10 14) (h12 : S 10 14 ≤ 12) (hx : ∀ l', l' < S 10 14 → S 35 l' ≤ 60) (hk : k < S 35 l) (hno : ∀ l' k', l' < S 10 14 → k' < S 35 l' → ¬ S 36 (64 * l' + k') = s) (h27 : ¬ S 27 s = 3) : CX M0 (mRep M (p l) k s) (sw (sw S 36 (64 * l + k) s) 27 s 1) p := by
  obtain ⟨⟨hB, hT, hS, hF, hH, hP, hO, hK, hA, hQ, hL, hZ⟩, hkp⟩ := hM
  have iI : ∀ r, ¬ r = 6 → sI M (mRep M (p l) k s) r := fun r h6 i c => by rw [mRep_I, if_neg (fun q => h6 q.1)]
  have iP : ∀ r, ¬ r = 6 → ¬ r = 16 → sP M (mRep M (p l) k s) r := fun r h6 h16 i c => by rw [mRep_P, if_neg (fun q => h6 q.1), if_neg (fun q => h16 q.1)]
  have er : ∀ a b, ¬ (a = 36 ∨ a = 27) → sw (sw S 36 (64 * l + k) s) 27 s 1 a b = S a b := fun a b hab => by rw [sw_at, if_neg (by omega), sw_at, if_neg (by omega)]
  have e27 : ∀ t, sw (sw S 36 (64 * l + k) s) 27 s 1 27 t = if t = s then 1 else S 27 t := fun t => by
    rw [sw_at]
    by_cases e : t = s
    · rw [if_pos ⟨rfl, e⟩, if_pos e]
    · rw [if_neg (fun q => e q.2), if_neg e, sw_at, if_neg (by omega)]
  have e36 : ∀ b, sw (sw S 36 (64 * l + k) s) 27 s 1 36 b = if b = 64 * l + k then s else S 36 b := fun b => by
    rw [sw_at, if_neg (by omega), sw_at]
    by_cases e : b = 64 * l + k
    · rw [if_pos ⟨rfl, e⟩, if_pos e]
    · rw [if_neg (fun q => e q.2), if_neg e]
  refine ⟨⟨hB.fr (fun c => iP 9 (by omega) (by omega) 0 c) (fun c _ => iI 9 (by omega) 0 c) (iP 7 (by omega) (by omega)) (iP 8 (by omega) (by omega)) (iP 2 (by omega) (by omega)) (iP 5 (by omega) (by omega)) rfl (er 10 1 (by omega)) (er 10 13 (by omega)) (er 10 14 (by omega)) (er 10 24 (by omega)), hT.fr (iI 8 (by omega)) (iI 21 (by omega)) (er 10 12 (by omega)) (fun c _ => er 33 c (by omega)), hS.fr (iI 24 (by omega)) (fun c => er 32 c (by omega)), hF.fr (iP 14 (by omega) (by omega)) (iI 1 (by omega)) (fun c _ => er 43 c (by omega)) (fun c _ => er 44 c (by omega)), hH.fr (iI 2 (by omega)) (iP 22 (by omega) (by omega)) (er 10 9 (by omega)) (fun c _ => er 31 c (by omega)), hP.fr (iI 5 (by omega)) (iI 23 (by omega)) (er 10 28 (by omega)) (fun c _ => er 45 c (by omega)), fun t ht => ?_, hK.fr (iP 11 (by omega) (by omega)) (iI 4 (by omega)) (iP 4 (by omega) (by omega)) (fun k i _ _ => ⟨by rw [mRep_P, if_neg (by omega), if_neg (by omega)], by rw [mRep_P, if_neg (by omega), if_neg (by omega)]⟩) (er 10 1 (by omega)) (fun c _ => er 30 c (by omega)) (fun k i _ _ => er 29 _ (by omega)) (fun t _ => er 25 t (by omega)) (fun t _ => ?_), hA.fr (fun o c _ => iP 3 (by omega) (by omega) o c), hQ.fr (iP 13 (by omega) (by omega)), fun m hm => ?_, fun m hm hm2 => (hZ m (by rw [er 10 14 (by omega)] at hm; exact hm) hm2).fr (fun c => iI 19 (by omega) _ c) (fun c => iI 20 (by omega) _ c)⟩, ((hkp.wP (by omega)).wI (by omega)).wP (by omega)⟩
  · rw [er 10 1 (by omega)] at ht
    obtain ⟨o1, o2, o3, o4, o5, o6, o7⟩ := hO t ht
    rw [er 25 t (by omega), er 26 t (by omega), er 28 t (by omega), e27, iP 12 (by omega) (by omega)]
    refine ⟨o1, ?_, ?_, ?_, ?_, ?_, ?_⟩
    · rw [mRep_I, if_neg (by omega)]; exact o2
    · rw [mRep_I, if_neg (by omega)]; exact o3
    · rw [mRep_I, if_neg (by omega)]; exact o4
    · rw [mRep_I, if_neg (by omega)]; exact o5
    · rw [mRep_I, if_neg (by omega)]; exact o6
    · rw [mRep_I]
      by_cases e : t = s
      · rw [if_pos ⟨rfl, e, rfl⟩, if_pos e]
      · rw [if_neg (fun q => e q.2.1), if_neg e]; exact o7
  · rw [e27]
    by_cases e : t = s
    · rw [if_pos e, e]
      exact ⟨fun q => by omega, fun q => absurd q h27⟩
    · rw [if_neg e]
  · rw [er 10 14 (by omega)] at hm
    have hxm := hx m hm
    have hxl := hx l hl
    obtain ⟨⟨⟨a1, a2, a3, a4, a5⟩, b, c⟩, hU⟩ := hL m hm
    refine ⟨⟨⟨?_, ?_, ?_, ?_, ?_⟩, fun j hj => ?_, fun g hg => ?_⟩, hU.fr (fun c => iI 19 (by omega) _ c) (fun c => iI 20 (by omega) _ c) (er 38 m (by omega)) (fun g u _ _ => er 40 _ (by omega))⟩
    · rw [iI 3 (by omega), er 34 m (by omega)]; exact a1
    · rw [iI 3 (by omega), er 35 m (by omega)]; exact a2
    · rw [iI 3 (by omega), er 38 m (by omega)]; exact a3
    · rw [iI 3 (by omega), er 41 m (by omega)]; exact a4
    · rw [iP 3 (by omega) (by omega), er 42 m (by omega)]; exact a5
    · rw [er 35 m (by omega)] at hj
      rw [er 37 _ (by omega), er 34 m (by omega), iI 17 (by omega), e36]
      by_cases e : m = l ∧ j = k
      · obtain ⟨q1, q2⟩ := e
        subst q1 q2
        rw [if_pos rfl, mRep_P, if_neg (by omega), if_pos ⟨rfl, rfl, rfl⟩, mRep_P, if_pos ⟨rfl, rfl, rfl⟩]
        exact ⟨rfl, (b j hj).2.1, rfl⟩
      · have hne := hno m j hm hj
        have hpl : ¬ (p m = p l ∧ j = k) := fun q => e ⟨hQ.2 m l (by omega) (by omega) q.1, q.2⟩
        rw [if_neg (by omega), mRep_P, if_neg (by omega), if_neg (fun q => hpl q.2), mRep_P, if_neg (fun q => hne q.2.1), if_neg (by omega)]
        exact b j hj
    · rw [er 38 m (by omega)] at hg
      rw [iI 18 (by omega), er 39 _ (by omega)]
      exact c g hg
set_option maxRecDepth 20000 in
set_option maxHeartbeats 20000000 in
theorem cc_replace (G : jx_G) {M : jx_M} {S : jS} {o l k s : Nat} {Q : jx_O → jx_M → Prop} (hM : CLm M S o l) (hk : k < S 35 l) (hQ : Q (.inl none) (mRep M o k s)) : Mt G m_X3_replace [oR 3 o, vI k, oR 6 s] M Q := by
  refine Mt.of (sc_X3_replace G) (by decide +kernel) (jArgs.of rfl) (Nat.le_of_ble_eq_true rfl) (fun Wn hC => ?_)
  obtain ⟨⟨⟨a1, a2, a3, a4, a5⟩, b, c⟩, hA, ho, h60, h61⟩ := hM
  have h0 := (hA o ho).1
  have k38 : Wn 38 [some (oR 3 o), some (vI k), some (oR 6 s)] [] (mRep M o k s) 0 0 := by
    refine ev_at hC (fun pc => false) 9 38 (ls := [some (oR 3 o), some (vI k), some (oR 6 s)]) ?_
    try simp only [↓cb_X3_replace_0, ↓cb_X3_replace_38, ↓te_alen, ↓te_aload, ↓te_astP, ↓te_const, ↓te_getI, ↓te_getP, ↓te_icmp, ↓te_if, ↓te_iload, ↓te_putI, ↓te_putP, ↓te_vret, ↓evb_c, ↓evb_n, ↓evk_ap, ↓evm_cut, ↓evm_go, ↓evm_0, ↓jret_v, ↓jret_n, jget, jset, cond_true, cond_false, Nat.reduceBEq, jc1, List.take_succ_cons, List.take_zero, List.drop_succ_cons, List.drop_zero, List.reverse_cons, List.reverse_nil, List.nil_append, List.cons_append, List.length_cons, List.length_nil, Nat.zero_add, Nat.reduceAdd, beq_self_eq_true, true_and, and_true, Nat.reduceLeDiff, Nat.le_refl, Nat.zero_le, Bool.or_true, Bool.true_or, Bool.or_false, Bool.false_or, Bool.or_self]
    exact hQ
  refine ev_at hC (fun pc => pc == 38) 9 0 (ls := [some (oR 3 o), some (vI k), some (oR 6 s)]) ?_
  try simp only [↓cb_X3_replace_0, ↓cb_X3_replace_38, ↓te_alen, ↓te_aload, ↓te_astP, ↓te_const, ↓te_getI, ↓te_getP, ↓te_icmp, ↓te_if, ↓te_iload, ↓te_putI, ↓te_putP, ↓te_vret, ↓evb_c, ↓evb_n, ↓evk_ap, ↓evm_cut, ↓evm_go, ↓evm_0, ↓jret_v, ↓jret_n, jget, jset, cond_true, cond_false, Nat.reduceBEq, jc1, List.take_succ_cons, List.take_zero, List.drop_succ_cons, List.drop_zero, List.reverse_cons, List.reverse_nil, List.nil_append, List.cons_append, List.length_cons, List.length_nil, Nat.zero_add, Nat.reduceAdd, beq_self_eq_true, true_and, and_true, Nat.reduceLeDiff, Nat.le_refl, Nat.zero_le, Bool.or_true, Bool.true_or, Bool.or_false, Bool.false_or, Bool.or_self]
  try simp (disch := omega) only [Nat.reduceEqDiff, Prod.mk.injEq, Option.some.injEq, true_and, and_true, exists_eq_left', exists_eq_right, exists_and_left, exists_const, true_or, or_true, ne_eq, not_true_eq_false, not_false_eq_true, reduceCtorEq, false_and, and_false, if_true, if_false, forall_const, true_implies, false_implies, implies_true, qI_wI, qI_wP, qP_wI, qP_wP, qN_wI, qN_wP, and_self, nI_add, pk_mul, nI_clamp, vp_in_nI, ng_1, ng_10, nI_eq32, cs_0, cs_1, cs_2, cs_3, cs_4, cs_5, cs_6, cs_7, cs_8, cs_9, cs_10, cs_11, cs_12, cs_13, cs_14, cs_15, cs_16, cs_17, cs_18, cs_19, cs_20, cs_21, cs_22, cs_23, cs_24, cs_25, cs_26, cs_27, cs_28, cs_29, cs_30, cs_31, cs_32, cs_33, cs_34, cs_35, cs_36, cs_37, cs_38, cs_39, cs_40, cs_41, cs_42, cs_43, cs_44, cs_45, cs_46, cs_47, cs_48, cs_49, cs_50, cs_51, cs_52, cs_53, cs_54, cs_55, cs_56, cs_57, cs_58, cs_59, cs_60, cs_61, cs_62, cs_63, cs_64, cs_97, cs_100, cs_122, cs_200, cs_300, cs_448, cs_1000, al_11, al_12, al_13, al_14, al_15, al_16, al_17, al_18, al_19, al_20, al_21, al_22, al_23, al_24, al_25, al_26, al_27, al_28, al_29, al_30, al_31, al_32, al_33, al_34, al_35, al_36, al_37, al_38, al_39, al_40, al_41, al_42, al_43, al_44, al_45, al_46, al_47, h0, a2, nI_leI, nI_ltI]
  repeat (first | exact k38 | (refine ⟨fun h9 => absurd h9 (by first | omega | assumption), fun _ => ?_⟩) | (refine ⟨fun _ => ?_, fun h9 => absurd (by first | omega | assumption) h9⟩))
theorem kp_mend (G : jx_G) (hst : (gl G).stackTraces = false) {M0 M : jx_M} {S : jS} {p : Nat → Nat} {Q : jx_O → jx_M → Prop} {x y : Int32} (hW : Wf S) (hM : CX M0 M S p) (hQ : KQ M0 Q (fun k => 2 * k - 1) S (sf_mend S x y)) : Mx G m_X9_mend [v9, .inl x, .inl y] M Q := by
  refine Mx.of hst (sc_X9_mend G) (by decide +kernel) (jArgs.of rfl) (Nat.le_of_ble_eq_true rfl) (fun Wn hC => ?_)
  unfold sf_mend at hQ
  have hn := hW.1.1.1
  have hj := jNo_v
  have k30 : ¬ (isLn S x ∧ inR y 0 (nI (S 35 (jn x)) - nI 1)) → ∀ a b, Wn 30 [some v9, some (.inl x), some (.inl y), a, b, none] [] M 0 0 := by
    intro h a b
    rw [if_neg h] at hQ
    refine ev_at hC (fun pc => false) 9 30 (ls := [some v9, some (.inl x), some (.inl y), a, b, none]) ?_
    try simp only [↓cb_X9_mend_0, ↓cb_X9_mend_14, ↓cb_X9_mend_19, ↓cb_X9_mend_30, ↓cb_X9_mend_40, ↓cb_X9_mend_64, ↓cb_X9_mend_65, ↓cb_X9_mend_82, ↓cb_X9_mend_111, ↓te_aload, ↓te_astore, ↓te_callV, ↓te_const, ↓te_getI, ↓te_getP, ↓te_goto, ↓te_if, ↓te_ifnonnull, ↓te_ifnull, ↓te_iload, ↓te_iret, ↓te_null, ↓te_pop, ↓te_putI, ↓te_throw, ↓evb_c, ↓evb_n, ↓evk_ap, ↓evm_cut, ↓evm_go, ↓evm_0, ↓jret_v, ↓jret_n, jget, jset, cond_true, cond_false, Nat.reduceBEq, jc1, List.take_succ_cons, List.take_zero, List.drop_succ_cons, List.drop_zero, List.reverse_cons, List.reverse_nil, List.nil_append, List.cons_append, List.length_cons, List.length_nil, Nat.zero_add, Nat.reduceAdd, beq_self_eq_true, true_and, and_true, Nat.reduceLeDiff, Nat.le_refl, Nat.zero_le, Bool.or_true, Bool.true_or, Bool.or_false, Bool.false_or, Bool.or_self]
    try simp (disch := omega) only [Nat.reduceEqDiff, Prod.mk.injEq, Option.some.injEq, true_and, and_true, exists_eq_left', exists_eq_right, exists_and_left, exists_const, true_or, or_true, ne_eq, not_true_eq_false, not_false_eq_true, reduceCtorEq, false_and, and_false, if_true, if_false, forall_const, true_implies, false_implies, implies_true, qI_wI, qI_wP, qP_wI, qP_wP, qN_wI, qN_wP, and_self, nI_add, pk_mul, nI_clamp, vp_in_nI, ng_1, ng_10, nI_eq32, cs_0, cs_1, cs_2, cs_3, cs_4, cs_5, cs_6, cs_7, cs_8, cs_9, cs_10, cs_11, cs_12, cs_13, cs_14, cs_15, cs_16, cs_17, cs_18, cs_19, cs_20, cs_21, cs_22, cs_23, cs_24, cs_25, cs_26, cs_27, cs_28, cs_29, cs_30, cs_31, cs_32, cs_33, cs_34, cs_35, cs_36, cs_37, cs_38, cs_39, cs_40, cs_41, cs_42, cs_43, cs_44, cs_45, cs_46, cs_47, cs_48, cs_49, cs_50, cs_51, cs_52, cs_53, cs_54, cs_55, cs_56, cs_57, cs_58, cs_59, cs_60, cs_61, cs_62, cs_63, cs_64, cs_97, cs_100, cs_122, cs_200, cs_300, cs_448, cs_1000, al_11, al_12, al_13, al_14, al_15, al_16, al_17, al_18, al_19, al_20, al_21, al_22, al_23, al_24, al_25, al_26, al_27, al_28, al_29, al_30, al_31, al_32, al_33, al_34, al_35, al_36, al_37, al_38, al_39, al_40, al_41, al_42, al_43, al_44, al_45, al_46, al_47]
    exact hQ.no (by omega) hM
  refine ev_at hC (fun pc => pc == 30 || pc == 40) 9 0 (ls := [some v9, some (.inl x), some (.inl y), none, none, none]) ?_
  try simp only [↓cb_X9_mend_0, ↓cb_X9_mend_14, ↓cb_X9_mend_19, ↓cb_X9_mend_30, ↓cb_X9_mend_40, ↓cb_X9_mend_64, ↓cb_X9_mend_65, ↓cb_X9_mend_82, ↓cb_X9_mend_111, ↓te_aload, ↓te_astore, ↓te_callV, ↓te_const, ↓te_getI, ↓te_getP, ↓te_goto, ↓te_if, ↓te_ifnonnull, ↓te_ifnull, ↓te_iload, ↓te_iret, ↓te_null, ↓te_pop, ↓te_putI, ↓te_throw, ↓evb_c, ↓evb_n, ↓evk_ap, ↓evm_cut, ↓evm_go, ↓evm_0, ↓jret_v, ↓jret_n, jget, jset, cond_true, cond_false, Nat.reduceBEq, jc1, List.take_succ_cons, List.take_zero, List.drop_succ_cons, List.drop_zero, List.reverse_cons, List.reverse_nil, List.nil_append, List.cons_append, List.length_cons, List.length_nil, Nat.zero_add, Nat.reduceAdd, beq_self_eq_true, true_and, and_true, Nat.reduceLeDiff, Nat.le_refl, Nat.zero_le, Bool.or_true, Bool.true_or, Bool.or_false, Bool.false_or, Bool.or_self]
  try simp (disch := omega) only [Nat.reduceEqDiff, Prod.mk.injEq, Option.some.injEq, true_and, and_true, exists_eq_left', exists_eq_right, exists_and_left, exists_const, true_or, or_true, ne_eq, not_true_eq_false, not_false_eq_true, reduceCtorEq, false_and, and_false, if_true, if_false, forall_const, true_implies, false_implies, implies_true, qI_wI, qI_wP, qP_wI, qP_wP, qN_wI, qN_wP, and_self, nI_add, pk_mul, nI_clamp, vp_in_nI, ng_1, ng_10, nI_eq32, cs_0, cs_1, cs_2, cs_3, cs_4, cs_5, cs_6, cs_7, cs_8, cs_9, cs_10, cs_11, cs_12, cs_13, cs_14, cs_15, cs_16, cs_17, cs_18, cs_19, cs_20, cs_21, cs_22, cs_23, cs_24, cs_25, cs_26, cs_27, cs_28, cs_29, cs_30, cs_31, cs_32, cs_33, cs_34, cs_35, cs_36, cs_37, cs_38, cs_39, cs_40, cs_41, cs_42, cs_43, cs_44, cs_45, cs_46, cs_47, cs_48, cs_49, cs_50, cs_51, cs_52, cs_53, cs_54, cs_55, cs_56, cs_57, cs_58, cs_59, cs_60, cs_61, cs_62, cs_63, cs_64, cs_97, cs_100, cs_122, cs_200, cs_300, cs_448, cs_1000, al_11, al_12, al_13, al_14, al_15, al_16, al_17, al_18, al_19, al_20, al_21, al_22, al_23, al_24, al_25, al_26, al_27, al_28, al_29, al_30, al_31, al_32, al_33, al_34, al_35, al_36, al_37, al_38, al_39, al_40, al_41, al_42, al_43, al_44, al_45, al_46, al_47]
  refine cc_lineOf G hn.2.1 hM.1 ?_
  unfold lnP
  by_cases h1 : isLn S x
  · rw [if_pos h1]
    obtain ⟨h3, hx⟩ := in_lt (by omega) h1
    have hxl := (hW.2.2.1 (jn x) h3).1
    have hLm := hM.1.lm h3 hn.2.1 (by omega) (by omega)
    try simp only [↓cb_X9_mend_0, ↓cb_X9_mend_14, ↓cb_X9_mend_19, ↓cb_X9_mend_30, ↓cb_X9_mend_40, ↓cb_X9_mend_64, ↓cb_X9_mend_65, ↓cb_X9_mend_82, ↓cb_X9_mend_111, ↓te_aload, ↓te_astore, ↓te_callV, ↓te_const, ↓te_getI, ↓te_getP, ↓te_goto, ↓te_if, ↓te_ifnonnull, ↓te_ifnull, ↓te_iload, ↓te_iret, ↓te_null, ↓te_pop, ↓te_putI, ↓te_throw, ↓evb_c, ↓evb_n, ↓evk_ap, ↓evm_cut, ↓evm_go, ↓evm_0, ↓jret_v, ↓jret_n, jget, jset, cond_true, cond_false, Nat.reduceBEq, jc1, List.take_succ_cons, List.take_zero, List.drop_succ_cons, List.drop_zero, List.reverse_cons, List.reverse_nil, List.nil_append, List.cons_append, List.length_cons, List.length_nil, Nat.zero_add, Nat.reduceAdd, beq_self_eq_true, true_and, and_true, Nat.reduceLeDiff, Nat.le_refl, Nat.zero_le, Bool.or_true, Bool.true_or, Bool.or_false, Bool.false_or, Bool.or_self]
    try simp (disch := omega) only [Nat.reduceEqDiff, Prod.mk.injEq, Option.some.injEq, true_and, and_true, exists_eq_left', exists_eq_right, exists_and_left, exists_const, true_or, or_true, ne_eq, not_true_eq_false, not_false_eq_true, reduceCtorEq, false_and, and_false, if_true, if_false, forall_const, true_implies, false_implies, implies_true, qI_wI, qI_wP, qP_wI, qP_wP, qN_wI, qN_wP, and_self, nI_add, pk_mul, nI_clamp, vp_in_nI, ng_1, ng_10, nI_eq32, cs_0, cs_1, cs_2, cs_3, cs_4, cs_5, cs_6, cs_7, cs_8, cs_9, cs_10, cs_11, cs_12, cs_13, cs_14, cs_15, cs_16, cs_17, cs_18, cs_19, cs_20, cs_21, cs_22, cs_23, cs_24, cs_25, cs_26, cs_27, cs_28, cs_29, cs_30, cs_31, cs_32, cs_33, cs_34, cs_35, cs_36, cs_37, cs_38, cs_39, cs_40, cs_41, cs_42, cs_43, cs_44, cs_45, cs_46, cs_47, cs_48, cs_49, cs_50, cs_51, cs_52, cs_53, cs_54, cs_55, cs_56, cs_57, cs_58, cs_59, cs_60, cs_61, cs_62, cs_63, cs_64, cs_97, cs_100, cs_122, cs_200, cs_300, cs_448, cs_1000, al_11, al_12, al_13, al_14, al_15, al_16, al_17, al_18, al_19, al_20, al_21, al_22, al_23, al_24, al_25, al_26, al_27, al_28, al_29, al_30, al_31, al_32, al_33, al_34, al_35, al_36, al_37, al_38, al_39, al_40, al_41, al_42, al_43, al_44, al_45, al_46, al_47]
    refine cc_lsort G hLm ?_
    unfold stP
    by_cases h2 : inR y 0 (nI (S 35 (jn x)) - nI 1)
    · rw [if_pos h2]
      rw [if_pos ⟨h1, h2⟩] at hQ
      obtain ⟨h4, hy⟩ := in_lt (by omega) h2
      generalize jn x = l at *
      generalize jn y = k at *
      subst hx hy
      have k40 : Wn 40 [some v9, some (vI l), some (vI k), some (oR 3 (p l)), some (oR 6 (S 36 (64 * l + k))), none] [] M 0 0 := by
        have hlf := hM.1.lf hW h3
        have hLr := hW.2.2.1 l h3
        have h37 := hLr.2.2.2.1 k h4
        have h34 := hLr.2.1
        have a5 := hLm.1.1.1
        have kbad : (¬ spWrong S l k ∨ (¬ spOn S (S 37 (64 * l + k)) ∧ spHp S (S 37 (64 * l + k)) = jNo)) → Wn 65 [some v9, some (vI l), some (vI k), some (oR 3 (p l)), some (oR 6 (S 36 (64 * l + k))), none] [.inr (.inr (6, none))] M 0 0 := by
          intro h
          rw [if_pos h] at hQ
          have g := hQ.no (by omega) hM
          refine ev_at hC (fun pc => false) 9 65 (ls := [some v9, some (vI l), some (vI k), some (oR 3 (p l)), some (oR 6 (S 36 (64 * l + k))), none]) ?_
          try simp only [↓cb_X9_mend_0, ↓cb_X9_mend_14, ↓cb_X9_mend_19, ↓cb_X9_mend_30, ↓cb_X9_mend_40, ↓cb_X9_mend_64, ↓cb_X9_mend_65, ↓cb_X9_mend_82, ↓cb_X9_mend_111, ↓te_aload, ↓te_astore, ↓te_callV, ↓te_const, ↓te_getI, ↓te_getP, ↓te_goto, ↓te_if, ↓te_ifnonnull, ↓te_ifnull, ↓te_iload, ↓te_iret, ↓te_null, ↓te_pop, ↓te_putI, ↓te_throw, ↓evb_c, ↓evb_n, ↓evk_ap, ↓evm_cut, ↓evm_go, ↓evm_0, ↓jret_v, ↓jret_n, jget, jset, cond_true, cond_false, Nat.reduceBEq, jc1, List.take_succ_cons, List.take_zero, List.drop_succ_cons, List.drop_zero, List.reverse_cons, List.reverse_nil, List.nil_append, List.cons_append, List.length_cons, List.length_nil, Nat.zero_add, Nat.reduceAdd, beq_self_eq_true, true_and, and_true, Nat.reduceLeDiff, Nat.le_refl, Nat.zero_le, Bool.or_true, Bool.true_or, Bool.or_false, Bool.false_or, Bool.or_self]
          try simp (disch := omega) only [Nat.reduceEqDiff, Prod.mk.injEq, Option.some.injEq, true_and, and_true, exists_eq_left', exists_eq_right, exists_and_left, exists_const, true_or, or_true, ne_eq, not_true_eq_false, not_false_eq_true, reduceCtorEq, false_and, and_false, if_true, if_false, forall_const, true_implies, false_implies, implies_true, qI_wI, qI_wP, qP_wI, qP_wP, qN_wI, qN_wP, and_self, nI_add, pk_mul, nI_clamp, vp_in_nI, ng_1, ng_10, nI_eq32, cs_0, cs_1, cs_2, cs_3, cs_4, cs_5, cs_6, cs_7, cs_8, cs_9, cs_10, cs_11, cs_12, cs_13, cs_14, cs_15, cs_16, cs_17, cs_18, cs_19, cs_20, cs_21, cs_22, cs_23, cs_24, cs_25, cs_26, cs_27, cs_28, cs_29, cs_30, cs_31, cs_32, cs_33, cs_34, cs_35, cs_36, cs_37, cs_38, cs_39, cs_40, cs_41, cs_42, cs_43, cs_44, cs_45, cs_46, cs_47, cs_48, cs_49, cs_50, cs_51, cs_52, cs_53, cs_54, cs_55, cs_56, cs_57, cs_58, cs_59, cs_60, cs_61, cs_62, cs_63, cs_64, cs_97, cs_100, cs_122, cs_200, cs_300, cs_448, cs_1000, al_11, al_12, al_13, al_14, al_15, al_16, al_17, al_18, al_19, al_20, al_21, al_22, al_23, al_24, al_25, al_26, al_27, al_28, al_29, al_30, al_31, al_32, al_33, al_34, al_35, al_36, al_37, al_38, al_39, al_40, al_41, al_42, al_43, al_44, al_45, al_46, al_47]
          first
            | exact g
            | exact ⟨fun z => absurd rfl z, fun _ => g⟩
        have kok : spWrong S l k → (spOn S (S 37 (64 * l + k)) ∨ ¬ spHp S (S 37 (64 * l + k)) = jNo) → ∀ M1, CX M0 M1 (spGot (sw S 10 0 0) (S 37 (64 * l + k))) p → Wn 65 [some v9, some (vI l), some (vI k), some (oR 3 (p l)), some (oR 6 (S 36 (64 * l + k))), none] [oR 6 (spNext S (S 37 (64 * l + k)))] M1 0 0 := by
          intro c1 c2 M1 hM1
          rw [if_neg (by rintro (q | q); exact q c1; exact c2.elim q.1 (fun z => z q.2))] at hQ
          have hWr : Wf (sw S 10 0 0) := hW.ref
          have c2u : spOn (sw S 10 0 0) (S 37 (64 * l + k)) ∨ ¬ spHp (sw S 10 0 0) (S 37 (64 * l + k)) = jNo := by rw [spHp_sw]; exact c2
          have hgc := spGot_WC (w := S 37 (64 * l + k)) hWr.1 (by omega) c2u
          have hWm := Wf_mid hWr (l := l) (k := k) h3 h4 c2u
          have hsw : spNext (sw S 10 0 0) (S 37 (64 * l + k)) = spNext S (S 37 (64 * l + k)) := spNext_sw
          have em : spMid (sw S 10 0 0) l k = spHome (sw (sw (spGot (sw S 10 0 0) (S 37 (64 * l + k))) 36 (64 * l + k) (spNext S (S 37 (64 * l + k)))) 27 (spNext S (S 37 (64 * l + k))) 1) (S 36 (64 * l + k)) := by
            unfold spMid
            rw [show sw S 10 0 0 37 (64 * l + k) = S 37 (64 * l + k) from rfl, hsw]
            rfl
          rw [hsw] at hgc
          have emf : spMendF (sw S 10 0 0) l k = spFill (spEmpty (if S 42 l = jNo then spMid (sw S 10 0 0) l k else sw (spMid (sw S 10 0 0) l k) 43 (S 42 l) 0) l) l := by
            unfold spMendF
            rw [spMend_eq, show sw S 10 0 0 42 l = S 42 l from rfl]
            split
            · rfl
            · rw [spEmpty_43, spFill_43]
          rw [emf] at hQ
          have hUr : ∀ a b, ¬ a = 10 → sw S 10 0 0 a b = S a b := fun a b hab => by rw [sw_at, if_neg (fun q => hab q.1)]
          have hU1 : sw S 10 0 0 10 1 = S 10 1 := rfl
          have hU14 : sw S 10 0 0 10 14 = S 10 14 := rfl
          have hU24 : sw S 10 0 0 10 24 = S 10 24 := rfl
          have hU9 : sw S 10 0 0 10 9 = S 10 9 := rfl
          generalize hUU : sw S 10 0 0 = U at *
          generalize hww : S 37 (64 * l + k) = w at *
          generalize hss : spNext S w = s at *
          have gr : ∀ a b, ¬ (a = 30 ∨ a = 31 ∨ (a = 10 ∧ b = 9)) → spGot U w a b = U a b := fun a b hab => spGot_row U w hab
          have hs := hgc.2.2.live (s := s) (by show 0 < _ + _ + (_ + ind s s); rw [ind_self]; omega)
          rw [gr 10 1 (by omega), hU1, gr 27 s (by omega)] at hs
          have hnoL : ∀ l' k', l' < S 10 14 → k' < S 35 l' → ¬ S 36 (64 * l' + k') = s := fun l' k' hl' hk' e => by
            have q1 := hgc.2.2.le1 s
            have q2 := Wf.lineR (S := S) hl' hk'
            rw [e] at q2
            have q3 : lws U (ind s) (U 10 14) = lws S (ind s) (S 10 14) := by
              rw [hU14]
              exact lws_congr (fun b => hUr 35 b (by omega)) (fun b => hUr 36 b (by omega)) (ind s)
            simp only [ind_self] at q1
            have q4 : 0 < lws S (ind s) (S 10 14) := q2
            omega
          have hM2 := CX_rep (l := l) (k := k) (s := s) hM1 (by rw [gr 10 14 (by omega), hU14]; exact h3) (by rw [gr 10 14 (by omega), hU14]; exact hn.2.1) (fun l' hl' => by rw [gr 10 14 (by omega), hU14] at hl'; rw [gr 35 _ (by omega), hUr 35 _ (by omega)]; have := (hW.2.2.1 l' hl').1; omega) (by rw [gr 35 _ (by omega), hUr 35 _ (by omega)]; exact h4) (fun l' k' hl' hk' => by
            rw [gr 10 14 (by omega), hU14] at hl'
            rw [gr 35 _ (by omega), hUr 35 _ (by omega)] at hk'
            rw [gr 36 _ (by omega), hUr 36 _ (by omega)]
            exact hnoL l' k' hl' hk') (by rw [gr 27 s (by omega)]; exact hs.2)
          have hold := hW.inLine h3 h4
          have hold27 := hW.2.1 l k h3 h4
          have holdne := hnoL l k h3 h4
          have hflt : 0 < (fun x => lws U x (U 10 14) + x s) (ind (S 36 (64 * l + k))) := by
            have q2 := Wf.lineR (S := S) h3 h4
            have q3 : lws U (ind (S 36 (64 * l + k))) (U 10 14) = lws S (ind (S 36 (64 * l + k))) (S 10 14) := by
              rw [hU14]
              exact lws_congr (fun b => hUr 35 b (by omega)) (fun b => hUr 36 b (by omega)) _
            have q4 : 0 < lws S (ind (S 36 (64 * l + k))) (S 10 14) := q2
            show 0 < lws U (ind (S 36 (64 * l + k))) (U 10 14) + _
            omega
          have hBr : ∀ a b, ¬ (a = 36 ∨ a = 27) → sw (sw (spGot U w) 36 (64 * l + k) s) 27 s 1 a b = spGot U w a b := fun a b hab => by rw [sw_at, if_neg (by omega), sw_at, if_neg (by omega)]
          have hcnt : ∀ j, j < 58 → spGot U w 30 j < 300 := fun j hj => by
            have q1 : spGot U w 30 j + spGot U w 10 9 + (lws U (fun _ => 1) (U 10 14) + 1) ≤ spGot U w 10 1 := hgc.2.2.cnt hj
            rw [gr 10 1 (by omega), hU1] at q1
            omega
          have hF : ∀ t, S 25 t < 58 := hW.1.1.2.2.1
          have k111 : ∀ M4, CX M0 M4 (if S 42 l = jNo then spMid U l k else sw (spMid U l k) 43 (S 42 l) 0) p → Wn 111 [some v9, some (vI l), some (vI k), some (oR 3 (p l)), some (oR 6 (S 36 (64 * l + k))), some (oR 6 s)] [] M4 0 0 := by
            intro M4 hM4
            have hW4 : Wf (if S 42 l = jNo then spMid U l k else sw (spMid U l k) 43 (S 42 l) 0) := by
              split
              · exact hWm
              · rename_i q
                refine hWm.st ?_ (by omega)
                rw [spMid_row U l k (by omega), hU24]
                rcases hLr.2.2.1 with z | z
                · exact absurd z q
                · exact z
            have d14 : (if S 42 l = jNo then spMid U l k else sw (spMid U l k) 43 (S 42 l) 0) 10 14 = S 10 14 := by
              split
              · rw [spMid_row U l k (by omega), hU14]
              · rw [sw_at, if_neg (by omega), spMid_row U l k (by omega), hU14]
            have d1 : (if S 42 l = jNo then spMid U l k else sw (spMid U l k) 43 (S 42 l) 0) 10 1 = S 10 1 := by
              split
              · rw [spMid_row U l k (by omega), hU1]
              · rw [sw_at, if_neg (by omega), spMid_row U l k (by omega), hU1]
            generalize (if S 42 l = jNo then spMid U l k else sw (spMid U l k) 43 (S 42 l) 0) = C at *
            have b3 := hM4.1.1.1.2.2.1
            have hxC : ∀ l', l' < C 10 14 → C 38 l' ≤ 60 := fun l' q => by have := (hW4.2.2.1 l' q).1; omega
            refine ev_at hC (fun pc => false) 9 111 (ls := [some v9, some (vI l), some (vI k), some (oR 3 (p l)), some (oR 6 (S 36 (64 * l + k))), some (oR 6 s)]) ?_
            try simp only [↓cb_X9_mend_0, ↓cb_X9_mend_14, ↓cb_X9_mend_19, ↓cb_X9_mend_30, ↓cb_X9_mend_40, ↓cb_X9_mend_64, ↓cb_X9_mend_65, ↓cb_X9_mend_82, ↓cb_X9_mend_111, ↓te_aload, ↓te_astore, ↓te_callV, ↓te_const, ↓te_getI, ↓te_getP, ↓te_goto, ↓te_if, ↓te_ifnonnull, ↓te_ifnull, ↓te_iload, ↓te_iret, ↓te_null, ↓te_pop, ↓te_putI, ↓te_throw, ↓evb_c, ↓evb_n, ↓evk_ap, ↓evm_cut, ↓evm_go, ↓evm_0, ↓jret_v, ↓jret_n, jget, jset, cond_true, cond_false, Nat.reduceBEq, jc1, List.take_succ_cons, List.take_zero, List.drop_succ_cons, List.drop_zero, List.reverse_cons, List.reverse_nil, List.nil_append, List.cons_append, List.length_cons, List.length_nil, Nat.zero_add, Nat.reduceAdd, beq_self_eq_true, true_and, and_true, Nat.reduceLeDiff, Nat.le_refl, Nat.zero_le, Bool.or_true, Bool.true_or, Bool.or_false, Bool.false_or, Bool.or_self]
            try simp (disch := omega) only [Nat.reduceEqDiff, Prod.mk.injEq, Option.some.injEq, true_and, and_true, exists_eq_left', exists_eq_right, exists_and_left, exists_const, true_or, or_true, ne_eq, not_true_eq_false, not_false_eq_true, reduceCtorEq, false_and, and_false, if_true, if_false, forall_const, true_implies, false_implies, implies_true, qI_wI, qI_wP, qP_wI, qP_wP, qN_wI, qN_wP, and_self, nI_add, pk_mul, nI_clamp, vp_in_nI, ng_1, ng_10, nI_eq32, cs_0, cs_1, cs_2, cs_3, cs_4, cs_5, cs_6, cs_7, cs_8, cs_9, cs_10, cs_11, cs_12, cs_13, cs_14, cs_15, cs_16, cs_17, cs_18, cs_19, cs_20, cs_21, cs_22, cs_23, cs_24, cs_25, cs_26, cs_27, cs_28, cs_29, cs_30, cs_31, cs_32, cs_33, cs_34, cs_35, cs_36, cs_37, cs_38, cs_39, cs_40, cs_41, cs_42, cs_43, cs_44, cs_45, cs_46, cs_47, cs_48, cs_49, cs_50, cs_51, cs_52, cs_53, cs_54, cs_55, cs_56, cs_57, cs_58, cs_59, cs_60, cs_61, cs_62, cs_63, cs_64, cs_97, cs_100, cs_122, cs_200, cs_300, cs_448, cs_1000, al_11, al_12, al_13, al_14, al_15, al_16, al_17, al_18, al_19, al_20, al_21, al_22, al_23, al_24, al_25, al_26, al_27, al_28, al_29, al_30, al_31, al_32, al_33, al_34, al_35, al_36, al_37, al_38, al_39, al_40, al_41, al_42, al_43, al_44, al_45, al_46, al_47, b3]
            refine cc_takeBack G hM4 (by rw [d14]; exact h3) (by rw [d14]; exact hn.2.1) hxC (fun M5 hM5 hz5 => ?_)
            have hW5 := Wf_empty hW4 (l := l) (by rw [d14]; exact h3)
            have f14 : spEmpty C l 10 14 = S 10 14 := by rw [spEmpty_row C l (by omega), d14]
            have f1 : spEmpty C l 10 1 = S 10 1 := by rw [spEmpty_row C l (by omega), d1]
            generalize spEmpty C l = D at *
            have hxD : ∀ l', l' < D 10 14 → D 38 l' ≤ 60 := fun l' q => by have := (hW5.2.2.1 l' q).1; omega
            have h38 := hxD l (by rw [f14]; exact h3)
            have hWz := Wf_zero hW5 l (448 * l + 7 * D 38 l + 7)
            have hMz : CX M0 M5 (spZero D l (448 * l + 7 * D 38 l + 7)) p := by
              refine ⟨CM_zero hM5.1 (l := l) (by rw [f14]; exact h3) (by rw [f14]; exact hn.2.1) hxD hz5 (fun a b hab => ?_) (fun g u g1 g2 g3 => ?_) (fun l' g u g1 g2 g3 g4 => ?_), hM5.2⟩
              · unfold spZero
                rw [if_neg (by omega)]
              · unfold spZero
                rw [if_pos (by omega)]
              · unfold spZero
                have := hxD l' g1
                rw [if_neg ?_]
                rcases Nat.lt_trichotomy l' l with q | q | q <;> omega
            try simp only [↓cb_X9_mend_0, ↓cb_X9_mend_14, ↓cb_X9_mend_19, ↓cb_X9_mend_30, ↓cb_X9_mend_40, ↓cb_X9_mend_64, ↓cb_X9_mend_65, ↓cb_X9_mend_82, ↓cb_X9_mend_111, ↓te_aload, ↓te_astore, ↓te_callV, ↓te_const, ↓te_getI, ↓te_getP, ↓te_goto, ↓te_if, ↓te_ifnonnull, ↓te_ifnull, ↓te_iload, ↓te_iret, ↓te_null, ↓te_pop, ↓te_putI, ↓te_throw, ↓evb_c, ↓evb_n, ↓evk_ap, ↓evm_cut, ↓evm_go, ↓evm_0, ↓jret_v, ↓jret_n, jget, jset, cond_true, cond_false, Nat.reduceBEq, jc1, List.take_succ_cons, List.take_zero, List.drop_succ_cons, List.drop_zero, List.reverse_cons, List.reverse_nil, List.nil_append, List.cons_append, List.length_cons, List.length_nil, Nat.zero_add, Nat.reduceAdd, beq_self_eq_true, true_and, and_true, Nat.reduceLeDiff, Nat.le_refl, Nat.zero_le, Bool.or_true, Bool.true_or, Bool.or_false, Bool.false_or, Bool.or_self]
            try simp (disch := omega) only [Nat.reduceEqDiff, Prod.mk.injEq, Option.some.injEq, true_and, and_true, exists_eq_left', exists_eq_right, exists_and_left, exists_const, true_or, or_true, ne_eq, not_true_eq_false, not_false_eq_true, reduceCtorEq, false_and, and_false, if_true, if_false, forall_const, true_implies, false_implies, implies_true, qI_wI, qI_wP, qP_wI, qP_wP, qN_wI, qN_wP, and_self, nI_add, pk_mul, nI_clamp, vp_in_nI, ng_1, ng_10, nI_eq32, cs_0, cs_1, cs_2, cs_3, cs_4, cs_5, cs_6, cs_7, cs_8, cs_9, cs_10, cs_11, cs_12, cs_13, cs_14, cs_15, cs_16, cs_17, cs_18, cs_19, cs_20, cs_21, cs_22, cs_23, cs_24, cs_25, cs_26, cs_27, cs_28, cs_29, cs_30, cs_31, cs_32, cs_33, cs_34, cs_35, cs_36, cs_37, cs_38, cs_39, cs_40, cs_41, cs_42, cs_43, cs_44, cs_45, cs_46, cs_47, cs_48, cs_49, cs_50, cs_51, cs_52, cs_53, cs_54, cs_55, cs_56, cs_57, cs_58, cs_59, cs_60, cs_61, cs_62, cs_63, cs_64, cs_97, cs_100, cs_122, cs_200, cs_300, cs_448, cs_1000, al_11, al_12, al_13, al_14, al_15, al_16, al_17, al_18, al_19, al_20, al_21, al_22, al_23, al_24, al_25, al_26, al_27, al_28, al_29, al_30, al_31, al_32, al_33, al_34, al_35, al_36, al_37, al_38, al_39, al_40, al_41, al_42, al_43, al_44, al_45, al_46, al_47]
            refine cc_fill G hMz hWz (by rw [f14]; exact h3) (fun M6 hM6 => ?_)
            have f61 : spFill D l 10 1 = S 10 1 := by rw [spFill_row D l (by omega) (by omega), f1]
            have o6 := (hM6.1.2.2.2.2.2.2.1.at (s := s) (by rw [f61]; exact hs.1)).1
            try simp only [↓cb_X9_mend_0, ↓cb_X9_mend_14, ↓cb_X9_mend_19, ↓cb_X9_mend_30, ↓cb_X9_mend_40, ↓cb_X9_mend_64, ↓cb_X9_mend_65, ↓cb_X9_mend_82, ↓cb_X9_mend_111, ↓te_aload, ↓te_astore, ↓te_callV, ↓te_const, ↓te_getI, ↓te_getP, ↓te_goto, ↓te_if, ↓te_ifnonnull, ↓te_ifnull, ↓te_iload, ↓te_iret, ↓te_null, ↓te_pop, ↓te_putI, ↓te_throw, ↓evb_c, ↓evb_n, ↓evk_ap, ↓evm_cut, ↓evm_go, ↓evm_0, ↓jret_v, ↓jret_n, jget, jset, cond_true, cond_false, Nat.reduceBEq, jc1, List.take_succ_cons, List.take_zero, List.drop_succ_cons, List.drop_zero, List.reverse_cons, List.reverse_nil, List.nil_append, List.cons_append, List.length_cons, List.length_nil, Nat.zero_add, Nat.reduceAdd, beq_self_eq_true, true_and, and_true, Nat.reduceLeDiff, Nat.le_refl, Nat.zero_le, Bool.or_true, Bool.true_or, Bool.or_false, Bool.false_or, Bool.or_self]
            try simp (disch := omega) only [Nat.reduceEqDiff, Prod.mk.injEq, Option.some.injEq, true_and, and_true, exists_eq_left', exists_eq_right, exists_and_left, exists_const, true_or, or_true, ne_eq, not_true_eq_false, not_false_eq_true, reduceCtorEq, false_and, and_false, if_true, if_false, forall_const, true_implies, false_implies, implies_true, qI_wI, qI_wP, qP_wI, qP_wP, qN_wI, qN_wP, and_self, nI_add, pk_mul, nI_clamp, vp_in_nI, ng_1, ng_10, nI_eq32, cs_0, cs_1, cs_2, cs_3, cs_4, cs_5, cs_6, cs_7, cs_8, cs_9, cs_10, cs_11, cs_12, cs_13, cs_14, cs_15, cs_16, cs_17, cs_18, cs_19, cs_20, cs_21, cs_22, cs_23, cs_24, cs_25, cs_26, cs_27, cs_28, cs_29, cs_30, cs_31, cs_32, cs_33, cs_34, cs_35, cs_36, cs_37, cs_38, cs_39, cs_40, cs_41, cs_42, cs_43, cs_44, cs_45, cs_46, cs_47, cs_48, cs_49, cs_50, cs_51, cs_52, cs_53, cs_54, cs_55, cs_56, cs_57, cs_58, cs_59, cs_60, cs_61, cs_62, cs_63, cs_64, cs_97, cs_100, cs_122, cs_200, cs_300, cs_448, cs_1000, al_11, al_12, al_13, al_14, al_15, al_16, al_17, al_18, al_19, al_20, al_21, al_22, al_23, al_24, al_25, al_26, al_27, al_28, al_29, al_30, al_31, al_32, al_33, al_34, al_35, al_36, al_37, al_38, al_39, al_40, al_41, al_42, al_43, al_44, al_45, al_46, al_47, o6]
            exact hQ.ok hM6
          have k82 : Wn 82 [some v9, some (vI l), some (vI k), some (oR 3 (p l)), some (oR 6 (S 36 (64 * l + k))), some (oR 6 s)] [] M1 0 0 := by
            have hLm1 := hM1.1.lm (l := l) (by rw [gr 10 14 (by omega), hU14]; exact h3) (by rw [gr 10 14 (by omega), hU14]; exact hn.2.1) (by rw [gr 35 l (by omega), hUr 35 l (by omega)]; omega) (by rw [gr 38 l (by omega), hUr 38 l (by omega)]; omega)
            refine ev_at hC (fun pc => pc == 111) 9 82 (ls := [some v9, some (vI l), some (vI k), some (oR 3 (p l)), some (oR 6 (S 36 (64 * l + k))), some (oR 6 s)]) ?_
            try simp only [↓cb_X9_mend_0, ↓cb_X9_mend_14, ↓cb_X9_mend_19, ↓cb_X9_mend_30, ↓cb_X9_mend_40, ↓cb_X9_mend_64, ↓cb_X9_mend_65, ↓cb_X9_mend_82, ↓cb_X9_mend_111, ↓te_aload, ↓te_astore, ↓te_callV, ↓te_const, ↓te_getI, ↓te_getP, ↓te_goto, ↓te_if, ↓te_ifnonnull, ↓te_ifnull, ↓te_iload, ↓te_iret, ↓te_null, ↓te_pop, ↓te_putI, ↓te_throw, ↓evb_c, ↓evb_n, ↓evk_ap, ↓evm_cut, ↓evm_go, ↓evm_0, ↓jret_v, ↓jret_n, jget, jset, cond_true, cond_false, Nat.reduceBEq, jc1, List.take_succ_cons, List.take_zero, List.drop_succ_cons, List.drop_zero, List.reverse_cons, List.reverse_nil, List.nil_append, List.cons_append, List.length_cons, List.length_nil, Nat.zero_add, Nat.reduceAdd, beq_self_eq_true, true_and, and_true, Nat.reduceLeDiff, Nat.le_refl, Nat.zero_le, Bool.or_true, Bool.true_or, Bool.or_false, Bool.false_or, Bool.or_self]
            try simp (disch := omega) only [Nat.reduceEqDiff, Prod.mk.injEq, Option.some.injEq, true_and, and_true, exists_eq_left', exists_eq_right, exists_and_left, exists_const, true_or, or_true, ne_eq, not_true_eq_false, not_false_eq_true, reduceCtorEq, false_and, and_false, if_true, if_false, forall_const, true_implies, false_implies, implies_true, qI_wI, qI_wP, qP_wI, qP_wP, qN_wI, qN_wP, and_self, nI_add, pk_mul, nI_clamp, vp_in_nI, ng_1, ng_10, nI_eq32, cs_0, cs_1, cs_2, cs_3, cs_4, cs_5, cs_6, cs_7, cs_8, cs_9, cs_10, cs_11, cs_12, cs_13, cs_14, cs_15, cs_16, cs_17, cs_18, cs_19, cs_20, cs_21, cs_22, cs_23, cs_24, cs_25, cs_26, cs_27, cs_28, cs_29, cs_30, cs_31, cs_32, cs_33, cs_34, cs_35, cs_36, cs_37, cs_38, cs_39, cs_40, cs_41, cs_42, cs_43, cs_44, cs_45, cs_46, cs_47, cs_48, cs_49, cs_50, cs_51, cs_52, cs_53, cs_54, cs_55, cs_56, cs_57, cs_58, cs_59, cs_60, cs_61, cs_62, cs_63, cs_64, cs_97, cs_100, cs_122, cs_200, cs_300, cs_448, cs_1000, al_11, al_12, al_13, al_14, al_15, al_16, al_17, al_18, al_19, al_20, al_21, al_22, al_23, al_24, al_25, al_26, al_27, al_28, al_29, al_30, al_31, al_32, al_33, al_34, al_35, al_36, al_37, al_38, al_39, al_40, al_41, al_42, al_43, al_44, al_45, al_46, al_47]
            refine cc_replace G hLm1 (by rw [gr 35 l (by omega), hUr 35 l (by omega)]; exact h4) ?_
            try simp only [↓cb_X9_mend_0, ↓cb_X9_mend_14, ↓cb_X9_mend_19, ↓cb_X9_mend_30, ↓cb_X9_mend_40, ↓cb_X9_mend_64, ↓cb_X9_mend_65, ↓cb_X9_mend_82, ↓cb_X9_mend_111, ↓te_aload, ↓te_astore, ↓te_callV, ↓te_const, ↓te_getI, ↓te_getP, ↓te_goto, ↓te_if, ↓te_ifnonnull, ↓te_ifnull, ↓te_iload, ↓te_iret, ↓te_null, ↓te_pop, ↓te_putI, ↓te_throw, ↓evb_c, ↓evb_n, ↓evk_ap, ↓evm_cut, ↓evm_go, ↓evm_0, ↓jret_v, ↓jret_n, jget, jset, cond_true, cond_false, Nat.reduceBEq, jc1, List.take_succ_cons, List.take_zero, List.drop_succ_cons, List.drop_zero, List.reverse_cons, List.reverse_nil, List.nil_append, List.cons_append, List.length_cons, List.length_nil, Nat.zero_add, Nat.reduceAdd, beq_self_eq_true, true_and, and_true, Nat.reduceLeDiff, Nat.le_refl, Nat.zero_le, Bool.or_true, Bool.true_or, Bool.or_false, Bool.false_or, Bool.or_self]
            try simp (disch := omega) only [Nat.reduceEqDiff, Prod.mk.injEq, Option.some.injEq, true_and, and_true, exists_eq_left', exists_eq_right, exists_and_left, exists_const, true_or, or_true, ne_eq, not_true_eq_false, not_false_eq_true, reduceCtorEq, false_and, and_false, if_true, if_false, forall_const, true_implies, false_implies, implies_true, qI_wI, qI_wP, qP_wI, qP_wP, qN_wI, qN_wP, and_self, nI_add, pk_mul, nI_clamp, vp_in_nI, ng_1, ng_10, nI_eq32, cs_0, cs_1, cs_2, cs_3, cs_4, cs_5, cs_6, cs_7, cs_8, cs_9, cs_10, cs_11, cs_12, cs_13, cs_14, cs_15, cs_16, cs_17, cs_18, cs_19, cs_20, cs_21, cs_22, cs_23, cs_24, cs_25, cs_26, cs_27, cs_28, cs_29, cs_30, cs_31, cs_32, cs_33, cs_34, cs_35, cs_36, cs_37, cs_38, cs_39, cs_40, cs_41, cs_42, cs_43, cs_44, cs_45, cs_46, cs_47, cs_48, cs_49, cs_50, cs_51, cs_52, cs_53, cs_54, cs_55, cs_56, cs_57, cs_58, cs_59, cs_60, cs_61, cs_62, cs_63, cs_64, cs_97, cs_100, cs_122, cs_200, cs_300, cs_448, cs_1000, al_11, al_12, al_13, al_14, al_15, al_16, al_17, al_18, al_19, al_20, al_21, al_22, al_23, al_24, al_25, al_26, al_27, al_28, al_29, al_30, al_31, al_32, al_33, al_34, al_35, al_36, al_37, al_38, al_39, al_40, al_41, al_42, al_43, al_44, al_45, al_46, al_47]
            refine cc_giveBackN G hM2 ?_ ?_ ?_ (fun j hj => ?_) ?_ (fun j i hj hi => ?_) (fun M3 hM3 => ?_)
            · rw [hBr 10 1 (by omega), gr 10 1 (by omega), hU1]; exact hold
            · rw [sw_at, if_neg (fun q => holdne q.2), sw_at, if_neg (by omega), gr 27 _ (by omega), hUr 27 _ (by omega)]; omega
            · rw [hBr 25 _ (by omega), gr 25 _ (by omega), hUr 25 _ (by omega)]; exact hF _
            · rw [hBr 30 j (by omega)]; have := hcnt j hj; omega
            · rw [hBr 25 _ (by omega), gr 25 _ (by omega), hUr 25 _ (by omega), hBr 30 _ (by omega)]; exact hcnt _ (hF _)
            · rw [hBr 30 j (by omega)] at hi
              rw [hBr 29 _ (by omega)]
              exact hgc.2.2.noPile hflt hj hi
            · rw [← em] at hM3
              have b9 := hM3.1.fo (l := l) (by rw [spMid_row U l k (by omega), hU14]; exact h3)
              rw [spMid_row U l k (by omega), hUr 42 l (by omega)] at b9
              try simp only [↓cb_X9_mend_0, ↓cb_X9_mend_14, ↓cb_X9_mend_19, ↓cb_X9_mend_30, ↓cb_X9_mend_40, ↓cb_X9_mend_64, ↓cb_X9_mend_65, ↓cb_X9_mend_82, ↓cb_X9_mend_111, ↓te_aload, ↓te_astore, ↓te_callV, ↓te_const, ↓te_getI, ↓te_getP, ↓te_goto, ↓te_if, ↓te_ifnonnull, ↓te_ifnull, ↓te_iload, ↓te_iret, ↓te_null, ↓te_pop, ↓te_putI, ↓te_throw, ↓evb_c, ↓evb_n, ↓evk_ap, ↓evm_cut, ↓evm_go, ↓evm_0, ↓jret_v, ↓jret_n, jget, jset, cond_true, cond_false, Nat.reduceBEq, jc1, List.take_succ_cons, List.take_zero, List.drop_succ_cons, List.drop_zero, List.reverse_cons, List.reverse_nil, List.nil_append, List.cons_append, List.length_cons, List.length_nil, Nat.zero_add, Nat.reduceAdd, beq_self_eq_true, true_and, and_true, Nat.reduceLeDiff, Nat.le_refl, Nat.zero_le, Bool.or_true, Bool.true_or, Bool.or_false, Bool.false_or, Bool.or_self]
              try simp (disch := omega) only [Nat.reduceEqDiff, Prod.mk.injEq, Option.some.injEq, true_and, and_true, exists_eq_left', exists_eq_right, exists_and_left, exists_const, true_or, or_true, ne_eq, not_true_eq_false, not_false_eq_true, reduceCtorEq, false_and, and_false, if_true, if_false, forall_const, true_implies, false_implies, implies_true, qI_wI, qI_wP, qP_wI, qP_wP, qN_wI, qN_wP, and_self, nI_add, pk_mul, nI_clamp, vp_in_nI, ng_1, ng_10, nI_eq32, cs_0, cs_1, cs_2, cs_3, cs_4, cs_5, cs_6, cs_7, cs_8, cs_9, cs_10, cs_11, cs_12, cs_13, cs_14, cs_15, cs_16, cs_17, cs_18, cs_19, cs_20, cs_21, cs_22, cs_23, cs_24, cs_25, cs_26, cs_27, cs_28, cs_29, cs_30, cs_31, cs_32, cs_33, cs_34, cs_35, cs_36, cs_37, cs_38, cs_39, cs_40, cs_41, cs_42, cs_43, cs_44, cs_45, cs_46, cs_47, cs_48, cs_49, cs_50, cs_51, cs_52, cs_53, cs_54, cs_55, cs_56, cs_57, cs_58, cs_59, cs_60, cs_61, cs_62, cs_63, cs_64, cs_97, cs_100, cs_122, cs_200, cs_300, cs_448, cs_1000, al_11, al_12, al_13, al_14, al_15, al_16, al_17, al_18, al_19, al_20, al_21, al_22, al_23, al_24, al_25, al_26, al_27, al_28, al_29, al_30, al_31, al_32, al_33, al_34, al_35, al_36, al_37, al_38, al_39, al_40, al_41, al_42, al_43, al_44, al_45, al_46, al_47, b9]
              by_cases c : S 42 l = jNo
              · have g := k111 M3 (by rw [if_pos c]; exact hM3)
                have ef : foP (S 42 l) = none := if_pos c
                rw [ef]
                try simp (disch := omega) only [Nat.reduceEqDiff, Prod.mk.injEq, Option.some.injEq, true_and, and_true, exists_eq_left', exists_eq_right, exists_and_left, exists_const, true_or, or_true, ne_eq, not_true_eq_false, not_false_eq_true, reduceCtorEq, false_and, and_false, if_true, if_false, forall_const, true_implies, false_implies, implies_true, qI_wI, qI_wP, qP_wI, qP_wP, qN_wI, qN_wP, and_self, nI_add, pk_mul, nI_clamp, vp_in_nI, ng_1, ng_10, nI_eq32, cs_0, cs_1, cs_2, cs_3, cs_4, cs_5, cs_6, cs_7, cs_8, cs_9, cs_10, cs_11, cs_12, cs_13, cs_14, cs_15, cs_16, cs_17, cs_18, cs_19, cs_20, cs_21, cs_22, cs_23, cs_24, cs_25, cs_26, cs_27, cs_28, cs_29, cs_30, cs_31, cs_32, cs_33, cs_34, cs_35, cs_36, cs_37, cs_38, cs_39, cs_40, cs_41, cs_42, cs_43, cs_44, cs_45, cs_46, cs_47, cs_48, cs_49, cs_50, cs_51, cs_52, cs_53, cs_54, cs_55, cs_56, cs_57, cs_58, cs_59, cs_60, cs_61, cs_62, cs_63, cs_64, cs_97, cs_100, cs_122, cs_200, cs_300, cs_448, cs_1000, al_11, al_12, al_13, al_14, al_15, al_16, al_17, al_18, al_19, al_20, al_21, al_22, al_23, al_24, al_25, al_26, al_27, al_28, al_29, al_30, al_31, al_32, al_33, al_34, al_35, al_36, al_37, al_38, al_39, al_40, al_41, al_42, al_43, al_44, al_45, al_46, al_47]
                first
                  | exact g
                  | exact ⟨fun _ => g, fun z => absurd rfl z⟩
              · have g := k111 (wI M3 1 (S 42 l) 1 (nI 0)) (by rw [if_neg c]; exact CX_state hM3)
                have ef : foP (S 42 l) = some (S 42 l) := if_neg c
                rw [ef]
                try simp (disch := omega) only [Nat.reduceEqDiff, Prod.mk.injEq, Option.some.injEq, true_and, and_true, exists_eq_left', exists_eq_right, exists_and_left, exists_const, true_or, or_true, ne_eq, not_true_eq_false, not_false_eq_true, reduceCtorEq, false_and, and_false, if_true, if_false, forall_const, true_implies, false_implies, implies_true, qI_wI, qI_wP, qP_wI, qP_wP, qN_wI, qN_wP, and_self, nI_add, pk_mul, nI_clamp, vp_in_nI, ng_1, ng_10, nI_eq32, cs_0, cs_1, cs_2, cs_3, cs_4, cs_5, cs_6, cs_7, cs_8, cs_9, cs_10, cs_11, cs_12, cs_13, cs_14, cs_15, cs_16, cs_17, cs_18, cs_19, cs_20, cs_21, cs_22, cs_23, cs_24, cs_25, cs_26, cs_27, cs_28, cs_29, cs_30, cs_31, cs_32, cs_33, cs_34, cs_35, cs_36, cs_37, cs_38, cs_39, cs_40, cs_41, cs_42, cs_43, cs_44, cs_45, cs_46, cs_47, cs_48, cs_49, cs_50, cs_51, cs_52, cs_53, cs_54, cs_55, cs_56, cs_57, cs_58, cs_59, cs_60, cs_61, cs_62, cs_63, cs_64, cs_97, cs_100, cs_122, cs_200, cs_300, cs_448, cs_1000, al_11, al_12, al_13, al_14, al_15, al_16, al_17, al_18, al_19, al_20, al_21, al_22, al_23, al_24, al_25, al_26, al_27, al_28, al_29, al_30, al_31, al_32, al_33, al_34, al_35, al_36, al_37, al_38, al_39, al_40, al_41, al_42, al_43, al_44, al_45, al_46, al_47]
                first
                  | exact g
                  | exact ⟨fun z => absurd z (by simp), fun _ => g⟩
          refine ev_at hC (fun pc => pc == 82) 9 65 (ls := [some v9, some (vI l), some (vI k), some (oR 3 (p l)), some (oR 6 (S 36 (64 * l + k))), none]) ?_
          try simp only [↓cb_X9_mend_0, ↓cb_X9_mend_14, ↓cb_X9_mend_19, ↓cb_X9_mend_30, ↓cb_X9_mend_40, ↓cb_X9_mend_64, ↓cb_X9_mend_65, ↓cb_X9_mend_82, ↓cb_X9_mend_111, ↓te_aload, ↓te_astore, ↓te_callV, ↓te_const, ↓te_getI, ↓te_getP, ↓te_goto, ↓te_if, ↓te_ifnonnull, ↓te_ifnull, ↓te_iload, ↓te_iret, ↓te_null, ↓te_pop, ↓te_putI, ↓te_throw, ↓evb_c, ↓evb_n, ↓evk_ap, ↓evm_cut, ↓evm_go, ↓evm_0, ↓jret_v, ↓jret_n, jget, jset, cond_true, cond_false, Nat.reduceBEq, jc1, List.take_succ_cons, List.take_zero, List.drop_succ_cons, List.drop_zero, List.reverse_cons, List.reverse_nil, List.nil_append, List.cons_append, List.length_cons, List.length_nil, Nat.zero_add, Nat.reduceAdd, beq_self_eq_true, true_and, and_true, Nat.reduceLeDiff, Nat.le_refl, Nat.zero_le, Bool.or_true, Bool.true_or, Bool.or_false, Bool.false_or, Bool.or_self]
          try simp (disch := omega) only [Nat.reduceEqDiff, Prod.mk.injEq, Option.some.injEq, true_and, and_true, exists_eq_left', exists_eq_right, exists_and_left, exists_const, true_or, or_true, ne_eq, not_true_eq_false, not_false_eq_true, reduceCtorEq, false_and, and_false, if_true, if_false, forall_const, true_implies, false_implies, implies_true, qI_wI, qI_wP, qP_wI, qP_wP, qN_wI, qN_wP, and_self, nI_add, pk_mul, nI_clamp, vp_in_nI, ng_1, ng_10, nI_eq32, cs_0, cs_1, cs_2, cs_3, cs_4, cs_5, cs_6, cs_7, cs_8, cs_9, cs_10, cs_11, cs_12, cs_13, cs_14, cs_15, cs_16, cs_17, cs_18, cs_19, cs_20, cs_21, cs_22, cs_23, cs_24, cs_25, cs_26, cs_27, cs_28, cs_29, cs_30, cs_31, cs_32, cs_33, cs_34, cs_35, cs_36, cs_37, cs_38, cs_39, cs_40, cs_41, cs_42, cs_43, cs_44, cs_45, cs_46, cs_47, cs_48, cs_49, cs_50, cs_51, cs_52, cs_53, cs_54, cs_55, cs_56, cs_57, cs_58, cs_59, cs_60, cs_61, cs_62, cs_63, cs_64, cs_97, cs_100, cs_122, cs_200, cs_300, cs_448, cs_1000, al_11, al_12, al_13, al_14, al_15, al_16, al_17, al_18, al_19, al_20, al_21, al_22, al_23, al_24, al_25, al_26, al_27, al_28, al_29, al_30, al_31, al_32, al_33, al_34, al_35, al_36, al_37, al_38, al_39, al_40, al_41, al_42, al_43, al_44, al_45, al_46, al_47]
          first
            | exact k82
            | exact ⟨fun _ => k82, fun z => absurd z (by simp)⟩
        refine ev_at hC (fun pc => pc == 65) 9 40 (ls := [some v9, some (vI l), some (vI k), some (oR 3 (p l)), some (oR 6 (S 36 (64 * l + k))), none]) ?_
        try simp only [↓cb_X9_mend_0, ↓cb_X9_mend_14, ↓cb_X9_mend_19, ↓cb_X9_mend_30, ↓cb_X9_mend_40, ↓cb_X9_mend_64, ↓cb_X9_mend_65, ↓cb_X9_mend_82, ↓cb_X9_mend_111, ↓te_aload, ↓te_astore, ↓te_callV, ↓te_const, ↓te_getI, ↓te_getP, ↓te_goto, ↓te_if, ↓te_ifnonnull, ↓te_ifnull, ↓te_iload, ↓te_iret, ↓te_null, ↓te_pop, ↓te_putI, ↓te_throw, ↓evb_c, ↓evb_n, ↓evk_ap, ↓evm_cut, ↓evm_go, ↓evm_0, ↓jret_v, ↓jret_n, jget, jset, cond_true, cond_false, Nat.reduceBEq, jc1, List.take_succ_cons, List.take_zero, List.drop_succ_cons, List.drop_zero, List.reverse_cons, List.reverse_nil, List.nil_append, List.cons_append, List.length_cons, List.length_nil, Nat.zero_add, Nat.reduceAdd, beq_self_eq_true, true_and, and_true, Nat.reduceLeDiff, Nat.le_refl, Nat.zero_le, Bool.or_true, Bool.true_or, Bool.or_false, Bool.false_or, Bool.or_self]
        try simp (disch := omega) only [Nat.reduceEqDiff, Prod.mk.injEq, Option.some.injEq, true_and, and_true, exists_eq_left', exists_eq_right, exists_and_left, exists_const, true_or, or_true, ne_eq, not_true_eq_false, not_false_eq_true, reduceCtorEq, false_and, and_false, if_true, if_false, forall_const, true_implies, false_implies, implies_true, qI_wI, qI_wP, qP_wI, qP_wP, qN_wI, qN_wP, and_self, nI_add, pk_mul, nI_clamp, vp_in_nI, ng_1, ng_10, nI_eq32, cs_0, cs_1, cs_2, cs_3, cs_4, cs_5, cs_6, cs_7, cs_8, cs_9, cs_10, cs_11, cs_12, cs_13, cs_14, cs_15, cs_16, cs_17, cs_18, cs_19, cs_20, cs_21, cs_22, cs_23, cs_24, cs_25, cs_26, cs_27, cs_28, cs_29, cs_30, cs_31, cs_32, cs_33, cs_34, cs_35, cs_36, cs_37, cs_38, cs_39, cs_40, cs_41, cs_42, cs_43, cs_44, cs_45, cs_46, cs_47, cs_48, cs_49, cs_50, cs_51, cs_52, cs_53, cs_54, cs_55, cs_56, cs_57, cs_58, cs_59, cs_60, cs_61, cs_62, cs_63, cs_64, cs_97, cs_100, cs_122, cs_200, cs_300, cs_448, cs_1000, al_11, al_12, al_13, al_14, al_15, al_16, al_17, al_18, al_19, al_20, al_21, al_22, al_23, al_24, al_25, al_26, al_27, al_28, al_29, al_30, al_31, al_32, al_33, al_34, al_35, al_36, al_37, al_38, al_39, al_40, al_41, al_42, al_43, al_44, al_45, al_46, al_47]
        refine cc_isWrong G hlf h4 ?_
        by_cases c : spWrong S l k
        · rw [jb_t c]
          try simp only [↓cb_X9_mend_0, ↓cb_X9_mend_14, ↓cb_X9_mend_19, ↓cb_X9_mend_30, ↓cb_X9_mend_40, ↓cb_X9_mend_64, ↓cb_X9_mend_65, ↓cb_X9_mend_82, ↓cb_X9_mend_111, ↓te_aload, ↓te_astore, ↓te_callV, ↓te_const, ↓te_getI, ↓te_getP, ↓te_goto, ↓te_if, ↓te_ifnonnull, ↓te_ifnull, ↓te_iload, ↓te_iret, ↓te_null, ↓te_pop, ↓te_putI, ↓te_throw, ↓evb_c, ↓evb_n, ↓evk_ap, ↓evm_cut, ↓evm_go, ↓evm_0, ↓jret_v, ↓jret_n, jget, jset, cond_true, cond_false, Nat.reduceBEq, jc1, List.take_succ_cons, List.take_zero, List.drop_succ_cons, List.drop_zero, List.reverse_cons, List.reverse_nil, List.nil_append, List.cons_append, List.length_cons, List.length_nil, Nat.zero_add, Nat.reduceAdd, beq_self_eq_true, true_and, and_true, Nat.reduceLeDiff, Nat.le_refl, Nat.zero_le, Bool.or_true, Bool.true_or, Bool.or_false, Bool.false_or, Bool.or_self]
          try simp (disch := omega) only [Nat.reduceEqDiff, Prod.mk.injEq, Option.some.injEq, true_and, and_true, exists_eq_left', exists_eq_right, exists_and_left, exists_const, true_or, or_true, ne_eq, not_true_eq_false, not_false_eq_true, reduceCtorEq, false_and, and_false, if_true, if_false, forall_const, true_implies, false_implies, implies_true, qI_wI, qI_wP, qP_wI, qP_wP, qN_wI, qN_wP, and_self, nI_add, pk_mul, nI_clamp, vp_in_nI, ng_1, ng_10, nI_eq32, cs_0, cs_1, cs_2, cs_3, cs_4, cs_5, cs_6, cs_7, cs_8, cs_9, cs_10, cs_11, cs_12, cs_13, cs_14, cs_15, cs_16, cs_17, cs_18, cs_19, cs_20, cs_21, cs_22, cs_23, cs_24, cs_25, cs_26, cs_27, cs_28, cs_29, cs_30, cs_31, cs_32, cs_33, cs_34, cs_35, cs_36, cs_37, cs_38, cs_39, cs_40, cs_41, cs_42, cs_43, cs_44, cs_45, cs_46, cs_47, cs_48, cs_49, cs_50, cs_51, cs_52, cs_53, cs_54, cs_55, cs_56, cs_57, cs_58, cs_59, cs_60, cs_61, cs_62, cs_63, cs_64, cs_97, cs_100, cs_122, cs_200, cs_300, cs_448, cs_1000, al_11, al_12, al_13, al_14, al_15, al_16, al_17, al_18, al_19, al_20, al_21, al_22, al_23, al_24, al_25, al_26, al_27, al_28, al_29, al_30, al_31, al_32, al_33, al_34, al_35, al_36, al_37, al_38, al_39, al_40, al_41, al_42, al_43, al_44, al_45, al_46, al_47, a5]
          have tail : Mt G m_X3_askedOn [oR 3 (p l), vI k] M (jret (evk [ti_callV G m_X9_takeFace 9 2 1 6 0 0, ti_goto 65] (evm (cd_X9_mend G) (fun pc => pc == 65) Q Wn 9) Q (evm (cd_X9_mend G) (fun pc => pc == 65) Q Wn 9 61)) [some v9, some (vI l), some (vI k), some (oR 3 (p l)), some (oR 6 (S 36 (64 * l + k))), none] [vI (S 34 l), v9] 0 0) := by
            refine cc_asked_in G hLm h4 ?_
            try simp only [↓cb_X9_mend_0, ↓cb_X9_mend_14, ↓cb_X9_mend_19, ↓cb_X9_mend_30, ↓cb_X9_mend_40, ↓cb_X9_mend_64, ↓cb_X9_mend_65, ↓cb_X9_mend_82, ↓cb_X9_mend_111, ↓te_aload, ↓te_astore, ↓te_callV, ↓te_const, ↓te_getI, ↓te_getP, ↓te_goto, ↓te_if, ↓te_ifnonnull, ↓te_ifnull, ↓te_iload, ↓te_iret, ↓te_null, ↓te_pop, ↓te_putI, ↓te_throw, ↓evb_c, ↓evb_n, ↓evk_ap, ↓evm_cut, ↓evm_go, ↓evm_0, ↓jret_v, ↓jret_n, jget, jset, cond_true, cond_false, Nat.reduceBEq, jc1, List.take_succ_cons, List.take_zero, List.drop_succ_cons, List.drop_zero, List.reverse_cons, List.reverse_nil, List.nil_append, List.cons_append, List.length_cons, List.length_nil, Nat.zero_add, Nat.reduceAdd, beq_self_eq_true, true_and, and_true, Nat.reduceLeDiff, Nat.le_refl, Nat.zero_le, Bool.or_true, Bool.true_or, Bool.or_false, Bool.false_or, Bool.or_self]
            try simp (disch := omega) only [Nat.reduceEqDiff, Prod.mk.injEq, Option.some.injEq, true_and, and_true, exists_eq_left', exists_eq_right, exists_and_left, exists_const, true_or, or_true, ne_eq, not_true_eq_false, not_false_eq_true, reduceCtorEq, false_and, and_false, if_true, if_false, forall_const, true_implies, false_implies, implies_true, qI_wI, qI_wP, qP_wI, qP_wP, qN_wI, qN_wP, and_self, nI_add, pk_mul, nI_clamp, vp_in_nI, ng_1, ng_10, nI_eq32, cs_0, cs_1, cs_2, cs_3, cs_4, cs_5, cs_6, cs_7, cs_8, cs_9, cs_10, cs_11, cs_12, cs_13, cs_14, cs_15, cs_16, cs_17, cs_18, cs_19, cs_20, cs_21, cs_22, cs_23, cs_24, cs_25, cs_26, cs_27, cs_28, cs_29, cs_30, cs_31, cs_32, cs_33, cs_34, cs_35, cs_36, cs_37, cs_38, cs_39, cs_40, cs_41, cs_42, cs_43, cs_44, cs_45, cs_46, cs_47, cs_48, cs_49, cs_50, cs_51, cs_52, cs_53, cs_54, cs_55, cs_56, cs_57, cs_58, cs_59, cs_60, cs_61, cs_62, cs_63, cs_64, cs_97, cs_100, cs_122, cs_200, cs_300, cs_448, cs_1000, al_11, al_12, al_13, al_14, al_15, al_16, al_17, al_18, al_19, al_20, al_21, al_22, al_23, al_24, al_25, al_26, al_27, al_28, al_29, al_30, al_31, al_32, al_33, al_34, al_35, al_36, al_37, al_38, al_39, al_40, al_41, al_42, al_43, al_44, al_45, al_46, al_47]
            have ew : 29 * S 34 l + (S 37 (64 * l + k) - 29 * S 34 l) = S 37 (64 * l + k) := by omega
            refine cc_takeFace G (S := sw S 10 0 0) hM.ref hW.ref h34 (by omega) (fun q1 q2 => ?_) (fun q1 M1 hM1 => ?_)
            · rw [ew] at q1 q2
              rw [spHp_sw] at q2
              try simp only [↓cb_X9_mend_0, ↓cb_X9_mend_14, ↓cb_X9_mend_19, ↓cb_X9_mend_30, ↓cb_X9_mend_40, ↓cb_X9_mend_64, ↓cb_X9_mend_65, ↓cb_X9_mend_82, ↓cb_X9_mend_111, ↓te_aload, ↓te_astore, ↓te_callV, ↓te_const, ↓te_getI, ↓te_getP, ↓te_goto, ↓te_if, ↓te_ifnonnull, ↓te_ifnull, ↓te_iload, ↓te_iret, ↓te_null, ↓te_pop, ↓te_putI, ↓te_throw, ↓evb_c, ↓evb_n, ↓evk_ap, ↓evm_cut, ↓evm_go, ↓evm_0, ↓jret_v, ↓jret_n, jget, jset, cond_true, cond_false, Nat.reduceBEq, jc1, List.take_succ_cons, List.take_zero, List.drop_succ_cons, List.drop_zero, List.reverse_cons, List.reverse_nil, List.nil_append, List.cons_append, List.length_cons, List.length_nil, Nat.zero_add, Nat.reduceAdd, beq_self_eq_true, true_and, and_true, Nat.reduceLeDiff, Nat.le_refl, Nat.zero_le, Bool.or_true, Bool.true_or, Bool.or_false, Bool.false_or, Bool.or_self]
              try simp (disch := omega) only [Nat.reduceEqDiff, Prod.mk.injEq, Option.some.injEq, true_and, and_true, exists_eq_left', exists_eq_right, exists_and_left, exists_const, true_or, or_true, ne_eq, not_true_eq_false, not_false_eq_true, reduceCtorEq, false_and, and_false, if_true, if_false, forall_const, true_implies, false_implies, implies_true, qI_wI, qI_wP, qP_wI, qP_wP, qN_wI, qN_wP, and_self, nI_add, pk_mul, nI_clamp, vp_in_nI, ng_1, ng_10, nI_eq32, cs_0, cs_1, cs_2, cs_3, cs_4, cs_5, cs_6, cs_7, cs_8, cs_9, cs_10, cs_11, cs_12, cs_13, cs_14, cs_15, cs_16, cs_17, cs_18, cs_19, cs_20, cs_21, cs_22, cs_23, cs_24, cs_25, cs_26, cs_27, cs_28, cs_29, cs_30, cs_31, cs_32, cs_33, cs_34, cs_35, cs_36, cs_37, cs_38, cs_39, cs_40, cs_41, cs_42, cs_43, cs_44, cs_45, cs_46, cs_47, cs_48, cs_49, cs_50, cs_51, cs_52, cs_53, cs_54, cs_55, cs_56, cs_57, cs_58, cs_59, cs_60, cs_61, cs_62, cs_63, cs_64, cs_97, cs_100, cs_122, cs_200, cs_300, cs_448, cs_1000, al_11, al_12, al_13, al_14, al_15, al_16, al_17, al_18, al_19, al_20, al_21, al_22, al_23, al_24, al_25, al_26, al_27, al_28, al_29, al_30, al_31, al_32, al_33, al_34, al_35, al_36, al_37, al_38, al_39, al_40, al_41, al_42, al_43, al_44, al_45, al_46, al_47]
              exact kbad (Or.inr ⟨q1, q2⟩)
            · rw [ew] at q1 hM1 ⊢
              rw [spHp_sw] at q1
              rw [spNext_sw]
              try simp only [↓cb_X9_mend_0, ↓cb_X9_mend_14, ↓cb_X9_mend_19, ↓cb_X9_mend_30, ↓cb_X9_mend_40, ↓cb_X9_mend_64, ↓cb_X9_mend_65, ↓cb_X9_mend_82, ↓cb_X9_mend_111, ↓te_aload, ↓te_astore, ↓te_callV, ↓te_const, ↓te_getI, ↓te_getP, ↓te_goto, ↓te_if, ↓te_ifnonnull, ↓te_ifnull, ↓te_iload, ↓te_iret, ↓te_null, ↓te_pop, ↓te_putI, ↓te_throw, ↓evb_c, ↓evb_n, ↓evk_ap, ↓evm_cut, ↓evm_go, ↓evm_0, ↓jret_v, ↓jret_n, jget, jset, cond_true, cond_false, Nat.reduceBEq, jc1, List.take_succ_cons, List.take_zero, List.drop_succ_cons, List.drop_zero, List.reverse_cons, List.reverse_nil, List.nil_append, List.cons_append, List.length_cons, List.length_nil, Nat.zero_add, Nat.reduceAdd, beq_self_eq_true, true_and, and_true, Nat.reduceLeDiff, Nat.le_refl, Nat.zero_le, Bool.or_true, Bool.true_or, Bool.or_false, Bool.false_or, Bool.or_self]
              try simp (disch := omega) only [Nat.reduceEqDiff, Prod.mk.injEq, Option.some.injEq, true_and, and_true, exists_eq_left', exists_eq_right, exists_and_left, exists_const, true_or, or_true, ne_eq, not_true_eq_false, not_false_eq_true, reduceCtorEq, false_and, and_false, if_true, if_false, forall_const, true_implies, false_implies, implies_true, qI_wI, qI_wP, qP_wI, qP_wP, qN_wI, qN_wP, and_self, nI_add, pk_mul, nI_clamp, vp_in_nI, ng_1, ng_10, nI_eq32, cs_0, cs_1, cs_2, cs_3, cs_4, cs_5, cs_6, cs_7, cs_8, cs_9, cs_10, cs_11, cs_12, cs_13, cs_14, cs_15, cs_16, cs_17, cs_18, cs_19, cs_20, cs_21, cs_22, cs_23, cs_24, cs_25, cs_26, cs_27, cs_28, cs_29, cs_30, cs_31, cs_32, cs_33, cs_34, cs_35, cs_36, cs_37, cs_38, cs_39, cs_40, cs_41, cs_42, cs_43, cs_44, cs_45, cs_46, cs_47, cs_48, cs_49, cs_50, cs_51, cs_52, cs_53, cs_54, cs_55, cs_56, cs_57, cs_58, cs_59, cs_60, cs_61, cs_62, cs_63, cs_64, cs_97, cs_100, cs_122, cs_200, cs_300, cs_448, cs_1000, al_11, al_12, al_13, al_14, al_15, al_16, al_17, al_18, al_19, al_20, al_21, al_22, al_23, al_24, al_25, al_26, al_27, al_28, al_29, al_30, al_31, al_32, al_33, al_34, al_35, al_36, al_37, al_38, al_39, al_40, al_41, al_42, al_43, al_44, al_45, al_46, al_47]
              exact kok c q1 M1 hM1
          first
            | exact tail
            | exact ⟨fun z => absurd z (by omega), fun _ => tail⟩
        · rw [jb_f c]
          have g := kbad (Or.inl c)
          try simp only [↓cb_X9_mend_0, ↓cb_X9_mend_14, ↓cb_X9_mend_19, ↓cb_X9_mend_30, ↓cb_X9_mend_40, ↓cb_X9_mend_64, ↓cb_X9_mend_65, ↓cb_X9_mend_82, ↓cb_X9_mend_111, ↓te_aload, ↓te_astore, ↓te_callV, ↓te_const, ↓te_getI, ↓te_getP, ↓te_goto, ↓te_if, ↓te_ifnonnull, ↓te_ifnull, ↓te_iload, ↓te_iret, ↓te_null, ↓te_pop, ↓te_putI, ↓te_throw, ↓evb_c, ↓evb_n, ↓evk_ap, ↓evm_cut, ↓evm_go, ↓evm_0, ↓jret_v, ↓jret_n, jget, jset, cond_true, cond_false, Nat.reduceBEq, jc1, List.take_succ_cons, List.take_zero, List.drop_succ_cons, List.drop_zero, List.reverse_cons, List.reverse_nil, List.nil_append, List.cons_append, List.length_cons, List.length_nil, Nat.zero_add, Nat.reduceAdd, beq_self_eq_true, true_and, and_true, Nat.reduceLeDiff, Nat.le_refl, Nat.zero_le, Bool.or_true, Bool.true_or, Bool.or_false, Bool.false_or, Bool.or_self]
          try simp (disch := omega) only [Nat.reduceEqDiff, Prod.mk.injEq, Option.some.injEq, true_and, and_true, exists_eq_left', exists_eq_right, exists_and_left, exists_const, true_or, or_true, ne_eq, not_true_eq_false, not_false_eq_true, reduceCtorEq, false_and, and_false, if_true, if_false, forall_const, true_implies, false_implies, implies_true, qI_wI, qI_wP, qP_wI, qP_wP, qN_wI, qN_wP, and_self, nI_add, pk_mul, nI_clamp, vp_in_nI, ng_1, ng_10, nI_eq32, cs_0, cs_1, cs_2, cs_3, cs_4, cs_5, cs_6, cs_7, cs_8, cs_9, cs_10, cs_11, cs_12, cs_13, cs_14, cs_15, cs_16, cs_17, cs_18, cs_19, cs_20, cs_21, cs_22, cs_23, cs_24, cs_25, cs_26, cs_27, cs_28, cs_29, cs_30, cs_31, cs_32, cs_33, cs_34, cs_35, cs_36, cs_37, cs_38, cs_39, cs_40, cs_41, cs_42, cs_43, cs_44, cs_45, cs_46, cs_47, cs_48, cs_49, cs_50, cs_51, cs_52, cs_53, cs_54, cs_55, cs_56, cs_57, cs_58, cs_59, cs_60, cs_61, cs_62, cs_63, cs_64, cs_97, cs_100, cs_122, cs_200, cs_300, cs_448, cs_1000, al_11, al_12, al_13, al_14, al_15, al_16, al_17, al_18, al_19, al_20, al_21, al_22, al_23, al_24, al_25, al_26, al_27, al_28, al_29, al_30, al_31, al_32, al_33, al_34, al_35, al_36, al_37, al_38, al_39, al_40, al_41, al_42, al_43, al_44, al_45, al_46, al_47]
          first
            | exact g
            | exact ⟨fun _ => g, fun z => absurd rfl z⟩
      try simp only [↓cb_X9_mend_0, ↓cb_X9_mend_14, ↓cb_X9_mend_19, ↓cb_X9_mend_30, ↓cb_X9_mend_40, ↓cb_X9_mend_64, ↓cb_X9_mend_65, ↓cb_X9_mend_82, ↓cb_X9_mend_111, ↓te_aload, ↓te_astore, ↓te_callV, ↓te_const, ↓te_getI, ↓te_getP, ↓te_goto, ↓te_if, ↓te_ifnonnull, ↓te_ifnull, ↓te_iload, ↓te_iret, ↓te_null, ↓te_pop, ↓te_putI, ↓te_throw, ↓evb_c, ↓evb_n, ↓evk_ap, ↓evm_cut, ↓evm_go, ↓evm_0, ↓jret_v, ↓jret_n, jget, jset, cond_true, cond_false, Nat.reduceBEq, jc1, List.take_succ_cons, List.take_zero, List.drop_succ_cons, List.drop_zero, List.reverse_cons, List.reverse_nil, List.nil_append, List.cons_append, List.length_cons, List.length_nil, Nat.zero_add, Nat.reduceAdd, beq_self_eq_true, true_and, and_true, Nat.reduceLeDiff, Nat.le_refl, Nat.zero_le, Bool.or_true, Bool.true_or, Bool.or_false, Bool.false_or, Bool.or_self]
      try simp (disch := omega) only [Nat.reduceEqDiff, Prod.mk.injEq, Option.some.injEq, true_and, and_true, exists_eq_left', exists_eq_right, exists_and_left, exists_const, true_or, or_true, ne_eq, not_true_eq_false, not_false_eq_true, reduceCtorEq, false_and, and_false, if_true, if_false, forall_const, true_implies, false_implies, implies_true, qI_wI, qI_wP, qP_wI, qP_wP, qN_wI, qN_wP, and_self, nI_add, pk_mul, nI_clamp, vp_in_nI, ng_1, ng_10, nI_eq32, cs_0, cs_1, cs_2, cs_3, cs_4, cs_5, cs_6, cs_7, cs_8, cs_9, cs_10, cs_11, cs_12, cs_13, cs_14, cs_15, cs_16, cs_17, cs_18, cs_19, cs_20, cs_21, cs_22, cs_23, cs_24, cs_25, cs_26, cs_27, cs_28, cs_29, cs_30, cs_31, cs_32, cs_33, cs_34, cs_35, cs_36, cs_37, cs_38, cs_39, cs_40, cs_41, cs_42, cs_43, cs_44, cs_45, cs_46, cs_47, cs_48, cs_49, cs_50, cs_51, cs_52, cs_53, cs_54, cs_55, cs_56, cs_57, cs_58, cs_59, cs_60, cs_61, cs_62, cs_63, cs_64, cs_97, cs_100, cs_122, cs_200, cs_300, cs_448, cs_1000, al_11, al_12, al_13, al_14, al_15, al_16, al_17, al_18, al_19, al_20, al_21, al_22, al_23, al_24, al_25, al_26, al_27, al_28, al_29, al_30, al_31, al_32, al_33, al_34, al_35, al_36, al_37, al_38, al_39, al_40, al_41, al_42, al_43, al_44, al_45, al_46, al_47]
      first
        | exact k40
        | exact ⟨fun _ => k40, fun z => absurd z (by simp)⟩
    · rw [if_neg h2]
      have g := k30 (fun q => h2 q.2)
      try simp only [↓cb_X9_mend_0, ↓cb_X9_mend_14, ↓cb_X9_mend_19, ↓cb_X9_mend_30, ↓cb_X9_mend_40, ↓cb_X9_mend_64, ↓cb_X9_mend_65, ↓cb_X9_mend_82, ↓cb_X9_mend_111, ↓te_aload, ↓te_astore, ↓te_callV, ↓te_const, ↓te_getI, ↓te_getP, ↓te_goto, ↓te_if, ↓te_ifnonnull, ↓te_ifnull, ↓te_iload, ↓te_iret, ↓te_null, ↓te_pop, ↓te_putI, ↓te_throw, ↓evb_c, ↓evb_n, ↓evk_ap, ↓evm_cut, ↓evm_go, ↓evm_0, ↓jret_v, ↓jret_n, jget, jset, cond_true, cond_false, Nat.reduceBEq, jc1, List.take_succ_cons, List.take_zero, List.drop_succ_cons, List.drop_zero, List.reverse_cons, List.reverse_nil, List.nil_append, List.cons_append, List.length_cons, List.length_nil, Nat.zero_add, Nat.reduceAdd, beq_self_eq_true, true_and, and_true, Nat.reduceLeDiff, Nat.le_refl, Nat.zero_le, Bool.or_true, Bool.true_or, Bool.or_false, Bool.false_or, Bool.or_self]
      try simp (disch := omega) only [Nat.reduceEqDiff, Prod.mk.injEq, Option.some.injEq, true_and, and_true, exists_eq_left', exists_eq_right, exists_and_left, exists_const, true_or, or_true, ne_eq, not_true_eq_false, not_false_eq_true, reduceCtorEq, false_and, and_false, if_true, if_false, forall_const, true_implies, false_implies, implies_true, qI_wI, qI_wP, qP_wI, qP_wP, qN_wI, qN_wP, and_self, nI_add, pk_mul, nI_clamp, vp_in_nI, ng_1, ng_10, nI_eq32, cs_0, cs_1, cs_2, cs_3, cs_4, cs_5, cs_6, cs_7, cs_8, cs_9, cs_10, cs_11, cs_12, cs_13, cs_14, cs_15, cs_16, cs_17, cs_18, cs_19, cs_20, cs_21, cs_22, cs_23, cs_24, cs_25, cs_26, cs_27, cs_28, cs_29, cs_30, cs_31, cs_32, cs_33, cs_34, cs_35, cs_36, cs_37, cs_38, cs_39, cs_40, cs_41, cs_42, cs_43, cs_44, cs_45, cs_46, cs_47, cs_48, cs_49, cs_50, cs_51, cs_52, cs_53, cs_54, cs_55, cs_56, cs_57, cs_58, cs_59, cs_60, cs_61, cs_62, cs_63, cs_64, cs_97, cs_100, cs_122, cs_200, cs_300, cs_448, cs_1000, al_11, al_12, al_13, al_14, al_15, al_16, al_17, al_18, al_19, al_20, al_21, al_22, al_23, al_24, al_25, al_26, al_27, al_28, al_29, al_30, al_31, al_32, al_33, al_34, al_35, al_36, al_37, al_38, al_39, al_40, al_41, al_42, al_43, al_44, al_45, al_46, al_47]
      first
        | exact g _ _
        | exact ⟨fun z => absurd rfl z, fun _ => g _ _⟩
  · rw [if_neg h1]
    have g := k30 (fun q => h1 q.1)
    try simp only [↓cb_X9_mend_0, ↓cb_X9_mend_14, ↓cb_X9_mend_19, ↓cb_X9_mend_30, ↓cb_X9_mend_40, ↓cb_X9_mend_64, ↓cb_X9_mend_65, ↓cb_X9_mend_82, ↓cb_X9_mend_111, ↓te_aload, ↓te_astore, ↓te_callV, ↓te_const, ↓te_getI, ↓te_getP, ↓te_goto, ↓te_if, ↓te_ifnonnull, ↓te_ifnull, ↓te_iload, ↓te_iret, ↓te_null, ↓te_pop, ↓te_putI, ↓te_throw, ↓evb_c, ↓evb_n, ↓evk_ap, ↓evm_cut, ↓evm_go, ↓evm_0, ↓jret_v, ↓jret_n, jget, jset, cond_true, cond_false, Nat.reduceBEq, jc1, List.take_succ_cons, List.take_zero, List.drop_succ_cons, List.drop_zero, List.reverse_cons, List.reverse_nil, List.nil_append, List.cons_append, List.length_cons, List.length_nil, Nat.zero_add, Nat.reduceAdd, beq_self_eq_true, true_and, and_true, Nat.reduceLeDiff, Nat.le_refl, Nat.zero_le, Bool.or_true, Bool.true_or, Bool.or_false, Bool.false_or, Bool.or_self]
    try simp (disch := omega) only [Nat.reduceEqDiff, Prod.mk.injEq, Option.some.injEq, true_and, and_true, exists_eq_left', exists_eq_right, exists_and_left, exists_const, true_or, or_true, ne_eq, not_true_eq_false, not_false_eq_true, reduceCtorEq, false_and, and_false, if_true, if_false, forall_const, true_implies, false_implies, implies_true, qI_wI, qI_wP, qP_wI, qP_wP, qN_wI, qN_wP, and_self, nI_add, pk_mul, nI_clamp, vp_in_nI, ng_1, ng_10, nI_eq32, cs_0, cs_1, cs_2, cs_3, cs_4, cs_5, cs_6, cs_7, cs_8, cs_9, cs_10, cs_11, cs_12, cs_13, cs_14, cs_15, cs_16, cs_17, cs_18, cs_19, cs_20, cs_21, cs_22, cs_23, cs_24, cs_25, cs_26, cs_27, cs_28, cs_29, cs_30, cs_31, cs_32, cs_33, cs_34, cs_35, cs_36, cs_37, cs_38, cs_39, cs_40, cs_41, cs_42, cs_43, cs_44, cs_45, cs_46, cs_47, cs_48, cs_49, cs_50, cs_51, cs_52, cs_53, cs_54, cs_55, cs_56, cs_57, cs_58, cs_59, cs_60, cs_61, cs_62, cs_63, cs_64, cs_97, cs_100, cs_122, cs_200, cs_300, cs_448, cs_1000, al_11, al_12, al_13, al_14, al_15, al_16, al_17, al_18, al_19, al_20, al_21, al_22, al_23, al_24, al_25, al_26, al_27, al_28, al_29, al_30, al_31, al_32, al_33, al_34, al_35, al_36, al_37, al_38, al_39, al_40, al_41, al_42, al_43, al_44, al_45, al_46, al_47]
    first
      | exact g _ _
      | exact ⟨fun _ => g _ _, fun z => absurd rfl z⟩
      | exact ⟨fun z => absurd rfl z, fun _ => g _ _⟩

