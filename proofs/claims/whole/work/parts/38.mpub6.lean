/-! THE REFERENCE: proof, line, sort -/
def spShow (S : jS) (c : Nat) : jS := sw (sw S 45 (S 10 28) c) 10 28 (S 10 28 + 1)
def spGlyph (S : jS) (s : Nat) : Nat := if nI (S 26 s) < nI 12 then if S 28 s = 0 then spSign (S 25 s) else 61 else 63
def spInk (S : jS) (s : Nat) : jS := sw (spShow S (spGlyph S s)) 26 s (S 26 s + 1)
/-- the first k sorts of a line printed: the gap that is next, the state -/
def spPrL (l : Nat) : Nat → jS → Nat × jS
  | 0, S => (0, S)
  | k + 1, S => if (spPrL l k S).1 < S 38 l ∧ nI (S 39 (64 * l + (spPrL l k S).1)) = nI k then ((spPrL l k S).1 + 1, spInk (if nI 0 < nI (spUnits S l (spPrL l k S).1) then spShow (spPrL l k S).2 32 else (spPrL l k S).2) (S 36 (64 * l + k))) else ((spPrL l k S).1, spInk (spPrL l k S).2 (S 36 (64 * l + k)))
def spPrA (f : Nat) : Nat → jS → jS
  | 0, S => S
  | l + 1, S => if S 42 l = f then (spPrL l (S 35 l) (spPrA f l S)).2 else spPrA f l S
theorem spShow_row (S : jS) (c : Nat) {a b : Nat} (h : ¬ (a = 45 ∨ (a = 10 ∧ b = 28))) : spShow S c a b = S a b := by
  unfold spShow
  rw [sw_at, if_neg (by omega), sw_at, if_neg (by omega)]
theorem spShow_28 (S : jS) (c : Nat) : spShow S c 10 28 = S 10 28 + 1 := by simp [spShow, sw_at]
theorem spInk_row (S : jS) (s : Nat) {a b : Nat} (h : ¬ (a = 45 ∨ a = 26 ∨ (a = 10 ∧ b = 28))) : spInk S s a b = S a b := by
  unfold spInk
  rw [sw_at, if_neg (by omega), spShow_row _ _ (by omega)]
theorem spInk_28 (S : jS) (s : Nat) : spInk S s 10 28 = S 10 28 + 1 := by
  unfold spInk
  rw [sw_at, if_neg (by omega), spShow_28]
theorem spPrL_row {l : Nat} (S : jS) {a b : Nat} (h : ¬ (a = 45 ∨ a = 26 ∨ (a = 10 ∧ b = 28))) : ∀ k, (spPrL l k S).2 a b = S a b
  | 0 => rfl
  | k + 1 => by
    have ih := spPrL_row (l := l) S h k
    unfold spPrL
    split
    · simp only
      rw [spInk_row _ _ h]
      split
      · rw [spShow_row _ _ (by omega)]; exact ih
      · exact ih
    · simp only
      rw [spInk_row _ _ h]
      exact ih
theorem spPrL_28 {l : Nat} (S : jS) : ∀ k, (spPrL l k S).2 10 28 ≤ S 10 28 + k + (spPrL l k S).1 ∧ (spPrL l k S).1 ≤ S 38 l
  | 0 => ⟨Nat.le_refl _, Nat.zero_le _⟩
  | k + 1 => by
    have ih := spPrL_28 (l := l) S k
    unfold spPrL
    split
    · rename_i h
      simp only
      rw [spInk_28]
      refine ⟨?_, by omega⟩
      split
      · rw [spShow_28]; omega
      · omega
    · simp only
      rw [spInk_28]
      omega
theorem spPrA_row {f : Nat} (S : jS) {a b : Nat} (h : ¬ (a = 45 ∨ a = 26 ∨ (a = 10 ∧ b = 28))) : ∀ l, spPrA f l S a b = S a b
  | 0 => rfl
  | l + 1 => by
    unfold spPrA
    split
    · rw [spPrL_row _ h]
      exact spPrA_row S h l
    · exact spPrA_row S h l
theorem spPrA_28 {f : Nat} (S : jS) (hL : ∀ l, l < S 10 14 → S 35 l + S 38 l ≤ 60) : ∀ l, l ≤ S 10 14 → spPrA f l S 10 28 ≤ S 10 28 + 60 * l
  | 0, _ => Nat.le_refl _
  | l + 1, hl => by
    have ih := spPrA_28 (f := f) S hL l (by omega)
    unfold spPrA
    split
    · have h1 := spPrL_28 (l := l) (spPrA f l S) (S 35 l)
      rw [spPrA_row (f := f) S (a := 38) (by omega) l] at h1
      have := hL l (by omega)
      omega
    · omega
theorem spSign_lt {f : Nat} (h : f < 58) : spSign f < 65536 := by
  unfold spSign
  repeat (first | omega | split)
theorem spGlyph_lt {S : jS} {s : Nat} (h : FOK S) : spGlyph S s < 65536 := by
  unfold spGlyph
  split
  · split
    · exact spSign_lt (h s)
    · omega
  · omega
def sf_proof (S : jS) (x : Int32) : Nat × Int32 × jS := if isFm S x then if S 43 (jn x) = 1 then (0, nI (spPrA (jn x) (S 10 14) (sw (sw S 10 0 0) 10 28 0) 10 28), sw (spPrA (jn x) (S 10 14) (sw (sw S 10 0 0) 10 28 0)) 44 (jn x) (S 44 (jn x) + 1)) else (2, 0, S) else (1, 0, S)
set_option maxRecDepth 20000 in
set_option maxHeartbeats 20000000 in
theorem mp_proof (G : jx_G) {M0 M : jx_M} {S : jS} {Q : jx_O → jx_M → Prop} {x : Int32} (hW : Wf S) (hM : RF M0 M S) (hQ : RQ M0 Q (sf_proof S x)) : Mt G m_X10_proof [vm, .inl x] M Q := by
  refine Mt.of (sc_X10_proof G) (by decide +kernel) (jArgs.of rfl) (Nat.le_of_ble_eq_true rfl) (fun Wn hC => ?_)
  unfold sf_proof at hQ
  have hn := hW.1.1.1
  refine ev_at hC (fun pc => pc == 43) 9 0 (ls := [some (vm), some (.inl x), none, none, none, none]) ?_
  simp only [↓cb_X10_proof_0, ↓cb_X10_proof_13, ↓cb_X10_proof_27, ↓cb_X10_proof_28, ↓cb_X10_proof_36, ↓cb_X10_proof_43, ↓cb_X10_proof_56, ↓cb_X10_proof_118, ↓cb_X10_proof_121, ↓cb_X10_proof_153, ↓cb_X10_proof_168, ↓cb_X10_proof_178, ↓cb_X10_proof_198, ↓cb_X10_proof_204, ↓te_ald, ↓te_aload, ↓te_ast, ↓te_bin, ↓te_call, ↓te_callV, ↓te_const, ↓te_dup2, ↓te_getI, ↓te_getP, ↓te_goto, ↓te_icmp, ↓te_if, ↓te_iinc, ↓te_iload, ↓te_iret, ↓te_istore, ↓te_putI, ↓evb_c, ↓evb_n, ↓evk_ap, ↓evm_ap, ↓evm_0, ↓jret_v, ↓jret_n, jget, jset, cond_true, cond_false, Nat.reduceBEq, jc1, List.take_succ_cons, List.take_zero, List.drop_succ_cons, List.drop_zero, List.reverse_cons, List.reverse_nil, List.nil_append, List.cons_append, List.length_cons, List.length_nil, Nat.zero_add, Nat.reduceAdd, beq_self_eq_true, true_and, and_true, Nat.reduceLeDiff, Nat.le_refl, Nat.zero_le, Bool.or_true, Bool.true_or, Bool.or_false, Bool.false_or, Bool.or_self]
  simp (disch := omega) only [Nat.reduceEqDiff, Prod.mk.injEq, Option.some.injEq, true_and, and_true, exists_eq_left', exists_eq_right, exists_and_left, exists_const, true_or, or_true, ne_eq, not_true_eq_false, not_false_eq_true, reduceCtorEq, false_and, and_false, if_true, if_false, forall_const, true_implies, false_implies, implies_true, qI_wI, qI_wP, qP_wI, qP_wP, qN_wI, qN_wP, and_self, nI_add, pk_mul, nI_clamp, vp_in_nI, ng_1, ng_10, nI_eq32, cs_0, cs_1, cs_2, cs_3, cs_4, cs_5, cs_6, cs_7, cs_8, cs_9, cs_10, cs_11, cs_12, cs_13, cs_14, cs_15, cs_16, cs_17, cs_18, cs_19, cs_20, cs_21, cs_22, cs_23, cs_24, cs_25, cs_26, cs_27, cs_28, cs_29, cs_30, cs_31, cs_32, cs_33, cs_34, cs_35, cs_36, cs_37, cs_38, cs_39, cs_40, cs_41, cs_42, cs_43, cs_44, cs_45, cs_46, cs_47, cs_48, cs_49, cs_50, cs_51, cs_52, cs_53, cs_54, cs_55, cs_56, cs_57, cs_58, cs_59, cs_60, cs_61, cs_62, cs_63, cs_64, cs_97, cs_100, cs_122, cs_200, cs_300, cs_448, cs_1000, al_11, al_12, al_13, al_14, al_15, al_16, al_17, al_18, al_19, al_20, al_21, al_22, al_23, al_24, al_25, al_26, al_27, al_28, al_29, al_30, al_31, al_32, al_33, al_34, al_35, al_36, al_37, al_38, al_39, al_40, al_41, al_42, al_43, al_44, al_45, al_46, al_47]
  refine mm_isForm G hM ?_
  by_cases h1 : isFm S x
  · rw [if_pos h1] at hQ
    rw [jb_t h1]
    obtain ⟨h3, hx⟩ := in_lt (by omega) h1
    generalize jn x = f at *
    subst hx
    have h43 := hW.1.1.2.2.2.2.2.2.2.1 f
    obtain ⟨p2, p3, p4, p5, p6, p7, p8, p10, p11, p15, p16, p17, p18, p19, p20, p21, p22, p23, p25, p26, p27, p32⟩ := hM.1.1
    obtain ⟨f10, f25, f26, f27, f28, f29, f30, f31, f32, f33, f34, f35, f36, f37, f38, f39, f40, f41, f42, f43, f44, f45, f46⟩ := hM.fs
    try simp only [↓cb_X10_proof_0, ↓cb_X10_proof_13, ↓cb_X10_proof_27, ↓cb_X10_proof_28, ↓cb_X10_proof_36, ↓cb_X10_proof_43, ↓cb_X10_proof_56, ↓cb_X10_proof_118, ↓cb_X10_proof_121, ↓cb_X10_proof_153, ↓cb_X10_proof_168, ↓cb_X10_proof_178, ↓cb_X10_proof_198, ↓cb_X10_proof_204, ↓te_ald, ↓te_aload, ↓te_ast, ↓te_bin, ↓te_call, ↓te_callV, ↓te_const, ↓te_dup2, ↓te_getI, ↓te_getP, ↓te_goto, ↓te_icmp, ↓te_if, ↓te_iinc, ↓te_iload, ↓te_iret, ↓te_istore, ↓te_putI, ↓evb_c, ↓evb_n, ↓evk_ap, ↓evm_ap, ↓evm_0, ↓jret_v, ↓jret_n, jget, jset, cond_true, cond_false, Nat.reduceBEq, jc1, List.take_succ_cons, List.take_zero, List.drop_succ_cons, List.drop_zero, List.reverse_cons, List.reverse_nil, List.nil_append, List.cons_append, List.length_cons, List.length_nil, Nat.zero_add, Nat.reduceAdd, beq_self_eq_true, true_and, and_true, Nat.reduceLeDiff, Nat.le_refl, Nat.zero_le, Bool.or_true, Bool.true_or, Bool.or_false, Bool.false_or, Bool.or_self]
    try simp (disch := omega) only [Nat.reduceEqDiff, Prod.mk.injEq, Option.some.injEq, true_and, and_true, exists_eq_left', exists_eq_right, exists_and_left, exists_const, true_or, or_true, ne_eq, not_true_eq_false, not_false_eq_true, reduceCtorEq, false_and, and_false, if_true, if_false, forall_const, true_implies, false_implies, implies_true, qI_wI, qI_wP, qP_wI, qP_wP, qN_wI, qN_wP, and_self, nI_add, pk_mul, nI_clamp, vp_in_nI, ng_1, ng_10, nI_eq32, cs_0, cs_1, cs_2, cs_3, cs_4, cs_5, cs_6, cs_7, cs_8, cs_9, cs_10, cs_11, cs_12, cs_13, cs_14, cs_15, cs_16, cs_17, cs_18, cs_19, cs_20, cs_21, cs_22, cs_23, cs_24, cs_25, cs_26, cs_27, cs_28, cs_29, cs_30, cs_31, cs_32, cs_33, cs_34, cs_35, cs_36, cs_37, cs_38, cs_39, cs_40, cs_41, cs_42, cs_43, cs_44, cs_45, cs_46, cs_47, cs_48, cs_49, cs_50, cs_51, cs_52, cs_53, cs_54, cs_55, cs_56, cs_57, cs_58, cs_59, cs_60, cs_61, cs_62, cs_63, cs_64, cs_97, cs_100, cs_122, cs_200, cs_300, cs_448, cs_1000, al_11, al_12, al_13, al_14, al_15, al_16, al_17, al_18, al_19, al_20, al_21, al_22, al_23, al_24, al_25, al_26, al_27, al_28, al_29, al_30, al_31, al_32, al_33, al_34, al_35, al_36, al_37, al_38, al_39, al_40, al_41, al_42, al_43, al_44, al_45, al_46, al_47, p2, p3, p4, p5, p6, p7, p8, p10, p11, p15, p16, p17, p18, p19, p20, p21, p22, p23, p25, p26, p27, p32, f10, f25, f26, f27, f28, f29, f30, f31, f32, f33, f34, f35, f36, f37, f38, f39, f40, f41, f42, f43, f44, f45, f46]
    refine ⟨fun h => ?_, fun h => ?_⟩
    · have h' : S 43 f = 1 := by first | exact h | exact Classical.not_not.mp h
      rw [if_pos h'] at hQ
      refine mm_ref0 G hM (fun M2 hM2 => ?_)
      try simp only [↓cb_X10_proof_0, ↓cb_X10_proof_13, ↓cb_X10_proof_27, ↓cb_X10_proof_28, ↓cb_X10_proof_36, ↓cb_X10_proof_43, ↓cb_X10_proof_56, ↓cb_X10_proof_118, ↓cb_X10_proof_121, ↓cb_X10_proof_153, ↓cb_X10_proof_168, ↓cb_X10_proof_178, ↓cb_X10_proof_198, ↓cb_X10_proof_204, ↓te_ald, ↓te_aload, ↓te_ast, ↓te_bin, ↓te_call, ↓te_callV, ↓te_const, ↓te_dup2, ↓te_getI, ↓te_getP, ↓te_goto, ↓te_icmp, ↓te_if, ↓te_iinc, ↓te_iload, ↓te_iret, ↓te_istore, ↓te_putI, ↓evb_c, ↓evb_n, ↓evk_ap, ↓evm_ap, ↓evm_0, ↓jret_v, ↓jret_n, jget, jset, cond_true, cond_false, Nat.reduceBEq, jc1, List.take_succ_cons, List.take_zero, List.drop_succ_cons, List.drop_zero, List.reverse_cons, List.reverse_nil, List.nil_append, List.cons_append, List.length_cons, List.length_nil, Nat.zero_add, Nat.reduceAdd, beq_self_eq_true, true_and, and_true, Nat.reduceLeDiff, Nat.le_refl, Nat.zero_le, Bool.or_true, Bool.true_or, Bool.or_false, Bool.false_or, Bool.or_self]
      try simp (disch := omega) only [Nat.reduceEqDiff, Prod.mk.injEq, Option.some.injEq, true_and, and_true, exists_eq_left', exists_eq_right, exists_and_left, exists_const, true_or, or_true, ne_eq, not_true_eq_false, not_false_eq_true, reduceCtorEq, false_and, and_false, if_true, if_false, forall_const, true_implies, false_implies, implies_true, qI_wI, qI_wP, qP_wI, qP_wP, qN_wI, qN_wP, and_self, nI_add, pk_mul, nI_clamp, vp_in_nI, ng_1, ng_10, nI_eq32, cs_0, cs_1, cs_2, cs_3, cs_4, cs_5, cs_6, cs_7, cs_8, cs_9, cs_10, cs_11, cs_12, cs_13, cs_14, cs_15, cs_16, cs_17, cs_18, cs_19, cs_20, cs_21, cs_22, cs_23, cs_24, cs_25, cs_26, cs_27, cs_28, cs_29, cs_30, cs_31, cs_32, cs_33, cs_34, cs_35, cs_36, cs_37, cs_38, cs_39, cs_40, cs_41, cs_42, cs_43, cs_44, cs_45, cs_46, cs_47, cs_48, cs_49, cs_50, cs_51, cs_52, cs_53, cs_54, cs_55, cs_56, cs_57, cs_58, cs_59, cs_60, cs_61, cs_62, cs_63, cs_64, cs_97, cs_100, cs_122, cs_200, cs_300, cs_448, cs_1000, al_11, al_12, al_13, al_14, al_15, al_16, al_17, al_18, al_19, al_20, al_21, al_22, al_23, al_24, al_25, al_26, al_27, al_28, al_29, al_30, al_31, al_32, al_33, al_34, al_35, al_36, al_37, al_38, al_39, al_40, al_41, al_42, al_43, al_44, al_45, al_46, al_47]
      have hM3 := RF.w (r := 10) (k := 28) (v := 0) (by decide) hM2
      revert hM3 hQ
      generalize hT : sw (sw S 10 0 0) 10 28 0 = T
      intro hQ hM3
      have t14 : T 10 14 = S 10 14 := by rw [← hT]; rfl
      have t28 : T 10 28 = 0 := by rw [← hT]; rfl
      have tr : ∀ a b, ¬ a = 10 → T a b = S a b := fun a b hab => by rw [← hT, sw_at, if_neg (fun q => hab q.1), sw_at, if_neg (fun q => hab q.1)]
      have hTL : ∀ l, l < T 10 14 → T 35 l + T 38 l ≤ 60 := fun l hl => by
        rw [tr 35 l (by omega), tr 38 l (by omega)]
        exact (hW.2.2.1 l (by omega)).1
      have key : ∀ (d l : Nat) (M1 : jx_M) (x3 x4 x5 : Option jx_V), l + d = S 10 14 → RF M0 M1 (spPrA f l T) → Wn 43 [some vm, some (vI f), some (vI l), x3, x4, x5] [] M1 0 0 := by
        intro d
        induction d with
        | zero =>
          intro l M1 x3 x4 x5 g1 hM1
          have g2 : l = S 10 14 := by omega
          have e14 : spPrA f l T 10 14 = S 10 14 := (spPrA_row T (by omega) l).trans t14
          have e44 : spPrA f l T 44 f = S 44 f := (spPrA_row T (by omega) l).trans (tr 44 f (by omega))
          rw [← g2] at hQ
          obtain ⟨p2, p3, p4, p5, p6, p7, p8, p10, p11, p15, p16, p17, p18, p19, p20, p21, p22, p23, p25, p26, p27, p32⟩ := hM1.1.1
          obtain ⟨f10, f25, f26, f27, f28, f29, f30, f31, f32, f33, f34, f35, f36, f37, f38, f39, f40, f41, f42, f43, f44, f45, f46⟩ := hM1.fs
          refine ev_at hC (fun pc => pc == 43 || pc == 56) 9 43 (ls := [some vm, some (vI f), some (vI l), x3, x4, x5]) ?_
          try simp only [↓cb_X10_proof_0, ↓cb_X10_proof_13, ↓cb_X10_proof_27, ↓cb_X10_proof_28, ↓cb_X10_proof_36, ↓cb_X10_proof_43, ↓cb_X10_proof_56, ↓cb_X10_proof_118, ↓cb_X10_proof_121, ↓cb_X10_proof_153, ↓cb_X10_proof_168, ↓cb_X10_proof_178, ↓cb_X10_proof_198, ↓cb_X10_proof_204, ↓te_ald, ↓te_aload, ↓te_ast, ↓te_bin, ↓te_call, ↓te_callV, ↓te_const, ↓te_dup2, ↓te_getI, ↓te_getP, ↓te_goto, ↓te_icmp, ↓te_if, ↓te_iinc, ↓te_iload, ↓te_iret, ↓te_istore, ↓te_putI, ↓evb_c, ↓evb_n, ↓evk_ap, ↓evm_ap, ↓evm_0, ↓jret_v, ↓jret_n, jget, jset, cond_true, cond_false, Nat.reduceBEq, jc1, List.take_succ_cons, List.take_zero, List.drop_succ_cons, List.drop_zero, List.reverse_cons, List.reverse_nil, List.nil_append, List.cons_append, List.length_cons, List.length_nil, Nat.zero_add, Nat.reduceAdd, beq_self_eq_true, true_and, and_true, Nat.reduceLeDiff, Nat.le_refl, Nat.zero_le, Bool.or_true, Bool.true_or, Bool.or_false, Bool.false_or, Bool.or_self]
          try simp (disch := omega) only [Nat.reduceEqDiff, Prod.mk.injEq, Option.some.injEq, true_and, and_true, exists_eq_left', exists_eq_right, exists_and_left, exists_const, true_or, or_true, ne_eq, not_true_eq_false, not_false_eq_true, reduceCtorEq, false_and, and_false, if_true, if_false, forall_const, true_implies, false_implies, implies_true, qI_wI, qI_wP, qP_wI, qP_wP, qN_wI, qN_wP, and_self, nI_add, pk_mul, nI_clamp, vp_in_nI, ng_1, ng_10, nI_eq32, cs_0, cs_1, cs_2, cs_3, cs_4, cs_5, cs_6, cs_7, cs_8, cs_9, cs_10, cs_11, cs_12, cs_13, cs_14, cs_15, cs_16, cs_17, cs_18, cs_19, cs_20, cs_21, cs_22, cs_23, cs_24, cs_25, cs_26, cs_27, cs_28, cs_29, cs_30, cs_31, cs_32, cs_33, cs_34, cs_35, cs_36, cs_37, cs_38, cs_39, cs_40, cs_41, cs_42, cs_43, cs_44, cs_45, cs_46, cs_47, cs_48, cs_49, cs_50, cs_51, cs_52, cs_53, cs_54, cs_55, cs_56, cs_57, cs_58, cs_59, cs_60, cs_61, cs_62, cs_63, cs_64, cs_97, cs_100, cs_122, cs_200, cs_300, cs_448, cs_1000, al_11, al_12, al_13, al_14, al_15, al_16, al_17, al_18, al_19, al_20, al_21, al_22, al_23, al_24, al_25, al_26, al_27, al_28, al_29, al_30, al_31, al_32, al_33, al_34, al_35, al_36, al_37, al_38, al_39, al_40, al_41, al_42, al_43, al_44, al_45, al_46, al_47, p2, p3, p4, p5, p6, p7, p8, p10, p11, p15, p16, p17, p18, p19, p20, p21, p22, p23, p25, p26, p27, p32, f10, f25, f26, f27, f28, f29, f30, f31, f32, f33, f34, f35, f36, f37, f38, f39, f40, f41, f42, f43, f44, f45, f46, e14, e44, nI_leI]
          refine ⟨fun _ => ?_, fun q => absurd (by omega) q⟩
          refine hQ _ ((RF.w (r := 44) (k := f) (v := S 44 f + 1) (by decide) hM1).eq (fun a b => ?_))
          show sw (sw (spPrA f l T) 44 f (S 44 f + 1)) 10 0 0 a b = _
          rw [sw_id]
          show spPrA f l T 10 0 = 0
          rw [spPrA_row T (by omega) l, ← hT]
          rfl
        | succ d ih =>
          intro l M1 x3 x4 x5 g1 hM1
          have g4 := hW.f42 (l := l) (by omega)
          have gL := (hW.2.2.1 l (by omega)).1
          have gK := hW.LOK (l := l) (by omega)
          have gF := hW.1.1.2.2.1
          have g28 := spPrA_28 (f := f) T hTL l (by omega)
          rw [t28] at g28
          generalize hU : spPrA f l T = U at *
          have ur : ∀ a b, ¬ (a = 10 ∨ a = 45 ∨ a = 26) → U a b = S a b := fun a b hab => by rw [← hU, spPrA_row T (by omega) l]; exact tr a b (by omega)
          have u14 : U 10 14 = S 10 14 := by rw [← hU, spPrA_row T (by omega) l]; exact t14
          have hs1 : spPrA f (l + 1) T = if S 42 l = f then (spPrL l (S 35 l) U).2 else U := by
            show (if T 42 l = f then (spPrL l (T 35 l) (spPrA f l T)).2 else spPrA f l T) = _
            rw [tr 42 l (by omega), tr 35 l (by omega), hU]
          have k56 : S 42 l = f → ∀ (d2 k : Nat) (M2 : jx_M) (x5 : Option jx_V), k + d2 = S 35 l → RF M0 M2 (spPrL l k U).2 → Wn 56 [some vm, some (vI f), some (vI l), some (vI (spPrL l k U).1), some (vI k), x5] [] M2 0 0 := by
            intro h42 d2
            induction d2 with
            | zero =>
              intro k M2 x5 c1 hM2
              have c2 : k = S 35 l := by omega
              have e35 : (spPrL l k U).2 35 l = S 35 l := (spPrL_row U (by omega) k).trans (ur 35 l (by omega))
              have c5 := (spPrL_28 (l := l) U k).2
              rw [ur 38 l (by omega)] at c5
              obtain ⟨p2, p3, p4, p5, p6, p7, p8, p10, p11, p15, p16, p17, p18, p19, p20, p21, p22, p23, p25, p26, p27, p32⟩ := hM2.1.1
              obtain ⟨f10, f25, f26, f27, f28, f29, f30, f31, f32, f33, f34, f35, f36, f37, f38, f39, f40, f41, f42, f43, f44, f45, f46⟩ := hM2.fs
              refine ev_at hC (fun pc => pc == 43 || pc == 56 || pc == 121) 9 56 (ls := [some vm, some (vI f), some (vI l), some (vI (spPrL l k U).1), some (vI k), x5]) ?_
              try simp only [↓cb_X10_proof_0, ↓cb_X10_proof_13, ↓cb_X10_proof_27, ↓cb_X10_proof_28, ↓cb_X10_proof_36, ↓cb_X10_proof_43, ↓cb_X10_proof_56, ↓cb_X10_proof_118, ↓cb_X10_proof_121, ↓cb_X10_proof_153, ↓cb_X10_proof_168, ↓cb_X10_proof_178, ↓cb_X10_proof_198, ↓cb_X10_proof_204, ↓te_ald, ↓te_aload, ↓te_ast, ↓te_bin, ↓te_call, ↓te_callV, ↓te_const, ↓te_dup2, ↓te_getI, ↓te_getP, ↓te_goto, ↓te_icmp, ↓te_if, ↓te_iinc, ↓te_iload, ↓te_iret, ↓te_istore, ↓te_putI, ↓evb_c, ↓evb_n, ↓evk_ap, ↓evm_ap, ↓evm_0, ↓jret_v, ↓jret_n, jget, jset, cond_true, cond_false, Nat.reduceBEq, jc1, List.take_succ_cons, List.take_zero, List.drop_succ_cons, List.drop_zero, List.reverse_cons, List.reverse_nil, List.nil_append, List.cons_append, List.length_cons, List.length_nil, Nat.zero_add, Nat.reduceAdd, beq_self_eq_true, true_and, and_true, Nat.reduceLeDiff, Nat.le_refl, Nat.zero_le, Bool.or_true, Bool.true_or, Bool.or_false, Bool.false_or, Bool.or_self]
              try simp (disch := omega) only [Nat.reduceEqDiff, Prod.mk.injEq, Option.some.injEq, true_and, and_true, exists_eq_left', exists_eq_right, exists_and_left, exists_const, true_or, or_true, ne_eq, not_true_eq_false, not_false_eq_true, reduceCtorEq, false_and, and_false, if_true, if_false, forall_const, true_implies, false_implies, implies_true, qI_wI, qI_wP, qP_wI, qP_wP, qN_wI, qN_wP, and_self, nI_add, pk_mul, nI_clamp, vp_in_nI, ng_1, ng_10, nI_eq32, cs_0, cs_1, cs_2, cs_3, cs_4, cs_5, cs_6, cs_7, cs_8, cs_9, cs_10, cs_11, cs_12, cs_13, cs_14, cs_15, cs_16, cs_17, cs_18, cs_19, cs_20, cs_21, cs_22, cs_23, cs_24, cs_25, cs_26, cs_27, cs_28, cs_29, cs_30, cs_31, cs_32, cs_33, cs_34, cs_35, cs_36, cs_37, cs_38, cs_39, cs_40, cs_41, cs_42, cs_43, cs_44, cs_45, cs_46, cs_47, cs_48, cs_49, cs_50, cs_51, cs_52, cs_53, cs_54, cs_55, cs_56, cs_57, cs_58, cs_59, cs_60, cs_61, cs_62, cs_63, cs_64, cs_97, cs_100, cs_122, cs_200, cs_300, cs_448, cs_1000, al_11, al_12, al_13, al_14, al_15, al_16, al_17, al_18, al_19, al_20, al_21, al_22, al_23, al_24, al_25, al_26, al_27, al_28, al_29, al_30, al_31, al_32, al_33, al_34, al_35, al_36, al_37, al_38, al_39, al_40, al_41, al_42, al_43, al_44, al_45, al_46, al_47, p2, p3, p4, p5, p6, p7, p8, p10, p11, p15, p16, p17, p18, p19, p20, p21, p22, p23, p25, p26, p27, p32, f10, f25, f26, f27, f28, f29, f30, f31, f32, f33, f34, f35, f36, f37, f38, f39, f40, f41, f42, f43, f44, f45, f46, e35, nI_leI]
              refine ⟨fun _ => ?_, fun q => absurd (by omega) q⟩
              rw [c2] at hM2
              exact ih (l + 1) M2 _ _ _ (by omega) (by rw [hs1, if_pos h42]; exact hM2)
            | succ d2 ih2 =>
              intro k M2 x5 c1 hM2
              have e35 : (spPrL l k U).2 35 l = S 35 l := (spPrL_row U (by omega) k).trans (ur 35 l (by omega))
              have e38 : (spPrL l k U).2 38 l = S 38 l := (spPrL_row U (by omega) k).trans (ur 38 l (by omega))
              have e39 : ∀ b, (spPrL l k U).2 39 b = S 39 b := fun b => (spPrL_row U (by omega) k).trans (ur 39 b (by omega))
              have e42 : (spPrL l k U).2 42 l = f := ((spPrL_row U (by omega) k).trans (ur 42 l (by omega))).trans h42
              have e40 : ∀ g, spUnits (spPrL l k U).2 l g = spUnits U l g := fun g => sumr_congr 6 (fun u _ _ => by rw [spPrL_row U (by omega) k])
              obtain ⟨c4, c5⟩ := spPrL_28 (l := l) U k
              rw [ur 38 l (by omega)] at c5
              have hu : spPrL l (k + 1) U = if (spPrL l k U).1 < U 38 l ∧ nI (U 39 (64 * l + (spPrL l k U).1)) = nI k then ((spPrL l k U).1 + 1, spInk (if nI 0 < nI (spUnits U l (spPrL l k U).1) then spShow (spPrL l k U).2 32 else (spPrL l k U).2) (U 36 (64 * l + k))) else ((spPrL l k U).1, spInk (spPrL l k U).2 (U 36 (64 * l + k))) := rfl
              rw [ur 38 l (by omega), ur 39 _ (by omega), ur 36 _ (by omega)] at hu
              have k121 : ∀ (V : jS) (g : Nat) (M3 : jx_M) (x5 : Option jx_V), RF M0 M3 V → (∀ a b, ¬ (a = 10 ∨ a = 45 ∨ a = 26) → V a b = S a b) → V 10 28 < 1600 → spPrL l (k + 1) U = (g, spInk V (S 36 (64 * l + k))) → Wn 121 [some vm, some (vI f), some (vI l), some (vI g), some (vI k), x5] [] M3 0 0 := by
                intro V g M3 x5 hM3 hV hV28 hgo
                have b36 : V 36 (64 * l + k) = S 36 (64 * l + k) := hV 36 _ (by omega)
                have b1 := gK.2.2.2 k (by omega)
                have hFV : FOK V := fun s => by rw [hV 25 s (by omega)]; exact gF s
                have hF2 := hFV (S 36 (64 * l + k))
                have h28v : V 28 (S 36 (64 * l + k)) < 2 := by rw [hV 28 _ (by omega)]; exact hW.1.1.2.2.2.2.1 _
                have k178 : ∀ (M4 : jx_M) (c : Nat), RF M0 M4 V → c = spGlyph V (S 36 (64 * l + k)) → Wn 178 [some vm, some (vI f), some (vI l), some (vI g), some (vI k), some (vI (S 36 (64 * l + k)))] [vI c, vm] M4 0 0 := by
                  intro M4 c hM4 hc
                  have c9 := spGlyph_lt (S := V) (s := S 36 (64 * l + k)) hFV
                  refine ev_at hC (fun pc => pc == 56) 9 178 (ls := [some vm, some (vI f), some (vI l), some (vI g), some (vI k), some (vI (S 36 (64 * l + k)))]) ?_
                  try simp only [↓cb_X10_proof_0, ↓cb_X10_proof_13, ↓cb_X10_proof_27, ↓cb_X10_proof_28, ↓cb_X10_proof_36, ↓cb_X10_proof_43, ↓cb_X10_proof_56, ↓cb_X10_proof_118, ↓cb_X10_proof_121, ↓cb_X10_proof_153, ↓cb_X10_proof_168, ↓cb_X10_proof_178, ↓cb_X10_proof_198, ↓cb_X10_proof_204, ↓te_ald, ↓te_aload, ↓te_ast, ↓te_bin, ↓te_call, ↓te_callV, ↓te_const, ↓te_dup2, ↓te_getI, ↓te_getP, ↓te_goto, ↓te_icmp, ↓te_if, ↓te_iinc, ↓te_iload, ↓te_iret, ↓te_istore, ↓te_putI, ↓evb_c, ↓evb_n, ↓evk_ap, ↓evm_ap, ↓evm_0, ↓jret_v, ↓jret_n, jget, jset, cond_true, cond_false, Nat.reduceBEq, jc1, List.take_succ_cons, List.take_zero, List.drop_succ_cons, List.drop_zero, List.reverse_cons, List.reverse_nil, List.nil_append, List.cons_append, List.length_cons, List.length_nil, Nat.zero_add, Nat.reduceAdd, beq_self_eq_true, true_and, and_true, Nat.reduceLeDiff, Nat.le_refl, Nat.zero_le, Bool.or_true, Bool.true_or, Bool.or_false, Bool.false_or, Bool.or_self]
                  try simp (disch := omega) only [Nat.reduceEqDiff, Prod.mk.injEq, Option.some.injEq, true_and, and_true, exists_eq_left', exists_eq_right, exists_and_left, exists_const, true_or, or_true, ne_eq, not_true_eq_false, not_false_eq_true, reduceCtorEq, false_and, and_false, if_true, if_false, forall_const, true_implies, false_implies, implies_true, qI_wI, qI_wP, qP_wI, qP_wP, qN_wI, qN_wP, and_self, nI_add, pk_mul, nI_clamp, vp_in_nI, ng_1, ng_10, nI_eq32, cs_0, cs_1, cs_2, cs_3, cs_4, cs_5, cs_6, cs_7, cs_8, cs_9, cs_10, cs_11, cs_12, cs_13, cs_14, cs_15, cs_16, cs_17, cs_18, cs_19, cs_20, cs_21, cs_22, cs_23, cs_24, cs_25, cs_26, cs_27, cs_28, cs_29, cs_30, cs_31, cs_32, cs_33, cs_34, cs_35, cs_36, cs_37, cs_38, cs_39, cs_40, cs_41, cs_42, cs_43, cs_44, cs_45, cs_46, cs_47, cs_48, cs_49, cs_50, cs_51, cs_52, cs_53, cs_54, cs_55, cs_56, cs_57, cs_58, cs_59, cs_60, cs_61, cs_62, cs_63, cs_64, cs_97, cs_100, cs_122, cs_200, cs_300, cs_448, cs_1000, al_11, al_12, al_13, al_14, al_15, al_16, al_17, al_18, al_19, al_20, al_21, al_22, al_23, al_24, al_25, al_26, al_27, al_28, al_29, al_30, al_31, al_32, al_33, al_34, al_35, al_36, al_37, al_38, al_39, al_40, al_41, al_42, al_43, al_44, al_45, al_46, al_47]
                  refine mm_show G (by omega) hV28 hM4 (fun M5 hM5 => ?_)
                  have p3 : qP M5 10 0 3 = some 0 := by obtain ⟨-, q, -⟩ := hM5.1.1; exact q
                  have f26 := hM5.fs.2.2.1
                  have e26 : sw (sw V 45 (V 10 28) c) 10 28 (V 10 28 + 1) 26 (S 36 (64 * l + k)) = V 26 (S 36 (64 * l + k)) := rfl
                  try simp only [↓cb_X10_proof_0, ↓cb_X10_proof_13, ↓cb_X10_proof_27, ↓cb_X10_proof_28, ↓cb_X10_proof_36, ↓cb_X10_proof_43, ↓cb_X10_proof_56, ↓cb_X10_proof_118, ↓cb_X10_proof_121, ↓cb_X10_proof_153, ↓cb_X10_proof_168, ↓cb_X10_proof_178, ↓cb_X10_proof_198, ↓cb_X10_proof_204, ↓te_ald, ↓te_aload, ↓te_ast, ↓te_bin, ↓te_call, ↓te_callV, ↓te_const, ↓te_dup2, ↓te_getI, ↓te_getP, ↓te_goto, ↓te_icmp, ↓te_if, ↓te_iinc, ↓te_iload, ↓te_iret, ↓te_istore, ↓te_putI, ↓evb_c, ↓evb_n, ↓evk_ap, ↓evm_ap, ↓evm_0, ↓jret_v, ↓jret_n, jget, jset, cond_true, cond_false, Nat.reduceBEq, jc1, List.take_succ_cons, List.take_zero, List.drop_succ_cons, List.drop_zero, List.reverse_cons, List.reverse_nil, List.nil_append, List.cons_append, List.length_cons, List.length_nil, Nat.zero_add, Nat.reduceAdd, beq_self_eq_true, true_and, and_true, Nat.reduceLeDiff, Nat.le_refl, Nat.zero_le, Bool.or_true, Bool.true_or, Bool.or_false, Bool.false_or, Bool.or_self]
                  try simp (disch := omega) only [Nat.reduceEqDiff, Prod.mk.injEq, Option.some.injEq, true_and, and_true, exists_eq_left', exists_eq_right, exists_and_left, exists_const, true_or, or_true, ne_eq, not_true_eq_false, not_false_eq_true, reduceCtorEq, false_and, and_false, if_true, if_false, forall_const, true_implies, false_implies, implies_true, qI_wI, qI_wP, qP_wI, qP_wP, qN_wI, qN_wP, and_self, nI_add, pk_mul, nI_clamp, vp_in_nI, ng_1, ng_10, nI_eq32, cs_0, cs_1, cs_2, cs_3, cs_4, cs_5, cs_6, cs_7, cs_8, cs_9, cs_10, cs_11, cs_12, cs_13, cs_14, cs_15, cs_16, cs_17, cs_18, cs_19, cs_20, cs_21, cs_22, cs_23, cs_24, cs_25, cs_26, cs_27, cs_28, cs_29, cs_30, cs_31, cs_32, cs_33, cs_34, cs_35, cs_36, cs_37, cs_38, cs_39, cs_40, cs_41, cs_42, cs_43, cs_44, cs_45, cs_46, cs_47, cs_48, cs_49, cs_50, cs_51, cs_52, cs_53, cs_54, cs_55, cs_56, cs_57, cs_58, cs_59, cs_60, cs_61, cs_62, cs_63, cs_64, cs_97, cs_100, cs_122, cs_200, cs_300, cs_448, cs_1000, al_11, al_12, al_13, al_14, al_15, al_16, al_17, al_18, al_19, al_20, al_21, al_22, al_23, al_24, al_25, al_26, al_27, al_28, al_29, al_30, al_31, al_32, al_33, al_34, al_35, al_36, al_37, al_38, al_39, al_40, al_41, al_42, al_43, al_44, al_45, al_46, al_47, p3, f26, e26]
                  have h9 := ih2 (k + 1) (wI M5 26 0 (S 36 (64 * l + k)) (nI (V 26 (S 36 (64 * l + k)) + 1))) (some (vI (S 36 (64 * l + k)))) (by omega)
                  rw [hgo] at h9
                  refine h9 ((RF.w (r := 26) (k := S 36 (64 * l + k)) (v := V 26 (S 36 (64 * l + k)) + 1) (by decide) hM5).eq (fun a b => ?_))
                  rw [hc]
                  rfl
                obtain ⟨p2, p3, p4, p5, p6, p7, p8, p10, p11, p15, p16, p17, p18, p19, p20, p21, p22, p23, p25, p26, p27, p32⟩ := hM3.1.1
                obtain ⟨f10, f25, f26, f27, f28, f29, f30, f31, f32, f33, f34, f35, f36, f37, f38, f39, f40, f41, f42, f43, f44, f45, f46⟩ := hM3.fs
                refine ev_at hC (fun pc => pc == 178) 9 121 (ls := [some vm, some (vI f), some (vI l), some (vI g), some (vI k), x5]) ?_
                try simp only [↓cb_X10_proof_0, ↓cb_X10_proof_13, ↓cb_X10_proof_27, ↓cb_X10_proof_28, ↓cb_X10_proof_36, ↓cb_X10_proof_43, ↓cb_X10_proof_56, ↓cb_X10_proof_118, ↓cb_X10_proof_121, ↓cb_X10_proof_153, ↓cb_X10_proof_168, ↓cb_X10_proof_178, ↓cb_X10_proof_198, ↓cb_X10_proof_204, ↓te_ald, ↓te_aload, ↓te_ast, ↓te_bin, ↓te_call, ↓te_callV, ↓te_const, ↓te_dup2, ↓te_getI, ↓te_getP, ↓te_goto, ↓te_icmp, ↓te_if, ↓te_iinc, ↓te_iload, ↓te_iret, ↓te_istore, ↓te_putI, ↓evb_c, ↓evb_n, ↓evk_ap, ↓evm_ap, ↓evm_0, ↓jret_v, ↓jret_n, jget, jset, cond_true, cond_false, Nat.reduceBEq, jc1, List.take_succ_cons, List.take_zero, List.drop_succ_cons, List.drop_zero, List.reverse_cons, List.reverse_nil, List.nil_append, List.cons_append, List.length_cons, List.length_nil, Nat.zero_add, Nat.reduceAdd, beq_self_eq_true, true_and, and_true, Nat.reduceLeDiff, Nat.le_refl, Nat.zero_le, Bool.or_true, Bool.true_or, Bool.or_false, Bool.false_or, Bool.or_self]
                try simp (disch := omega) only [Nat.reduceEqDiff, Prod.mk.injEq, Option.some.injEq, true_and, and_true, exists_eq_left', exists_eq_right, exists_and_left, exists_const, true_or, or_true, ne_eq, not_true_eq_false, not_false_eq_true, reduceCtorEq, false_and, and_false, if_true, if_false, forall_const, true_implies, false_implies, implies_true, qI_wI, qI_wP, qP_wI, qP_wP, qN_wI, qN_wP, and_self, nI_add, pk_mul, nI_clamp, vp_in_nI, ng_1, ng_10, nI_eq32, cs_0, cs_1, cs_2, cs_3, cs_4, cs_5, cs_6, cs_7, cs_8, cs_9, cs_10, cs_11, cs_12, cs_13, cs_14, cs_15, cs_16, cs_17, cs_18, cs_19, cs_20, cs_21, cs_22, cs_23, cs_24, cs_25, cs_26, cs_27, cs_28, cs_29, cs_30, cs_31, cs_32, cs_33, cs_34, cs_35, cs_36, cs_37, cs_38, cs_39, cs_40, cs_41, cs_42, cs_43, cs_44, cs_45, cs_46, cs_47, cs_48, cs_49, cs_50, cs_51, cs_52, cs_53, cs_54, cs_55, cs_56, cs_57, cs_58, cs_59, cs_60, cs_61, cs_62, cs_63, cs_64, cs_97, cs_100, cs_122, cs_200, cs_300, cs_448, cs_1000, al_11, al_12, al_13, al_14, al_15, al_16, al_17, al_18, al_19, al_20, al_21, al_22, al_23, al_24, al_25, al_26, al_27, al_28, al_29, al_30, al_31, al_32, al_33, al_34, al_35, al_36, al_37, al_38, al_39, al_40, al_41, al_42, al_43, al_44, al_45, al_46, al_47, p2, p3, p4, p5, p6, p7, p8, p10, p11, p15, p16, p17, p18, p19, p20, p21, p22, p23, p25, p26, p27, p32, f10, f25, f26, f27, f28, f29, f30, f31, f32, f33, f34, f35, f36, f37, f38, f39, f40, f41, f42, f43, f44, f45, f46, b36]
                have gl1 : spGlyph V (S 36 (64 * l + k)) = if nI (V 26 (S 36 (64 * l + k))) < nI 12 then if V 28 (S 36 (64 * l + k)) = 0 then spSign (V 25 (S 36 (64 * l + k))) else 61 else 63 := rfl
                refine ⟨fun q => ⟨fun q2 => ?_, fun q2 => ?_⟩, fun q => ?_⟩
                · refine mm_signOf G hF2 ?_
                  try simp only [↓cb_X10_proof_0, ↓cb_X10_proof_13, ↓cb_X10_proof_27, ↓cb_X10_proof_28, ↓cb_X10_proof_36, ↓cb_X10_proof_43, ↓cb_X10_proof_56, ↓cb_X10_proof_118, ↓cb_X10_proof_121, ↓cb_X10_proof_153, ↓cb_X10_proof_168, ↓cb_X10_proof_178, ↓cb_X10_proof_198, ↓cb_X10_proof_204, ↓te_ald, ↓te_aload, ↓te_ast, ↓te_bin, ↓te_call, ↓te_callV, ↓te_const, ↓te_dup2, ↓te_getI, ↓te_getP, ↓te_goto, ↓te_icmp, ↓te_if, ↓te_iinc, ↓te_iload, ↓te_iret, ↓te_istore, ↓te_putI, ↓evb_c, ↓evb_n, ↓evk_ap, ↓evm_ap, ↓evm_0, ↓jret_v, ↓jret_n, jget, jset, cond_true, cond_false, Nat.reduceBEq, jc1, List.take_succ_cons, List.take_zero, List.drop_succ_cons, List.drop_zero, List.reverse_cons, List.reverse_nil, List.nil_append, List.cons_append, List.length_cons, List.length_nil, Nat.zero_add, Nat.reduceAdd, beq_self_eq_true, true_and, and_true, Nat.reduceLeDiff, Nat.le_refl, Nat.zero_le, Bool.or_true, Bool.true_or, Bool.or_false, Bool.false_or, Bool.or_self]
                  exact k178 _ _ hM3 (by rw [gl1, if_pos q, if_pos (by first | exact q2 | exact Classical.not_not.mp q2)])
                · exact k178 _ _ hM3 (by rw [gl1, if_pos q, if_neg q2])
                · exact k178 _ _ hM3 (by rw [gl1, if_neg q])
              obtain ⟨p2, p3, p4, p5, p6, p7, p8, p10, p11, p15, p16, p17, p18, p19, p20, p21, p22, p23, p25, p26, p27, p32⟩ := hM2.1.1
              obtain ⟨f10, f25, f26, f27, f28, f29, f30, f31, f32, f33, f34, f35, f36, f37, f38, f39, f40, f41, f42, f43, f44, f45, f46⟩ := hM2.fs
              refine ev_at hC (fun pc => pc == 43 || pc == 56 || pc == 121) 9 56 (ls := [some vm, some (vI f), some (vI l), some (vI (spPrL l k U).1), some (vI k), x5]) ?_
              try simp only [↓cb_X10_proof_0, ↓cb_X10_proof_13, ↓cb_X10_proof_27, ↓cb_X10_proof_28, ↓cb_X10_proof_36, ↓cb_X10_proof_43, ↓cb_X10_proof_56, ↓cb_X10_proof_118, ↓cb_X10_proof_121, ↓cb_X10_proof_153, ↓cb_X10_proof_168, ↓cb_X10_proof_178, ↓cb_X10_proof_198, ↓cb_X10_proof_204, ↓te_ald, ↓te_aload, ↓te_ast, ↓te_bin, ↓te_call, ↓te_callV, ↓te_const, ↓te_dup2, ↓te_getI, ↓te_getP, ↓te_goto, ↓te_icmp, ↓te_if, ↓te_iinc, ↓te_iload, ↓te_iret, ↓te_istore, ↓te_putI, ↓evb_c, ↓evb_n, ↓evk_ap, ↓evm_ap, ↓evm_0, ↓jret_v, ↓jret_n, jget, jset, cond_true, cond_false, Nat.reduceBEq, jc1, List.take_succ_cons, List.take_zero, List.drop_succ_cons, List.drop_zero, List.reverse_cons, List.reverse_nil, List.nil_append, List.cons_append, List.length_cons, List.length_nil, Nat.zero_add, Nat.reduceAdd, beq_self_eq_true, true_and, and_true, Nat.reduceLeDiff, Nat.le_refl, Nat.zero_le, Bool.or_true, Bool.true_or, Bool.or_false, Bool.false_or, Bool.or_self]
              have hV0 : ∀ a b, ¬ (a = 10 ∨ a = 45 ∨ a = 26) → (spPrL l k U).2 a b = S a b := fun a b hab => (spPrL_row U (by omega) k).trans (ur a b hab)
              by_cases q1 : (spPrL l k U).1 < S 38 l
              · by_cases q2 : nI (S 39 (64 * l + (spPrL l k U).1)) = nI k
                · rw [if_pos ⟨q1, q2⟩] at hu
                  try simp (disch := omega) only [Nat.reduceEqDiff, Prod.mk.injEq, Option.some.injEq, true_and, and_true, exists_eq_left', exists_eq_right, exists_and_left, exists_const, true_or, or_true, ne_eq, not_true_eq_false, not_false_eq_true, reduceCtorEq, false_and, and_false, if_true, if_false, forall_const, true_implies, false_implies, implies_true, qI_wI, qI_wP, qP_wI, qP_wP, qN_wI, qN_wP, and_self, nI_add, pk_mul, nI_clamp, vp_in_nI, ng_1, ng_10, nI_eq32, cs_0, cs_1, cs_2, cs_3, cs_4, cs_5, cs_6, cs_7, cs_8, cs_9, cs_10, cs_11, cs_12, cs_13, cs_14, cs_15, cs_16, cs_17, cs_18, cs_19, cs_20, cs_21, cs_22, cs_23, cs_24, cs_25, cs_26, cs_27, cs_28, cs_29, cs_30, cs_31, cs_32, cs_33, cs_34, cs_35, cs_36, cs_37, cs_38, cs_39, cs_40, cs_41, cs_42, cs_43, cs_44, cs_45, cs_46, cs_47, cs_48, cs_49, cs_50, cs_51, cs_52, cs_53, cs_54, cs_55, cs_56, cs_57, cs_58, cs_59, cs_60, cs_61, cs_62, cs_63, cs_64, cs_97, cs_100, cs_122, cs_200, cs_300, cs_448, cs_1000, al_11, al_12, al_13, al_14, al_15, al_16, al_17, al_18, al_19, al_20, al_21, al_22, al_23, al_24, al_25, al_26, al_27, al_28, al_29, al_30, al_31, al_32, al_33, al_34, al_35, al_36, al_37, al_38, al_39, al_40, al_41, al_42, al_43, al_44, al_45, al_46, al_47, p2, p3, p4, p5, p6, p7, p8, p10, p11, p15, p16, p17, p18, p19, p20, p21, p22, p23, p25, p26, p27, p32, f10, f25, f26, f27, f28, f29, f30, f31, f32, f33, f34, f35, f36, f37, f38, f39, f40, f41, f42, f43, f44, f45, f46, e35, e38, e39, e42, q2, nI_leI]
                  refine ⟨fun q => absurd q (by omega), fun _ => ⟨fun q => absurd q (by omega), fun _ => ?_⟩⟩
                  refine mm_unitsIn G (l := l) (g := (spPrL l k U).1) (by omega) (by omega) hM2 ?_
                  rw [e40]
                  try simp only [↓cb_X10_proof_0, ↓cb_X10_proof_13, ↓cb_X10_proof_27, ↓cb_X10_proof_28, ↓cb_X10_proof_36, ↓cb_X10_proof_43, ↓cb_X10_proof_56, ↓cb_X10_proof_118, ↓cb_X10_proof_121, ↓cb_X10_proof_153, ↓cb_X10_proof_168, ↓cb_X10_proof_178, ↓cb_X10_proof_198, ↓cb_X10_proof_204, ↓te_ald, ↓te_aload, ↓te_ast, ↓te_bin, ↓te_call, ↓te_callV, ↓te_const, ↓te_dup2, ↓te_getI, ↓te_getP, ↓te_goto, ↓te_icmp, ↓te_if, ↓te_iinc, ↓te_iload, ↓te_iret, ↓te_istore, ↓te_putI, ↓evb_c, ↓evb_n, ↓evk_ap, ↓evm_ap, ↓evm_0, ↓jret_v, ↓jret_n, jget, jset, cond_true, cond_false, Nat.reduceBEq, jc1, List.take_succ_cons, List.take_zero, List.drop_succ_cons, List.drop_zero, List.reverse_cons, List.reverse_nil, List.nil_append, List.cons_append, List.length_cons, List.length_nil, Nat.zero_add, Nat.reduceAdd, beq_self_eq_true, true_and, and_true, Nat.reduceLeDiff, Nat.le_refl, Nat.zero_le, Bool.or_true, Bool.true_or, Bool.or_false, Bool.false_or, Bool.or_self]
                  try simp (disch := omega) only [Nat.reduceEqDiff, Prod.mk.injEq, Option.some.injEq, true_and, and_true, exists_eq_left', exists_eq_right, exists_and_left, exists_const, true_or, or_true, ne_eq, not_true_eq_false, not_false_eq_true, reduceCtorEq, false_and, and_false, if_true, if_false, forall_const, true_implies, false_implies, implies_true, qI_wI, qI_wP, qP_wI, qP_wP, qN_wI, qN_wP, and_self, nI_add, pk_mul, nI_clamp, vp_in_nI, ng_1, ng_10, nI_eq32, cs_0, cs_1, cs_2, cs_3, cs_4, cs_5, cs_6, cs_7, cs_8, cs_9, cs_10, cs_11, cs_12, cs_13, cs_14, cs_15, cs_16, cs_17, cs_18, cs_19, cs_20, cs_21, cs_22, cs_23, cs_24, cs_25, cs_26, cs_27, cs_28, cs_29, cs_30, cs_31, cs_32, cs_33, cs_34, cs_35, cs_36, cs_37, cs_38, cs_39, cs_40, cs_41, cs_42, cs_43, cs_44, cs_45, cs_46, cs_47, cs_48, cs_49, cs_50, cs_51, cs_52, cs_53, cs_54, cs_55, cs_56, cs_57, cs_58, cs_59, cs_60, cs_61, cs_62, cs_63, cs_64, cs_97, cs_100, cs_122, cs_200, cs_300, cs_448, cs_1000, al_11, al_12, al_13, al_14, al_15, al_16, al_17, al_18, al_19, al_20, al_21, al_22, al_23, al_24, al_25, al_26, al_27, al_28, al_29, al_30, al_31, al_32, al_33, al_34, al_35, al_36, al_37, al_38, al_39, al_40, al_41, al_42, al_43, al_44, al_45, al_46, al_47]
                  refine ⟨fun q3 => ?_, fun q3 => ?_⟩
                  · rw [if_neg (Int32.not_lt.mpr q3)] at hu
                    exact k121 _ _ _ _ hM2 hV0 (by omega) hu
                  · rw [if_pos (Int32.not_le.mp q3)] at hu
                    refine mm_show G (c := 32) (by omega) (by omega) hM2 (fun M3 hM3 => ?_)
                    try simp only [↓cb_X10_proof_0, ↓cb_X10_proof_13, ↓cb_X10_proof_27, ↓cb_X10_proof_28, ↓cb_X10_proof_36, ↓cb_X10_proof_43, ↓cb_X10_proof_56, ↓cb_X10_proof_118, ↓cb_X10_proof_121, ↓cb_X10_proof_153, ↓cb_X10_proof_168, ↓cb_X10_proof_178, ↓cb_X10_proof_198, ↓cb_X10_proof_204, ↓te_ald, ↓te_aload, ↓te_ast, ↓te_bin, ↓te_call, ↓te_callV, ↓te_const, ↓te_dup2, ↓te_getI, ↓te_getP, ↓te_goto, ↓te_icmp, ↓te_if, ↓te_iinc, ↓te_iload, ↓te_iret, ↓te_istore, ↓te_putI, ↓evb_c, ↓evb_n, ↓evk_ap, ↓evm_ap, ↓evm_0, ↓jret_v, ↓jret_n, jget, jset, cond_true, cond_false, Nat.reduceBEq, jc1, List.take_succ_cons, List.take_zero, List.drop_succ_cons, List.drop_zero, List.reverse_cons, List.reverse_nil, List.nil_append, List.cons_append, List.length_cons, List.length_nil, Nat.zero_add, Nat.reduceAdd, beq_self_eq_true, true_and, and_true, Nat.reduceLeDiff, Nat.le_refl, Nat.zero_le, Bool.or_true, Bool.true_or, Bool.or_false, Bool.false_or, Bool.or_self]
                    try simp (disch := omega) only [Nat.reduceEqDiff, Prod.mk.injEq, Option.some.injEq, true_and, and_true, exists_eq_left', exists_eq_right, exists_and_left, exists_const, true_or, or_true, ne_eq, not_true_eq_false, not_false_eq_true, reduceCtorEq, false_and, and_false, if_true, if_false, forall_const, true_implies, false_implies, implies_true, qI_wI, qI_wP, qP_wI, qP_wP, qN_wI, qN_wP, and_self, nI_add, pk_mul, nI_clamp, vp_in_nI, ng_1, ng_10, nI_eq32, cs_0, cs_1, cs_2, cs_3, cs_4, cs_5, cs_6, cs_7, cs_8, cs_9, cs_10, cs_11, cs_12, cs_13, cs_14, cs_15, cs_16, cs_17, cs_18, cs_19, cs_20, cs_21, cs_22, cs_23, cs_24, cs_25, cs_26, cs_27, cs_28, cs_29, cs_30, cs_31, cs_32, cs_33, cs_34, cs_35, cs_36, cs_37, cs_38, cs_39, cs_40, cs_41, cs_42, cs_43, cs_44, cs_45, cs_46, cs_47, cs_48, cs_49, cs_50, cs_51, cs_52, cs_53, cs_54, cs_55, cs_56, cs_57, cs_58, cs_59, cs_60, cs_61, cs_62, cs_63, cs_64, cs_97, cs_100, cs_122, cs_200, cs_300, cs_448, cs_1000, al_11, al_12, al_13, al_14, al_15, al_16, al_17, al_18, al_19, al_20, al_21, al_22, al_23, al_24, al_25, al_26, al_27, al_28, al_29, al_30, al_31, al_32, al_33, al_34, al_35, al_36, al_37, al_38, al_39, al_40, al_41, al_42, al_43, al_44, al_45, al_46, al_47]
                    refine k121 (spShow (spPrL l k U).2 32) _ _ _ hM3 (fun a b hab => ?_) ?_ hu
                    · rw [spShow_row _ _ (by omega)]
                      exact hV0 a b hab
                    · rw [spShow_28]
                      omega
                · rw [if_neg (fun q => q2 q.2)] at hu
                  try simp (disch := omega) only [Nat.reduceEqDiff, Prod.mk.injEq, Option.some.injEq, true_and, and_true, exists_eq_left', exists_eq_right, exists_and_left, exists_const, true_or, or_true, ne_eq, not_true_eq_false, not_false_eq_true, reduceCtorEq, false_and, and_false, if_true, if_false, forall_const, true_implies, false_implies, implies_true, qI_wI, qI_wP, qP_wI, qP_wP, qN_wI, qN_wP, and_self, nI_add, pk_mul, nI_clamp, vp_in_nI, ng_1, ng_10, nI_eq32, cs_0, cs_1, cs_2, cs_3, cs_4, cs_5, cs_6, cs_7, cs_8, cs_9, cs_10, cs_11, cs_12, cs_13, cs_14, cs_15, cs_16, cs_17, cs_18, cs_19, cs_20, cs_21, cs_22, cs_23, cs_24, cs_25, cs_26, cs_27, cs_28, cs_29, cs_30, cs_31, cs_32, cs_33, cs_34, cs_35, cs_36, cs_37, cs_38, cs_39, cs_40, cs_41, cs_42, cs_43, cs_44, cs_45, cs_46, cs_47, cs_48, cs_49, cs_50, cs_51, cs_52, cs_53, cs_54, cs_55, cs_56, cs_57, cs_58, cs_59, cs_60, cs_61, cs_62, cs_63, cs_64, cs_97, cs_100, cs_122, cs_200, cs_300, cs_448, cs_1000, al_11, al_12, al_13, al_14, al_15, al_16, al_17, al_18, al_19, al_20, al_21, al_22, al_23, al_24, al_25, al_26, al_27, al_28, al_29, al_30, al_31, al_32, al_33, al_34, al_35, al_36, al_37, al_38, al_39, al_40, al_41, al_42, al_43, al_44, al_45, al_46, al_47, p2, p3, p4, p5, p6, p7, p8, p10, p11, p15, p16, p17, p18, p19, p20, p21, p22, p23, p25, p26, p27, p32, f10, f25, f26, f27, f28, f29, f30, f31, f32, f33, f34, f35, f36, f37, f38, f39, f40, f41, f42, f43, f44, f45, f46, e35, e38, e39, e42, q2, nI_leI]
                  refine ⟨fun q => absurd q (by omega), fun _ => ?_⟩
                  first
                    | exact ⟨fun q => absurd q (by omega), fun _ => k121 _ _ _ _ hM2 hV0 (by omega) hu⟩
                    | exact ⟨fun q => k121 _ _ _ _ hM2 hV0 (by omega) hu, fun _ => k121 _ _ _ _ hM2 hV0 (by omega) hu⟩
                    | exact fun _ => k121 _ _ _ _ hM2 hV0 (by omega) hu
                    | exact k121 _ _ _ _ hM2 hV0 (by omega) hu
              · rw [if_neg (fun q => q1 q.1)] at hu
                try simp (disch := omega) only [Nat.reduceEqDiff, Prod.mk.injEq, Option.some.injEq, true_and, and_true, exists_eq_left', exists_eq_right, exists_and_left, exists_const, true_or, or_true, ne_eq, not_true_eq_false, not_false_eq_true, reduceCtorEq, false_and, and_false, if_true, if_false, forall_const, true_implies, false_implies, implies_true, qI_wI, qI_wP, qP_wI, qP_wP, qN_wI, qN_wP, and_self, nI_add, pk_mul, nI_clamp, vp_in_nI, ng_1, ng_10, nI_eq32, cs_0, cs_1, cs_2, cs_3, cs_4, cs_5, cs_6, cs_7, cs_8, cs_9, cs_10, cs_11, cs_12, cs_13, cs_14, cs_15, cs_16, cs_17, cs_18, cs_19, cs_20, cs_21, cs_22, cs_23, cs_24, cs_25, cs_26, cs_27, cs_28, cs_29, cs_30, cs_31, cs_32, cs_33, cs_34, cs_35, cs_36, cs_37, cs_38, cs_39, cs_40, cs_41, cs_42, cs_43, cs_44, cs_45, cs_46, cs_47, cs_48, cs_49, cs_50, cs_51, cs_52, cs_53, cs_54, cs_55, cs_56, cs_57, cs_58, cs_59, cs_60, cs_61, cs_62, cs_63, cs_64, cs_97, cs_100, cs_122, cs_200, cs_300, cs_448, cs_1000, al_11, al_12, al_13, al_14, al_15, al_16, al_17, al_18, al_19, al_20, al_21, al_22, al_23, al_24, al_25, al_26, al_27, al_28, al_29, al_30, al_31, al_32, al_33, al_34, al_35, al_36, al_37, al_38, al_39, al_40, al_41, al_42, al_43, al_44, al_45, al_46, al_47, p2, p3, p4, p5, p6, p7, p8, p10, p11, p15, p16, p17, p18, p19, p20, p21, p22, p23, p25, p26, p27, p32, f10, f25, f26, f27, f28, f29, f30, f31, f32, f33, f34, f35, f36, f37, f38, f39, f40, f41, f42, f43, f44, f45, f46, e35, e38, e39, e42, nI_leI]
                exact ⟨fun q => absurd q (by omega), fun _ => ⟨fun _ => k121 _ _ _ _ hM2 hV0 (by omega) hu, fun q => absurd (by omega) q⟩⟩
          obtain ⟨p2, p3, p4, p5, p6, p7, p8, p10, p11, p15, p16, p17, p18, p19, p20, p21, p22, p23, p25, p26, p27, p32⟩ := hM1.1.1
          obtain ⟨f10, f25, f26, f27, f28, f29, f30, f31, f32, f33, f34, f35, f36, f37, f38, f39, f40, f41, f42, f43, f44, f45, f46⟩ := hM1.fs
          refine ev_at hC (fun pc => pc == 43 || pc == 56) 9 43 (ls := [some vm, some (vI f), some (vI l), x3, x4, x5]) ?_
          try simp only [↓cb_X10_proof_0, ↓cb_X10_proof_13, ↓cb_X10_proof_27, ↓cb_X10_proof_28, ↓cb_X10_proof_36, ↓cb_X10_proof_43, ↓cb_X10_proof_56, ↓cb_X10_proof_118, ↓cb_X10_proof_121, ↓cb_X10_proof_153, ↓cb_X10_proof_168, ↓cb_X10_proof_178, ↓cb_X10_proof_198, ↓cb_X10_proof_204, ↓te_ald, ↓te_aload, ↓te_ast, ↓te_bin, ↓te_call, ↓te_callV, ↓te_const, ↓te_dup2, ↓te_getI, ↓te_getP, ↓te_goto, ↓te_icmp, ↓te_if, ↓te_iinc, ↓te_iload, ↓te_iret, ↓te_istore, ↓te_putI, ↓evb_c, ↓evb_n, ↓evk_ap, ↓evm_ap, ↓evm_0, ↓jret_v, ↓jret_n, jget, jset, cond_true, cond_false, Nat.reduceBEq, jc1, List.take_succ_cons, List.take_zero, List.drop_succ_cons, List.drop_zero, List.reverse_cons, List.reverse_nil, List.nil_append, List.cons_append, List.length_cons, List.length_nil, Nat.zero_add, Nat.reduceAdd, beq_self_eq_true, true_and, and_true, Nat.reduceLeDiff, Nat.le_refl, Nat.zero_le, Bool.or_true, Bool.true_or, Bool.or_false, Bool.false_or, Bool.or_self]
          try simp (disch := omega) only [Nat.reduceEqDiff, Prod.mk.injEq, Option.some.injEq, true_and, and_true, exists_eq_left', exists_eq_right, exists_and_left, exists_const, true_or, or_true, ne_eq, not_true_eq_false, not_false_eq_true, reduceCtorEq, false_and, and_false, if_true, if_false, forall_const, true_implies, false_implies, implies_true, qI_wI, qI_wP, qP_wI, qP_wP, qN_wI, qN_wP, and_self, nI_add, pk_mul, nI_clamp, vp_in_nI, ng_1, ng_10, nI_eq32, cs_0, cs_1, cs_2, cs_3, cs_4, cs_5, cs_6, cs_7, cs_8, cs_9, cs_10, cs_11, cs_12, cs_13, cs_14, cs_15, cs_16, cs_17, cs_18, cs_19, cs_20, cs_21, cs_22, cs_23, cs_24, cs_25, cs_26, cs_27, cs_28, cs_29, cs_30, cs_31, cs_32, cs_33, cs_34, cs_35, cs_36, cs_37, cs_38, cs_39, cs_40, cs_41, cs_42, cs_43, cs_44, cs_45, cs_46, cs_47, cs_48, cs_49, cs_50, cs_51, cs_52, cs_53, cs_54, cs_55, cs_56, cs_57, cs_58, cs_59, cs_60, cs_61, cs_62, cs_63, cs_64, cs_97, cs_100, cs_122, cs_200, cs_300, cs_448, cs_1000, al_11, al_12, al_13, al_14, al_15, al_16, al_17, al_18, al_19, al_20, al_21, al_22, al_23, al_24, al_25, al_26, al_27, al_28, al_29, al_30, al_31, al_32, al_33, al_34, al_35, al_36, al_37, al_38, al_39, al_40, al_41, al_42, al_43, al_44, al_45, al_46, al_47, p2, p3, p4, p5, p6, p7, p8, p10, p11, p15, p16, p17, p18, p19, p20, p21, p22, p23, p25, p26, p27, p32, f10, f25, f26, f27, f28, f29, f30, f31, f32, f33, f34, f35, f36, f37, f38, f39, f40, f41, f42, f43, f44, f45, f46, u14, nI_leI]
          refine ⟨fun q => absurd q (by omega), fun _ => ?_⟩
          by_cases h42 : S 42 l = f
          · exact k56 h42 (S 35 l) 0 M1 x5 (Nat.zero_add _) hM1
          · have e35 : U 35 l = S 35 l := ur 35 l (by omega)
            have e42 : U 42 l = S 42 l := ur 42 l (by omega)
            rw [if_neg h42] at hs1
            have go := fun y => ih (l + 1) M1 (some (vI 0)) (some (vI 0)) y (by omega) (by rw [hs1]; exact hM1)
            refine ev_at hC (fun pc => pc == 43 || pc == 121) 9 56 (ls := [some vm, some (vI f), some (vI l), some (vI 0), some (vI 0), x5]) ?_
            try simp only [↓cb_X10_proof_0, ↓cb_X10_proof_13, ↓cb_X10_proof_27, ↓cb_X10_proof_28, ↓cb_X10_proof_36, ↓cb_X10_proof_43, ↓cb_X10_proof_56, ↓cb_X10_proof_118, ↓cb_X10_proof_121, ↓cb_X10_proof_153, ↓cb_X10_proof_168, ↓cb_X10_proof_178, ↓cb_X10_proof_198, ↓cb_X10_proof_204, ↓te_ald, ↓te_aload, ↓te_ast, ↓te_bin, ↓te_call, ↓te_callV, ↓te_const, ↓te_dup2, ↓te_getI, ↓te_getP, ↓te_goto, ↓te_icmp, ↓te_if, ↓te_iinc, ↓te_iload, ↓te_iret, ↓te_istore, ↓te_putI, ↓evb_c, ↓evb_n, ↓evk_ap, ↓evm_ap, ↓evm_0, ↓jret_v, ↓jret_n, jget, jset, cond_true, cond_false, Nat.reduceBEq, jc1, List.take_succ_cons, List.take_zero, List.drop_succ_cons, List.drop_zero, List.reverse_cons, List.reverse_nil, List.nil_append, List.cons_append, List.length_cons, List.length_nil, Nat.zero_add, Nat.reduceAdd, beq_self_eq_true, true_and, and_true, Nat.reduceLeDiff, Nat.le_refl, Nat.zero_le, Bool.or_true, Bool.true_or, Bool.or_false, Bool.false_or, Bool.or_self]
            try simp (disch := omega) only [Nat.reduceEqDiff, Prod.mk.injEq, Option.some.injEq, true_and, and_true, exists_eq_left', exists_eq_right, exists_and_left, exists_const, true_or, or_true, ne_eq, not_true_eq_false, not_false_eq_true, reduceCtorEq, false_and, and_false, if_true, if_false, forall_const, true_implies, false_implies, implies_true, qI_wI, qI_wP, qP_wI, qP_wP, qN_wI, qN_wP, and_self, nI_add, pk_mul, nI_clamp, vp_in_nI, ng_1, ng_10, nI_eq32, cs_0, cs_1, cs_2, cs_3, cs_4, cs_5, cs_6, cs_7, cs_8, cs_9, cs_10, cs_11, cs_12, cs_13, cs_14, cs_15, cs_16, cs_17, cs_18, cs_19, cs_20, cs_21, cs_22, cs_23, cs_24, cs_25, cs_26, cs_27, cs_28, cs_29, cs_30, cs_31, cs_32, cs_33, cs_34, cs_35, cs_36, cs_37, cs_38, cs_39, cs_40, cs_41, cs_42, cs_43, cs_44, cs_45, cs_46, cs_47, cs_48, cs_49, cs_50, cs_51, cs_52, cs_53, cs_54, cs_55, cs_56, cs_57, cs_58, cs_59, cs_60, cs_61, cs_62, cs_63, cs_64, cs_97, cs_100, cs_122, cs_200, cs_300, cs_448, cs_1000, al_11, al_12, al_13, al_14, al_15, al_16, al_17, al_18, al_19, al_20, al_21, al_22, al_23, al_24, al_25, al_26, al_27, al_28, al_29, al_30, al_31, al_32, al_33, al_34, al_35, al_36, al_37, al_38, al_39, al_40, al_41, al_42, al_43, al_44, al_45, al_46, al_47, p2, p3, p4, p5, p6, p7, p8, p10, p11, p15, p16, p17, p18, p19, p20, p21, p22, p23, p25, p26, p27, p32, f10, f25, f26, f27, f28, f29, f30, f31, f32, f33, f34, f35, f36, f37, f38, f39, f40, f41, f42, f43, f44, f45, f46, e35, e42, h42, nI_leI]
            first
              | exact go _
              | exact ⟨fun _ => go _, fun _ => go _⟩
              | exact ⟨fun _ => go _, fun _ => ⟨fun _ => go _, fun q => absurd q h42⟩⟩
      exact key (S 10 14) 0 _ _ _ _ (Nat.zero_add _) hM3
    · rw [if_neg h] at hQ
      refine mm_refk G (k := 2) (by omega) (by omega) hM (fun M2 hM2 => ?_)
      try simp only [↓cb_X10_proof_0, ↓cb_X10_proof_13, ↓cb_X10_proof_27, ↓cb_X10_proof_28, ↓cb_X10_proof_36, ↓cb_X10_proof_43, ↓cb_X10_proof_56, ↓cb_X10_proof_118, ↓cb_X10_proof_121, ↓cb_X10_proof_153, ↓cb_X10_proof_168, ↓cb_X10_proof_178, ↓cb_X10_proof_198, ↓cb_X10_proof_204, ↓te_ald, ↓te_aload, ↓te_ast, ↓te_bin, ↓te_call, ↓te_callV, ↓te_const, ↓te_dup2, ↓te_getI, ↓te_getP, ↓te_goto, ↓te_icmp, ↓te_if, ↓te_iinc, ↓te_iload, ↓te_iret, ↓te_istore, ↓te_putI, ↓evb_c, ↓evb_n, ↓evk_ap, ↓evm_ap, ↓evm_0, ↓jret_v, ↓jret_n, jget, jset, cond_true, cond_false, Nat.reduceBEq, jc1, List.take_succ_cons, List.take_zero, List.drop_succ_cons, List.drop_zero, List.reverse_cons, List.reverse_nil, List.nil_append, List.cons_append, List.length_cons, List.length_nil, Nat.zero_add, Nat.reduceAdd, beq_self_eq_true, true_and, and_true, Nat.reduceLeDiff, Nat.le_refl, Nat.zero_le, Bool.or_true, Bool.true_or, Bool.or_false, Bool.false_or, Bool.or_self]
      try simp (disch := omega) only [Nat.reduceEqDiff, Prod.mk.injEq, Option.some.injEq, true_and, and_true, exists_eq_left', exists_eq_right, exists_and_left, exists_const, true_or, or_true, ne_eq, not_true_eq_false, not_false_eq_true, reduceCtorEq, false_and, and_false, if_true, if_false, forall_const, true_implies, false_implies, implies_true, qI_wI, qI_wP, qP_wI, qP_wP, qN_wI, qN_wP, and_self, nI_add, pk_mul, nI_clamp, vp_in_nI, ng_1, ng_10, nI_eq32, cs_0, cs_1, cs_2, cs_3, cs_4, cs_5, cs_6, cs_7, cs_8, cs_9, cs_10, cs_11, cs_12, cs_13, cs_14, cs_15, cs_16, cs_17, cs_18, cs_19, cs_20, cs_21, cs_22, cs_23, cs_24, cs_25, cs_26, cs_27, cs_28, cs_29, cs_30, cs_31, cs_32, cs_33, cs_34, cs_35, cs_36, cs_37, cs_38, cs_39, cs_40, cs_41, cs_42, cs_43, cs_44, cs_45, cs_46, cs_47, cs_48, cs_49, cs_50, cs_51, cs_52, cs_53, cs_54, cs_55, cs_56, cs_57, cs_58, cs_59, cs_60, cs_61, cs_62, cs_63, cs_64, cs_97, cs_100, cs_122, cs_200, cs_300, cs_448, cs_1000, al_11, al_12, al_13, al_14, al_15, al_16, al_17, al_18, al_19, al_20, al_21, al_22, al_23, al_24, al_25, al_26, al_27, al_28, al_29, al_30, al_31, al_32, al_33, al_34, al_35, al_36, al_37, al_38, al_39, al_40, al_41, al_42, al_43, al_44, al_45, al_46, al_47]
      exact hQ M2 hM2
  · rw [if_neg h1] at hQ
    rw [jb_f h1]
    try simp only [↓cb_X10_proof_0, ↓cb_X10_proof_13, ↓cb_X10_proof_27, ↓cb_X10_proof_28, ↓cb_X10_proof_36, ↓cb_X10_proof_43, ↓cb_X10_proof_56, ↓cb_X10_proof_118, ↓cb_X10_proof_121, ↓cb_X10_proof_153, ↓cb_X10_proof_168, ↓cb_X10_proof_178, ↓cb_X10_proof_198, ↓cb_X10_proof_204, ↓te_ald, ↓te_aload, ↓te_ast, ↓te_bin, ↓te_call, ↓te_callV, ↓te_const, ↓te_dup2, ↓te_getI, ↓te_getP, ↓te_goto, ↓te_icmp, ↓te_if, ↓te_iinc, ↓te_iload, ↓te_iret, ↓te_istore, ↓te_putI, ↓evb_c, ↓evb_n, ↓evk_ap, ↓evm_ap, ↓evm_0, ↓jret_v, ↓jret_n, jget, jset, cond_true, cond_false, Nat.reduceBEq, jc1, List.take_succ_cons, List.take_zero, List.drop_succ_cons, List.drop_zero, List.reverse_cons, List.reverse_nil, List.nil_append, List.cons_append, List.length_cons, List.length_nil, Nat.zero_add, Nat.reduceAdd, beq_self_eq_true, true_and, and_true, Nat.reduceLeDiff, Nat.le_refl, Nat.zero_le, Bool.or_true, Bool.true_or, Bool.or_false, Bool.false_or, Bool.or_self]
    try simp (disch := omega) only [Nat.reduceEqDiff, Prod.mk.injEq, Option.some.injEq, true_and, and_true, exists_eq_left', exists_eq_right, exists_and_left, exists_const, true_or, or_true, ne_eq, not_true_eq_false, not_false_eq_true, reduceCtorEq, false_and, and_false, if_true, if_false, forall_const, true_implies, false_implies, implies_true, qI_wI, qI_wP, qP_wI, qP_wP, qN_wI, qN_wP, and_self, nI_add, pk_mul, nI_clamp, vp_in_nI, ng_1, ng_10, nI_eq32, cs_0, cs_1, cs_2, cs_3, cs_4, cs_5, cs_6, cs_7, cs_8, cs_9, cs_10, cs_11, cs_12, cs_13, cs_14, cs_15, cs_16, cs_17, cs_18, cs_19, cs_20, cs_21, cs_22, cs_23, cs_24, cs_25, cs_26, cs_27, cs_28, cs_29, cs_30, cs_31, cs_32, cs_33, cs_34, cs_35, cs_36, cs_37, cs_38, cs_39, cs_40, cs_41, cs_42, cs_43, cs_44, cs_45, cs_46, cs_47, cs_48, cs_49, cs_50, cs_51, cs_52, cs_53, cs_54, cs_55, cs_56, cs_57, cs_58, cs_59, cs_60, cs_61, cs_62, cs_63, cs_64, cs_97, cs_100, cs_122, cs_200, cs_300, cs_448, cs_1000, al_11, al_12, al_13, al_14, al_15, al_16, al_17, al_18, al_19, al_20, al_21, al_22, al_23, al_24, al_25, al_26, al_27, al_28, al_29, al_30, al_31, al_32, al_33, al_34, al_35, al_36, al_37, al_38, al_39, al_40, al_41, al_42, al_43, al_44, al_45, al_46, al_47]
    refine mm_refk G (k := 1) (by omega) (by omega) hM (fun M2 hM2 => ?_)
    try simp only [↓cb_X10_proof_0, ↓cb_X10_proof_13, ↓cb_X10_proof_27, ↓cb_X10_proof_28, ↓cb_X10_proof_36, ↓cb_X10_proof_43, ↓cb_X10_proof_56, ↓cb_X10_proof_118, ↓cb_X10_proof_121, ↓cb_X10_proof_153, ↓cb_X10_proof_168, ↓cb_X10_proof_178, ↓cb_X10_proof_198, ↓cb_X10_proof_204, ↓te_ald, ↓te_aload, ↓te_ast, ↓te_bin, ↓te_call, ↓te_callV, ↓te_const, ↓te_dup2, ↓te_getI, ↓te_getP, ↓te_goto, ↓te_icmp, ↓te_if, ↓te_iinc, ↓te_iload, ↓te_iret, ↓te_istore, ↓te_putI, ↓evb_c, ↓evb_n, ↓evk_ap, ↓evm_ap, ↓evm_0, ↓jret_v, ↓jret_n, jget, jset, cond_true, cond_false, Nat.reduceBEq, jc1, List.take_succ_cons, List.take_zero, List.drop_succ_cons, List.drop_zero, List.reverse_cons, List.reverse_nil, List.nil_append, List.cons_append, List.length_cons, List.length_nil, Nat.zero_add, Nat.reduceAdd, beq_self_eq_true, true_and, and_true, Nat.reduceLeDiff, Nat.le_refl, Nat.zero_le, Bool.or_true, Bool.true_or, Bool.or_false, Bool.false_or, Bool.or_self]
    try simp (disch := omega) only [Nat.reduceEqDiff, Prod.mk.injEq, Option.some.injEq, true_and, and_true, exists_eq_left', exists_eq_right, exists_and_left, exists_const, true_or, or_true, ne_eq, not_true_eq_false, not_false_eq_true, reduceCtorEq, false_and, and_false, if_true, if_false, forall_const, true_implies, false_implies, implies_true, qI_wI, qI_wP, qP_wI, qP_wP, qN_wI, qN_wP, and_self, nI_add, pk_mul, nI_clamp, vp_in_nI, ng_1, ng_10, nI_eq32, cs_0, cs_1, cs_2, cs_3, cs_4, cs_5, cs_6, cs_7, cs_8, cs_9, cs_10, cs_11, cs_12, cs_13, cs_14, cs_15, cs_16, cs_17, cs_18, cs_19, cs_20, cs_21, cs_22, cs_23, cs_24, cs_25, cs_26, cs_27, cs_28, cs_29, cs_30, cs_31, cs_32, cs_33, cs_34, cs_35, cs_36, cs_37, cs_38, cs_39, cs_40, cs_41, cs_42, cs_43, cs_44, cs_45, cs_46, cs_47, cs_48, cs_49, cs_50, cs_51, cs_52, cs_53, cs_54, cs_55, cs_56, cs_57, cs_58, cs_59, cs_60, cs_61, cs_62, cs_63, cs_64, cs_97, cs_100, cs_122, cs_200, cs_300, cs_448, cs_1000, al_11, al_12, al_13, al_14, al_15, al_16, al_17, al_18, al_19, al_20, al_21, al_22, al_23, al_24, al_25, al_26, al_27, al_28, al_29, al_30, al_31, al_32, al_33, al_34, al_35, al_36, al_37, al_38, al_39, al_40, al_41, al_42, al_43, al_44, al_45, al_46, al_47]
    exact hQ M2 hM2
