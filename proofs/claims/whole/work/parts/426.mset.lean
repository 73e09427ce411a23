/-! THE REFERENCE: set -/
def spMarks (l : Nat) : Nat → jS → jS
  | 0, S => S
  | n + 1, S => sw (spMarks l n S) 27 (S 36 (64 * l + n)) 1
theorem spMarks_row {l : Nat} {S : jS} {a b : Nat} (h : ¬ a = 27) : ∀ n, spMarks l n S a b = S a b
  | 0 => rfl
  | n + 1 => by
    unfold spMarks
    rw [sw_at, if_neg (fun q => h q.1)]
    exact spMarks_row h n
theorem spMarks_27 {l : Nat} {S : jS} {s : Nat} : ∀ n, (spMarks l n S 27 s = 1 ∧ ∃ k, k < n ∧ S 36 (64 * l + k) = s) ∨ (spMarks l n S 27 s = S 27 s ∧ ∀ k, k < n → ¬ S 36 (64 * l + k) = s)
  | 0 => Or.inr ⟨rfl, fun k hk => by omega⟩
  | n + 1 => by
    unfold spMarks
    rw [sw_at]
    by_cases e : s = S 36 (64 * l + n)
    · rw [if_pos ⟨rfl, e⟩]
      exact Or.inl ⟨rfl, n, by omega, e.symm⟩
    · rw [if_neg (fun q => e q.2)]
      rcases spMarks_27 (l := l) (S := S) (s := s) n with ⟨h, k, hk, h2⟩ | ⟨h, h2⟩
      · exact Or.inl ⟨h, k, by omega, h2⟩
      · refine Or.inr ⟨h, fun k hk => ?_⟩
        by_cases e2 : k = n
        · rw [e2]; exact fun q => e q.symm
        · exact h2 k (by omega)
/-- the text less its first t signs, t ≤ k ≤ n moved -/
def spCutK (S : jS) (t k : Nat) : jS := fun a b => if a = 33 ∧ b + t < k then S 33 (b + t) else S a b
def spCutT (S : jS) (t : Nat) : jS := sw (spCutK S t (S 10 12)) 10 12 (S 10 12 - t)
def spEndA (T : jS) (l f : Nat) : jS := sw (sw (spMarks l (T 35 l) T) 34 l f) 42 l jNo
def spEndB (T : jS) (l f t : Nat) : jS := spCutT (spEndA T l f) t
def spEndC (T : jS) (l f t : Nat) : jS := sw (sw (spEndB T l f t) 41 l (jb (spBlanks (spEndB T l f t) 0 = spEndB T l f t 10 12))) 10 14 (l + 1)
def spSetEnd (T : jS) (l f t : Nat) : jS := spFill (spEndC T l f t) l
def spEndN (S : jS) (f : Nat) : Nat := spTo S 0 f + spSplit S 0 f
abbrev spNoSet (S : jS) : Prop := spBlanks S 0 = spWord S (spBlanks S 0) ∨ S 10 14 = 12
def spSetR (S : jS) (f b : Nat) : Nat × jS := spSet (S 10 14) f b (spTo S 0 f) (spEndN S f - spBlanks S 0) (spBlanks S 0) (spBeg S f)
/-- code and answer -/
def sf_setR (S : jS) (x : Int32) (b : Nat) : Nat × Int32 := if inR x 0 1 then if spNoSet S then (2, 0) else if (spSetR S (jn x) b).1 = 0 then (0, nI (S 10 14)) else (0, nI 4294967286 - nI ((spSetR S (jn x) b).1 - 1)) else (1, 0)
abbrev sf_setOk (S : jS) (x : Int32) (b : Nat) : Prop := inR x 0 1 ∧ ¬ spNoSet S ∧ (spSetR S (jn x) b).1 = 0
theorem TXT.eq {S S' : jS} (h : TXT S) (h12 : S' 10 12 = S 10 12) (h33 : ∀ k, S' 33 k = S 33 k) : TXT S' := ⟨by rw [h12]; exact h.1, fun k => by rw [h33]; exact h.2.1 k, fun k hk => by rw [h12] at hk; rw [h33]; exact h.2.2 k hk⟩
theorem spTo_facts {S : jS} {f : Nat} (hW : Wf S) (hf : f < 2) (hne : ¬ spBlanks S 0 = spWord S (spBlanks S 0)) : spBlanks S 0 < spTo S 0 f ∧ spTo S 0 f ≤ S 10 12 ∧ (spSplit S 0 f = 0 ∨ (spSplit S 0 f = 1 ∧ spTo S 0 f < S 10 12 ∧ ¬ S 33 (spTo S 0 f) = 32 ∧ ∀ k, spBlanks S 0 ≤ k → k < spTo S 0 f → ¬ S 33 k = 32)) := by
  have hT := hW.1.1.2.1
  have hm := hW.1.1.1.2.2.2.2.2.1
  have h1 := spBlanks_le S (k := 0) (Nat.zero_le _)
  have h2 := spWord_ge S (spBlanks S 0)
  have h3 := spWord_le S h1
  have hall : ∀ k, spBlanks S 0 ≤ k → k < spWord S (spBlanks S 0) → ¬ S 33 k = 32 := fun k q1 q2 => spWord_all S q1 q2
  unfold spTo spSplit
  rw [if_neg hne, if_neg hne]
  by_cases hw : S 10 13 < spSigns S (spBlanks S 0) (spWord S (spBlanks S 0)) f
  · rw [if_pos hw, if_pos hw]
    generalize hfr : spBlanks S 0 = fr at *
    generalize htw : spWord S fr = tw at *
    have e6 : spSigns S fr tw f ≤ 7 * (tw - fr) := sumr_le _ (fun k q1 q2 => spFw_le (by have := (hT.2.2 k (by omega)).box (hall k q1 (by omega)); omega))
    have p1 : fr + 1 ≤ spPart S fr tw f := scan_ge _ _
    have p2 : ∀ d b, b + 1 ≤ tw → scan (fun b => decide (b + 1 < tw ∧ spSigns S fr (b + 1) f + spFw (29 * f + 28) ≤ S 10 13)) d b + 1 ≤ tw := by
      intro d
      induction d with
      | zero => intro b hb; exact hb
      | succ d ih =>
        intro b hb
        unfold scan
        split
        · rename_i q
          simp only [decide_eq_true_eq] at q
          exact ih (b + 1) (by omega)
        · exact hb
    have p3 : spPart S fr tw f + 1 ≤ tw := p2 (tw - fr) (fr + 1) (by omega)
    refine ⟨by omega, by omega, Or.inr ⟨rfl, by omega, hall _ (by omega) (by omega), fun k q1 q2 => hall k q1 (by omega)⟩⟩
  · rw [if_neg hw, if_neg hw]
    have p : ∀ d w t, spBlanks S 0 < t → t ≤ S 10 12 → spBlanks S 0 < spMore S f d w t ∧ spMore S f d w t ≤ S 10 12 := by
      intro d
      induction d with
      | zero => intro w t q1 q2; exact ⟨q1, q2⟩
      | succ d ih =>
        intro w t q1 q2
        unfold spMore
        have r1 := spBlanks_ge S t
        have r2 := spBlanks_le S q2
        have r3 := spWord_ge S (spBlanks S t)
        have r4 := spWord_le S r2
        split
        · exact ih _ _ (by omega) r4
        · exact ⟨q1, q2⟩
    have p1 := p 61 (spSigns S (spBlanks S 0) (spWord S (spBlanks S 0)) f) (spWord S (spBlanks S 0)) (by omega) h3
    exact ⟨p1.1, p1.2, Or.inl rfl⟩
theorem spSgn_ok {T : jS} {t k : Nat} (hT : TXT T) (ht : t ≤ T 10 12) (hk : k ≤ t) : okc (spSgn T t k) := by
  unfold spSgn
  by_cases e : k = t
  · rw [if_pos e]; unfold okc; omega
  · rw [if_neg e]; exact hT.2.2 k (by omega)
def SetQ (M0 : jx_M) (Q : jx_O → jx_M → Prop) (S : jS) (l f t : Nat) (r : Nat × jS) : Prop := (r.1 = 0 → WS S r.2 l f (spBlanks S 0) (spEndN S f) → ∀ M', RF M0 M' (spSetEnd r.2 l f t) → Q (rI l) M') ∧ (¬ r.1 = 0 → ∀ M' S', RF M0 M' S' → S' 10 0 = 0 → SL S S' l → Q (.inl (some (.inl (nI 4294967286 - nI (r.1 - 1))))) M')
theorem WS.facts {S T : jS} {l f fr k : Nat} (hW : Wf S) (h : WS S T l f fr k) (hk : k ≤ fr + 60) : (∀ k, T 33 k = S 33 k) ∧ T 10 12 = S 10 12 ∧ FOK T ∧ POK T ∧ TXT T ∧ T 35 l ≤ 60 ∧ T 38 l ≤ 60 ∧ (∀ k, k < 58 → T 30 k ≤ T 46 k ∧ T 46 k ≤ 300) ∧ (∀ k i, k < 58 → i < T 46 k → T 29 (300 * k + i) < 300) ∧ T 35 l + T 38 l ≤ 60 := by
  obtain ⟨h1, h2, h3, h4, h5, h5b, h6⟩ := h
  have hn := hW.1.1.1
  have hn1 := h1.1.1
  refine ⟨fun k => h3 33 k (by omega), h3 10 12 (by omega), h1.1.2.2.1, ⟨fun k hk => ?_, fun k i hk hi => ?_⟩, h1.1.2.1, by omega, by omega, fun k hk => ?_, fun k i hk hi => ?_, by omega⟩
  · have := h1.2.2.cnt hk
    omega
  · have := (h1.2.2.pile hk hi).1
    omega
  · have := h5 k hk
    have := hW.1.2.2.cnt hk
    omega
  · rw [(h5 k hk).1] at hi
    have := (hW.1.2.2.pile hk hi).1
    rw [h3 29 _ (by omega)]
    omega
theorem spSt_0 {l f b t k : Nat} {T : jS} : spSt l f b t k T 10 0 = T 10 0 ∧ spSt l f b t k T 10 30 = T 10 30 := by
  unfold spSt
  split
  · unfold spStG
    split
    · exact ⟨rfl, rfl⟩
    · exact ⟨rfl, rfl⟩
  · unfold spStN
    refine ⟨?_, ?_⟩
    · rw [sw_at, if_neg (by omega), sw_at, if_neg (by omega), sw_at, if_neg (by omega), spPick_row (by omega)]
    · rw [sw_at, if_neg (by omega), sw_at, if_neg (by omega), sw_at, if_neg (by omega), spPick_row (by omega)]
set_option maxRecDepth 20000 in
set_option maxHeartbeats 20000000 in
theorem mm_set_96 (G : jx_G) {M0 : jx_M} {S : jS} {Q : jx_O → jx_M → Prop} {Wn : jx_J} (hC : Cl (cd_X10_set G) Q Wn) {f b t l en : Nat} (hW : Wf S) (hf : f < 2) (hb : b < 2) (hl : l < 12) (hle : S 10 14 = l) (ht : t ≤ S 10 12) (hen : en = t ∨ (en = t + 1 ∧ t < S 10 12))
    (ok : ∀ (M : jx_M) (T : jS) (x6 x7 x8 : Option jx_V), RF M0 M T → WS S T l f (spBlanks S 0) en → T 10 30 = t → T 10 0 = 0 → (∀ M', RF M0 M' (spSetEnd T l f t) → Q (rI l) M') → Wn 291 [some vm, some (vI f), some (vI b), some (vI l), some (vI en), some (vI en), x6, x7, x8] [] M 0 0) (hen2 : spEndN S f = en) : ∀ (d k : Nat) (M : jx_M) (T : jS) (x6 x7 x8 : Option jx_V), k + d = en → spBlanks S 0 ≤ k → RF M0 M T → WS S T l f (spBlanks S 0) k → T 10 30 = t → T 10 0 = 0 → (k = spBlanks S 0 → ¬ S 33 k = 32) → SetQ M0 Q S l f t (spSet l f b t d k T) → Wn 96 [some vm, some (vI f), some (vI b), some (vI l), some (vI en), some (vI k), x6, x7, x8] [] M 0 0 := by
  have hn := hW.1.1.1
  have hn12 := hW.1.1.2.1.1
  have hj := jNo_v
  intro d
  induction d with
  | zero =>
    intro k M T x6 x7 x8 g1 gk hM hS h30 h00 hfst hQ
    have g2 : k = en := by omega
    subst g2
    obtain ⟨p2, p3, p4, p5, p6, p7, p8, p10, p11, p15, p16, p17, p18, p19, p20, p21, p22, p23, p25, p26, p27, p32⟩ := hM.1.1
    obtain ⟨f10, f25, f26, f27, f28, f29, f30, f31, f32, f33, f34, f35, f36, f37, f38, f39, f40, f41, f42, f43, f44, f45, f46⟩ := hM.fs
    refine ev_at hC (fun pc => pc == 291 || pc == 124 || pc == 96 || pc == 117) 9 96 (ls := [some vm, some (vI f), some (vI b), some (vI l), some (vI k), some (vI k), x6, x7, x8]) ?_
    try simp only [↓cb_X10_set_0, ↓cb_X10_set_14, ↓cb_X10_set_32, ↓cb_X10_set_36, ↓cb_X10_set_37, ↓cb_X10_set_45, ↓cb_X10_set_84, ↓cb_X10_set_88, ↓cb_X10_set_96, ↓cb_X10_set_117, ↓cb_X10_set_124, ↓cb_X10_set_151, ↓cb_X10_set_152, ↓cb_X10_set_192, ↓cb_X10_set_193, ↓cb_X10_set_198, ↓cb_X10_set_239, ↓cb_X10_set_285, ↓cb_X10_set_291, ↓cb_X10_set_294, ↓cb_X10_set_329, ↓cb_X10_set_349, ↓cb_X10_set_383, ↓cb_X10_set_417, ↓cb_X10_set_418, ↓te_ald, ↓te_aload, ↓te_ast, ↓te_astC, ↓te_astZ, ↓te_bin, ↓te_call, ↓te_callV, ↓te_const, ↓te_dup, ↓te_dup2, ↓te_getI, ↓te_getP, ↓te_goto, ↓te_icmp, ↓te_if, ↓te_iinc, ↓te_iload, ↓te_iret, ↓te_istore, ↓te_putI, ↓evb_c, ↓evb_n, ↓evk_ap, ↓evm_cut, ↓evm_go, ↓evm_0, ↓jret_v, ↓jret_n, jget, jset, cond_true, cond_false, Nat.reduceBEq, jc1, List.take_succ_cons, List.take_zero, List.drop_succ_cons, List.drop_zero, List.reverse_cons, List.reverse_nil, List.nil_append, List.cons_append, List.length_cons, List.length_nil, Nat.zero_add, Nat.reduceAdd, beq_self_eq_true, true_and, and_true, Nat.reduceLeDiff, Nat.le_refl, Nat.zero_le, Bool.or_true, Bool.true_or, Bool.or_false, Bool.false_or, Bool.or_self]
    try simp (disch := omega) only [Nat.reduceEqDiff, Prod.mk.injEq, Option.some.injEq, true_and, and_true, exists_eq_left', exists_eq_right, exists_and_left, exists_const, true_or, or_true, ne_eq, not_true_eq_false, not_false_eq_true, reduceCtorEq, false_and, and_false, if_true, if_false, forall_const, true_implies, false_implies, implies_true, qI_wI, qI_wP, qP_wI, qP_wP, qN_wI, qN_wP, and_self, nI_add, pk_mul, nI_clamp, vp_in_nI, ng_1, ng_10, nI_eq32, cs_0, cs_1, cs_2, cs_3, cs_4, cs_5, cs_6, cs_7, cs_8, cs_9, cs_10, cs_11, cs_12, cs_13, cs_14, cs_15, cs_16, cs_17, cs_18, cs_19, cs_20, cs_21, cs_22, cs_23, cs_24, cs_25, cs_26, cs_27, cs_28, cs_29, cs_30, cs_31, cs_32, cs_33, cs_34, cs_35, cs_36, cs_37, cs_38, cs_39, cs_40, cs_41, cs_42, cs_43, cs_44, cs_45, cs_46, cs_47, cs_48, cs_49, cs_50, cs_51, cs_52, cs_53, cs_54, cs_55, cs_56, cs_57, cs_58, cs_59, cs_60, cs_61, cs_62, cs_63, cs_64, cs_97, cs_100, cs_122, cs_200, cs_300, cs_448, cs_1000, al_11, al_12, al_13, al_14, al_15, al_16, al_17, al_18, al_19, al_20, al_21, al_22, al_23, al_24, al_25, al_26, al_27, al_28, al_29, al_30, al_31, al_32, al_33, al_34, al_35, al_36, al_37, al_38, al_39, al_40, al_41, al_42, al_43, al_44, al_45, al_46, al_47, nI_leI]
    exact ⟨fun _ => ok _ _ _ _ _ hM hS h30 h00 (hQ.1 rfl (by rw [hen2]; exact hS)), fun q => absurd (Nat.le_refl k) q⟩
  | succ d ih =>
    intro k M T x6 x7 x8 g1 gk hM hS h30 h00 hfst hQ
    obtain ⟨t33, t12, tF, tP, tT, t35, t38, t46, t29, t98⟩ := hS.facts hW (by omega)
    have hok := spSgn_ok (k := k) tT (show t ≤ T 10 12 by omega) (by omega)
    have hu : spSet l f b t (d + 1) k T = if ¬ spSgn T t k = 32 ∧ spPickAt T (29 * f + spBox (spSgn T t k)) f b = jNo then (spBox (spSgn T t k) + 1, T) else spSet l f b t d (k + 1) (spSt l f b t k T) := rfl
    have hS1 : WS S T l f (spBlanks S 0) k := hS
    have h2 := hS.2.1
    have next : ∀ (M2 : jx_M) (T2 : jS) (x6 x7 x8 : Option jx_V), RF M0 M2 T2 → T2 = spSt l f b t k T → WS S T2 l f (spBlanks S 0) (k + 1) → spSet l f b t (d + 1) k T = spSet l f b t d (k + 1) T2 → Wn 285 [some vm, some (vI f), some (vI b), some (vI l), some (vI en), some (vI k), x6, x7, x8] [] M2 0 0 := by
      intro M2 T2 x6 x7 x8 hM2 e2 hS2 hr
      rw [hr] at hQ
      refine ev_at hC (fun pc => pc == 96) 9 285 (ls := [some vm, some (vI f), some (vI b), some (vI l), some (vI en), some (vI k), x6, x7, x8]) ?_
      try simp only [↓cb_X10_set_0, ↓cb_X10_set_14, ↓cb_X10_set_32, ↓cb_X10_set_36, ↓cb_X10_set_37, ↓cb_X10_set_45, ↓cb_X10_set_84, ↓cb_X10_set_88, ↓cb_X10_set_96, ↓cb_X10_set_117, ↓cb_X10_set_124, ↓cb_X10_set_151, ↓cb_X10_set_152, ↓cb_X10_set_192, ↓cb_X10_set_193, ↓cb_X10_set_198, ↓cb_X10_set_239, ↓cb_X10_set_285, ↓cb_X10_set_291, ↓cb_X10_set_294, ↓cb_X10_set_329, ↓cb_X10_set_349, ↓cb_X10_set_383, ↓cb_X10_set_417, ↓cb_X10_set_418, ↓te_ald, ↓te_aload, ↓te_ast, ↓te_astC, ↓te_astZ, ↓te_bin, ↓te_call, ↓te_callV, ↓te_const, ↓te_dup, ↓te_dup2, ↓te_getI, ↓te_getP, ↓te_goto, ↓te_icmp, ↓te_if, ↓te_iinc, ↓te_iload, ↓te_iret, ↓te_istore, ↓te_putI, ↓evb_c, ↓evb_n, ↓evk_ap, ↓evm_cut, ↓evm_go, ↓evm_0, ↓jret_v, ↓jret_n, jget, jset, cond_true, cond_false, Nat.reduceBEq, jc1, List.take_succ_cons, List.take_zero, List.drop_succ_cons, List.drop_zero, List.reverse_cons, List.reverse_nil, List.nil_append, List.cons_append, List.length_cons, List.length_nil, Nat.zero_add, Nat.reduceAdd, beq_self_eq_true, true_and, and_true, Nat.reduceLeDiff, Nat.le_refl, Nat.zero_le, Bool.or_true, Bool.true_or, Bool.or_false, Bool.false_or, Bool.or_self]
      try simp (disch := omega) only [Nat.reduceEqDiff, Prod.mk.injEq, Option.some.injEq, true_and, and_true, exists_eq_left', exists_eq_right, exists_and_left, exists_const, true_or, or_true, ne_eq, not_true_eq_false, not_false_eq_true, reduceCtorEq, false_and, and_false, if_true, if_false, forall_const, true_implies, false_implies, implies_true, qI_wI, qI_wP, qP_wI, qP_wP, qN_wI, qN_wP, and_self, nI_add, pk_mul, nI_clamp, vp_in_nI, ng_1, ng_10, nI_eq32, cs_0, cs_1, cs_2, cs_3, cs_4, cs_5, cs_6, cs_7, cs_8, cs_9, cs_10, cs_11, cs_12, cs_13, cs_14, cs_15, cs_16, cs_17, cs_18, cs_19, cs_20, cs_21, cs_22, cs_23, cs_24, cs_25, cs_26, cs_27, cs_28, cs_29, cs_30, cs_31, cs_32, cs_33, cs_34, cs_35, cs_36, cs_37, cs_38, cs_39, cs_40, cs_41, cs_42, cs_43, cs_44, cs_45, cs_46, cs_47, cs_48, cs_49, cs_50, cs_51, cs_52, cs_53, cs_54, cs_55, cs_56, cs_57, cs_58, cs_59, cs_60, cs_61, cs_62, cs_63, cs_64, cs_97, cs_100, cs_122, cs_200, cs_300, cs_448, cs_1000, al_11, al_12, al_13, al_14, al_15, al_16, al_17, al_18, al_19, al_20, al_21, al_22, al_23, al_24, al_25, al_26, al_27, al_28, al_29, al_30, al_31, al_32, al_33, al_34, al_35, al_36, al_37, al_38, al_39, al_40, al_41, al_42, al_43, al_44, al_45, al_46, al_47]
      refine ih (k + 1) M2 T2 _ _ _ (by omega) (by omega) hM2 hS2 ?_ ?_ (fun e => by omega) hQ
      · rw [e2, spSt_0.2]; exact h30
      · rw [e2, spSt_0.1]; exact h00
    have k198 : ∀ (c : Nat) (x7 x8 : Option jx_V), c = spSgn T t k → ¬ c = 32 → Wn 198 [some vm, some (vI f), some (vI b), some (vI l), some (vI en), some (vI k), some (vI c), x7, x8] [] M 0 0 := by
      intro c x7 x8 hc hc32
      rw [← hc] at hok hu
      have hbx := hok.box hc32
      have hcl := hok.lt
      have h97 : c = 46 ∨ c = 44 ∨ c = 45 ∨ 97 ≤ c := by unfold okc at hok; omega
      refine ev_at hC (fun pc => pc == 239 || pc == 285) 9 198 (ls := [some vm, some (vI f), some (vI b), some (vI l), some (vI en), some (vI k), some (vI c), x7, x8]) ?_
      try simp only [↓cb_X10_set_0, ↓cb_X10_set_14, ↓cb_X10_set_32, ↓cb_X10_set_36, ↓cb_X10_set_37, ↓cb_X10_set_45, ↓cb_X10_set_84, ↓cb_X10_set_88, ↓cb_X10_set_96, ↓cb_X10_set_117, ↓cb_X10_set_124, ↓cb_X10_set_151, ↓cb_X10_set_152, ↓cb_X10_set_192, ↓cb_X10_set_193, ↓cb_X10_set_198, ↓cb_X10_set_239, ↓cb_X10_set_285, ↓cb_X10_set_291, ↓cb_X10_set_294, ↓cb_X10_set_329, ↓cb_X10_set_349, ↓cb_X10_set_383, ↓cb_X10_set_417, ↓cb_X10_set_418, ↓te_ald, ↓te_aload, ↓te_ast, ↓te_astC, ↓te_astZ, ↓te_bin, ↓te_call, ↓te_callV, ↓te_const, ↓te_dup, ↓te_dup2, ↓te_getI, ↓te_getP, ↓te_goto, ↓te_icmp, ↓te_if, ↓te_iinc, ↓te_iload, ↓te_iret, ↓te_istore, ↓te_putI, ↓evb_c, ↓evb_n, ↓evk_ap, ↓evm_cut, ↓evm_go, ↓evm_0, ↓jret_v, ↓jret_n, jget, jset, cond_true, cond_false, Nat.reduceBEq, jc1, List.take_succ_cons, List.take_zero, List.drop_succ_cons, List.drop_zero, List.reverse_cons, List.reverse_nil, List.nil_append, List.cons_append, List.length_cons, List.length_nil, Nat.zero_add, Nat.reduceAdd, beq_self_eq_true, true_and, and_true, Nat.reduceLeDiff, Nat.le_refl, Nat.zero_le, Bool.or_true, Bool.true_or, Bool.or_false, Bool.false_or, Bool.or_self]
      refine mm_boxOf G (by omega) h97 ?_
      try simp only [↓cb_X10_set_0, ↓cb_X10_set_14, ↓cb_X10_set_32, ↓cb_X10_set_36, ↓cb_X10_set_37, ↓cb_X10_set_45, ↓cb_X10_set_84, ↓cb_X10_set_88, ↓cb_X10_set_96, ↓cb_X10_set_117, ↓cb_X10_set_124, ↓cb_X10_set_151, ↓cb_X10_set_152, ↓cb_X10_set_192, ↓cb_X10_set_193, ↓cb_X10_set_198, ↓cb_X10_set_239, ↓cb_X10_set_285, ↓cb_X10_set_291, ↓cb_X10_set_294, ↓cb_X10_set_329, ↓cb_X10_set_349, ↓cb_X10_set_383, ↓cb_X10_set_417, ↓cb_X10_set_418, ↓te_ald, ↓te_aload, ↓te_ast, ↓te_astC, ↓te_astZ, ↓te_bin, ↓te_call, ↓te_callV, ↓te_const, ↓te_dup, ↓te_dup2, ↓te_getI, ↓te_getP, ↓te_goto, ↓te_icmp, ↓te_if, ↓te_iinc, ↓te_iload, ↓te_iret, ↓te_istore, ↓te_putI, ↓evb_c, ↓evb_n, ↓evk_ap, ↓evm_cut, ↓evm_go, ↓evm_0, ↓jret_v, ↓jret_n, jget, jset, cond_true, cond_false, Nat.reduceBEq, jc1, List.take_succ_cons, List.take_zero, List.drop_succ_cons, List.drop_zero, List.reverse_cons, List.reverse_nil, List.nil_append, List.cons_append, List.length_cons, List.length_nil, Nat.zero_add, Nat.reduceAdd, beq_self_eq_true, true_and, and_true, Nat.reduceLeDiff, Nat.le_refl, Nat.zero_le, Bool.or_true, Bool.true_or, Bool.or_false, Bool.false_or, Bool.or_self]
      try simp (disch := omega) only [Nat.reduceEqDiff, Prod.mk.injEq, Option.some.injEq, true_and, and_true, exists_eq_left', exists_eq_right, exists_and_left, exists_const, true_or, or_true, ne_eq, not_true_eq_false, not_false_eq_true, reduceCtorEq, false_and, and_false, if_true, if_false, forall_const, true_implies, false_implies, implies_true, qI_wI, qI_wP, qP_wI, qP_wP, qN_wI, qN_wP, and_self, nI_add, pk_mul, nI_clamp, vp_in_nI, ng_1, ng_10, nI_eq32, cs_0, cs_1, cs_2, cs_3, cs_4, cs_5, cs_6, cs_7, cs_8, cs_9, cs_10, cs_11, cs_12, cs_13, cs_14, cs_15, cs_16, cs_17, cs_18, cs_19, cs_20, cs_21, cs_22, cs_23, cs_24, cs_25, cs_26, cs_27, cs_28, cs_29, cs_30, cs_31, cs_32, cs_33, cs_34, cs_35, cs_36, cs_37, cs_38, cs_39, cs_40, cs_41, cs_42, cs_43, cs_44, cs_45, cs_46, cs_47, cs_48, cs_49, cs_50, cs_51, cs_52, cs_53, cs_54, cs_55, cs_56, cs_57, cs_58, cs_59, cs_60, cs_61, cs_62, cs_63, cs_64, cs_97, cs_100, cs_122, cs_200, cs_300, cs_448, cs_1000, al_11, al_12, al_13, al_14, al_15, al_16, al_17, al_18, al_19, al_20, al_21, al_22, al_23, al_24, al_25, al_26, al_27, al_28, al_29, al_30, al_31, al_32, al_33, al_34, al_35, al_36, al_37, al_38, al_39, al_40, al_41, al_42, al_43, al_44, al_45, al_46, al_47]
      refine mm_pick G (af := 29 * f + spBox c) (font := f) (turns := b) (by omega) hf hb tP tF hM (fun M2 hM2 => ?_)
      by_cases hp : spPickAt T (29 * f + spBox c) f b = jNo
      · rw [if_pos hp]
        rw [if_pos ⟨hc32, hp⟩] at hu
        have eT : spPick T (29 * f + spBox c) f b = T := by
          unfold spPick
          have h0 : ¬ 0 < T 30 (29 * f + spBox c) := fun q => by
            have := show spPickAt T (29 * f + spBox c) f b = 29 * f + spBox c from if_pos q
            omega
          rw [if_neg h0, if_pos hp]
        rw [eT] at hM2
        try simp only [↓cb_X10_set_0, ↓cb_X10_set_14, ↓cb_X10_set_32, ↓cb_X10_set_36, ↓cb_X10_set_37, ↓cb_X10_set_45, ↓cb_X10_set_84, ↓cb_X10_set_88, ↓cb_X10_set_96, ↓cb_X10_set_117, ↓cb_X10_set_124, ↓cb_X10_set_151, ↓cb_X10_set_152, ↓cb_X10_set_192, ↓cb_X10_set_193, ↓cb_X10_set_198, ↓cb_X10_set_239, ↓cb_X10_set_285, ↓cb_X10_set_291, ↓cb_X10_set_294, ↓cb_X10_set_329, ↓cb_X10_set_349, ↓cb_X10_set_383, ↓cb_X10_set_417, ↓cb_X10_set_418, ↓te_ald, ↓te_aload, ↓te_ast, ↓te_astC, ↓te_astZ, ↓te_bin, ↓te_call, ↓te_callV, ↓te_const, ↓te_dup, ↓te_dup2, ↓te_getI, ↓te_getP, ↓te_goto, ↓te_icmp, ↓te_if, ↓te_iinc, ↓te_iload, ↓te_iret, ↓te_istore, ↓te_putI, ↓evb_c, ↓evb_n, ↓evk_ap, ↓evm_cut, ↓evm_go, ↓evm_0, ↓jret_v, ↓jret_n, jget, jset, cond_true, cond_false, Nat.reduceBEq, jc1, List.take_succ_cons, List.take_zero, List.drop_succ_cons, List.drop_zero, List.reverse_cons, List.reverse_nil, List.nil_append, List.cons_append, List.length_cons, List.length_nil, Nat.zero_add, Nat.reduceAdd, beq_self_eq_true, true_and, and_true, Nat.reduceLeDiff, Nat.le_refl, Nat.zero_le, Bool.or_true, Bool.true_or, Bool.or_false, Bool.false_or, Bool.or_self]
        try simp (disch := omega) only [Nat.reduceEqDiff, Prod.mk.injEq, Option.some.injEq, true_and, and_true, exists_eq_left', exists_eq_right, exists_and_left, exists_const, true_or, or_true, ne_eq, not_true_eq_false, not_false_eq_true, reduceCtorEq, false_and, and_false, if_true, if_false, forall_const, true_implies, false_implies, implies_true, qI_wI, qI_wP, qP_wI, qP_wP, qN_wI, qN_wP, and_self, nI_add, pk_mul, nI_clamp, vp_in_nI, ng_1, ng_10, nI_eq32, cs_0, cs_1, cs_2, cs_3, cs_4, cs_5, cs_6, cs_7, cs_8, cs_9, cs_10, cs_11, cs_12, cs_13, cs_14, cs_15, cs_16, cs_17, cs_18, cs_19, cs_20, cs_21, cs_22, cs_23, cs_24, cs_25, cs_26, cs_27, cs_28, cs_29, cs_30, cs_31, cs_32, cs_33, cs_34, cs_35, cs_36, cs_37, cs_38, cs_39, cs_40, cs_41, cs_42, cs_43, cs_44, cs_45, cs_46, cs_47, cs_48, cs_49, cs_50, cs_51, cs_52, cs_53, cs_54, cs_55, cs_56, cs_57, cs_58, cs_59, cs_60, cs_61, cs_62, cs_63, cs_64, cs_97, cs_100, cs_122, cs_200, cs_300, cs_448, cs_1000, al_11, al_12, al_13, al_14, al_15, al_16, al_17, al_18, al_19, al_20, al_21, al_22, al_23, al_24, al_25, al_26, al_27, al_28, al_29, al_30, al_31, al_32, al_33, al_34, al_35, al_36, al_37, al_38, al_39, al_40, al_41, al_42, al_43, al_44, al_45, al_46, al_47]
        refine mm_bringPilesBack G t46 t29 hM2 (fun M3 S3 hM3 hB => ?_)
        try simp only [↓cb_X10_set_0, ↓cb_X10_set_14, ↓cb_X10_set_32, ↓cb_X10_set_36, ↓cb_X10_set_37, ↓cb_X10_set_45, ↓cb_X10_set_84, ↓cb_X10_set_88, ↓cb_X10_set_96, ↓cb_X10_set_117, ↓cb_X10_set_124, ↓cb_X10_set_151, ↓cb_X10_set_152, ↓cb_X10_set_192, ↓cb_X10_set_193, ↓cb_X10_set_198, ↓cb_X10_set_239, ↓cb_X10_set_285, ↓cb_X10_set_291, ↓cb_X10_set_294, ↓cb_X10_set_329, ↓cb_X10_set_349, ↓cb_X10_set_383, ↓cb_X10_set_417, ↓cb_X10_set_418, ↓te_ald, ↓te_aload, ↓te_ast, ↓te_astC, ↓te_astZ, ↓te_bin, ↓te_call, ↓te_callV, ↓te_const, ↓te_dup, ↓te_dup2, ↓te_getI, ↓te_getP, ↓te_goto, ↓te_icmp, ↓te_if, ↓te_iinc, ↓te_iload, ↓te_iret, ↓te_istore, ↓te_putI, ↓evb_c, ↓evb_n, ↓evk_ap, ↓evm_cut, ↓evm_go, ↓evm_0, ↓jret_v, ↓jret_n, jget, jset, cond_true, cond_false, Nat.reduceBEq, jc1, List.take_succ_cons, List.take_zero, List.drop_succ_cons, List.drop_zero, List.reverse_cons, List.reverse_nil, List.nil_append, List.cons_append, List.length_cons, List.length_nil, Nat.zero_add, Nat.reduceAdd, beq_self_eq_true, true_and, and_true, Nat.reduceLeDiff, Nat.le_refl, Nat.zero_le, Bool.or_true, Bool.true_or, Bool.or_false, Bool.false_or, Bool.or_self]
        try simp (disch := omega) only [Nat.reduceEqDiff, Prod.mk.injEq, Option.some.injEq, true_and, and_true, exists_eq_left', exists_eq_right, exists_and_left, exists_const, true_or, or_true, ne_eq, not_true_eq_false, not_false_eq_true, reduceCtorEq, false_and, and_false, if_true, if_false, forall_const, true_implies, false_implies, implies_true, qI_wI, qI_wP, qP_wI, qP_wP, qN_wI, qN_wP, and_self, nI_add, pk_mul, nI_clamp, vp_in_nI, ng_1, ng_10, nI_eq32, cs_0, cs_1, cs_2, cs_3, cs_4, cs_5, cs_6, cs_7, cs_8, cs_9, cs_10, cs_11, cs_12, cs_13, cs_14, cs_15, cs_16, cs_17, cs_18, cs_19, cs_20, cs_21, cs_22, cs_23, cs_24, cs_25, cs_26, cs_27, cs_28, cs_29, cs_30, cs_31, cs_32, cs_33, cs_34, cs_35, cs_36, cs_37, cs_38, cs_39, cs_40, cs_41, cs_42, cs_43, cs_44, cs_45, cs_46, cs_47, cs_48, cs_49, cs_50, cs_51, cs_52, cs_53, cs_54, cs_55, cs_56, cs_57, cs_58, cs_59, cs_60, cs_61, cs_62, cs_63, cs_64, cs_97, cs_100, cs_122, cs_200, cs_300, cs_448, cs_1000, al_11, al_12, al_13, al_14, al_15, al_16, al_17, al_18, al_19, al_20, al_21, al_22, al_23, al_24, al_25, al_26, al_27, al_28, al_29, al_30, al_31, al_32, al_33, al_34, al_35, al_36, al_37, al_38, al_39, al_40, al_41, al_42, al_43, al_44, al_45, al_46, al_47]
        refine mm_boxOf G (by omega) h97 ?_
        try simp only [↓cb_X10_set_0, ↓cb_X10_set_14, ↓cb_X10_set_32, ↓cb_X10_set_36, ↓cb_X10_set_37, ↓cb_X10_set_45, ↓cb_X10_set_84, ↓cb_X10_set_88, ↓cb_X10_set_96, ↓cb_X10_set_117, ↓cb_X10_set_124, ↓cb_X10_set_151, ↓cb_X10_set_152, ↓cb_X10_set_192, ↓cb_X10_set_193, ↓cb_X10_set_198, ↓cb_X10_set_239, ↓cb_X10_set_285, ↓cb_X10_set_291, ↓cb_X10_set_294, ↓cb_X10_set_329, ↓cb_X10_set_349, ↓cb_X10_set_383, ↓cb_X10_set_417, ↓cb_X10_set_418, ↓te_ald, ↓te_aload, ↓te_ast, ↓te_astC, ↓te_astZ, ↓te_bin, ↓te_call, ↓te_callV, ↓te_const, ↓te_dup, ↓te_dup2, ↓te_getI, ↓te_getP, ↓te_goto, ↓te_icmp, ↓te_if, ↓te_iinc, ↓te_iload, ↓te_iret, ↓te_istore, ↓te_putI, ↓evb_c, ↓evb_n, ↓evk_ap, ↓evm_cut, ↓evm_go, ↓evm_0, ↓jret_v, ↓jret_n, jget, jset, cond_true, cond_false, Nat.reduceBEq, jc1, List.take_succ_cons, List.take_zero, List.drop_succ_cons, List.drop_zero, List.reverse_cons, List.reverse_nil, List.nil_append, List.cons_append, List.length_cons, List.length_nil, Nat.zero_add, Nat.reduceAdd, beq_self_eq_true, true_and, and_true, Nat.reduceLeDiff, Nat.le_refl, Nat.zero_le, Bool.or_true, Bool.true_or, Bool.or_false, Bool.false_or, Bool.or_self]
        try simp (disch := omega) only [Nat.reduceEqDiff, Prod.mk.injEq, Option.some.injEq, true_and, and_true, exists_eq_left', exists_eq_right, exists_and_left, exists_const, true_or, or_true, ne_eq, not_true_eq_false, not_false_eq_true, reduceCtorEq, false_and, and_false, if_true, if_false, forall_const, true_implies, false_implies, implies_true, qI_wI, qI_wP, qP_wI, qP_wP, qN_wI, qN_wP, and_self, nI_add, pk_mul, nI_clamp, vp_in_nI, ng_1, ng_10, nI_eq32, cs_0, cs_1, cs_2, cs_3, cs_4, cs_5, cs_6, cs_7, cs_8, cs_9, cs_10, cs_11, cs_12, cs_13, cs_14, cs_15, cs_16, cs_17, cs_18, cs_19, cs_20, cs_21, cs_22, cs_23, cs_24, cs_25, cs_26, cs_27, cs_28, cs_29, cs_30, cs_31, cs_32, cs_33, cs_34, cs_35, cs_36, cs_37, cs_38, cs_39, cs_40, cs_41, cs_42, cs_43, cs_44, cs_45, cs_46, cs_47, cs_48, cs_49, cs_50, cs_51, cs_52, cs_53, cs_54, cs_55, cs_56, cs_57, cs_58, cs_59, cs_60, cs_61, cs_62, cs_63, cs_64, cs_97, cs_100, cs_122, cs_200, cs_300, cs_448, cs_1000, al_11, al_12, al_13, al_14, al_15, al_16, al_17, al_18, al_19, al_20, al_21, al_22, al_23, al_24, al_25, al_26, al_27, al_28, al_29, al_30, al_31, al_32, al_33, al_34, al_35, al_36, al_37, al_38, al_39, al_40, al_41, al_42, al_43, al_44, al_45, al_46, al_47]
        rw [hu] at hQ
        have h9 := hQ.2 (show ¬ spBox c + 1 = 0 by omega) M3 S3 hM3 (by rw [hB.1 10 0 (by omega), if_neg (by omega)]; exact h00) (WS_back hW hS hB)
        rw [show spBox c + 1 - 1 = spBox c by omega] at h9
        exact h9
      · rw [if_neg hp]
        rw [if_neg (fun q => hp q.2)] at hu
        obtain ⟨g5, g6⟩ := spPickAt_ok (by omega) hf hp
        have g7 := tP.2 _ (T 30 (spPickAt T (29 * f + spBox c) f b) - 1) g5 (by omega)
        have g8 : spTop T (spPickAt T (29 * f + spBox c) f b) < 300 := g7
        have eN : spSt l f b t k T = spStN l f b c T := by unfold spSt; rw [← hc, if_neg hc32]
        have hSN := WS_N (b := b) (c := c) hS hf hbx hp hl (by omega)
        generalize hq : spTop T (spPickAt T (29 * f + spBox c) f b) = q at *
        have q35 : spPick T (29 * f + spBox c) f b 35 l = T 35 l := spPick_row (by omega)
        have eN2 : spStN l f b c T = sw (sw (sw (spPick T (29 * f + spBox c) f b) 36 (64 * l + T 35 l) q) 37 (64 * l + T 35 l) (29 * f + spBox c)) 35 l (T 35 l + 1) := by unfold spStN; rw [hq]
        try simp only [↓cb_X10_set_0, ↓cb_X10_set_14, ↓cb_X10_set_32, ↓cb_X10_set_36, ↓cb_X10_set_37, ↓cb_X10_set_45, ↓cb_X10_set_84, ↓cb_X10_set_88, ↓cb_X10_set_96, ↓cb_X10_set_117, ↓cb_X10_set_124, ↓cb_X10_set_151, ↓cb_X10_set_152, ↓cb_X10_set_192, ↓cb_X10_set_193, ↓cb_X10_set_198, ↓cb_X10_set_239, ↓cb_X10_set_285, ↓cb_X10_set_291, ↓cb_X10_set_294, ↓cb_X10_set_329, ↓cb_X10_set_349, ↓cb_X10_set_383, ↓cb_X10_set_417, ↓cb_X10_set_418, ↓te_ald, ↓te_aload, ↓te_ast, ↓te_astC, ↓te_astZ, ↓te_bin, ↓te_call, ↓te_callV, ↓te_const, ↓te_dup, ↓te_dup2, ↓te_getI, ↓te_getP, ↓te_goto, ↓te_icmp, ↓te_if, ↓te_iinc, ↓te_iload, ↓te_iret, ↓te_istore, ↓te_putI, ↓evb_c, ↓evb_n, ↓evk_ap, ↓evm_cut, ↓evm_go, ↓evm_0, ↓jret_v, ↓jret_n, jget, jset, cond_true, cond_false, Nat.reduceBEq, jc1, List.take_succ_cons, List.take_zero, List.drop_succ_cons, List.drop_zero, List.reverse_cons, List.reverse_nil, List.nil_append, List.cons_append, List.length_cons, List.length_nil, Nat.zero_add, Nat.reduceAdd, beq_self_eq_true, true_and, and_true, Nat.reduceLeDiff, Nat.le_refl, Nat.zero_le, Bool.or_true, Bool.true_or, Bool.or_false, Bool.false_or, Bool.or_self]
        try simp (disch := omega) only [Nat.reduceEqDiff, Prod.mk.injEq, Option.some.injEq, true_and, and_true, exists_eq_left', exists_eq_right, exists_and_left, exists_const, true_or, or_true, ne_eq, not_true_eq_false, not_false_eq_true, reduceCtorEq, false_and, and_false, if_true, if_false, forall_const, true_implies, false_implies, implies_true, qI_wI, qI_wP, qP_wI, qP_wP, qN_wI, qN_wP, and_self, nI_add, pk_mul, nI_clamp, vp_in_nI, ng_1, ng_10, nI_eq32, cs_0, cs_1, cs_2, cs_3, cs_4, cs_5, cs_6, cs_7, cs_8, cs_9, cs_10, cs_11, cs_12, cs_13, cs_14, cs_15, cs_16, cs_17, cs_18, cs_19, cs_20, cs_21, cs_22, cs_23, cs_24, cs_25, cs_26, cs_27, cs_28, cs_29, cs_30, cs_31, cs_32, cs_33, cs_34, cs_35, cs_36, cs_37, cs_38, cs_39, cs_40, cs_41, cs_42, cs_43, cs_44, cs_45, cs_46, cs_47, cs_48, cs_49, cs_50, cs_51, cs_52, cs_53, cs_54, cs_55, cs_56, cs_57, cs_58, cs_59, cs_60, cs_61, cs_62, cs_63, cs_64, cs_97, cs_100, cs_122, cs_200, cs_300, cs_448, cs_1000, al_11, al_12, al_13, al_14, al_15, al_16, al_17, al_18, al_19, al_20, al_21, al_22, al_23, al_24, al_25, al_26, al_27, al_28, al_29, al_30, al_31, al_32, al_33, al_34, al_35, al_36, al_37, al_38, al_39, al_40, al_41, al_42, al_43, al_44, al_45, al_46, al_47]
        have k239 : Wn 239 [some vm, some (vI f), some (vI b), some (vI l), some (vI en), some (vI k), some (vI c), some (vI (29 * f + spBox c)), some (vI q)] [] M2 0 0 := by
          have h60 : T 35 l < 60 := by have := hSN.2.1; rw [eN2, sw_at, if_pos ⟨rfl, rfl⟩] at this; omega
          obtain ⟨p2, p3, p4, p5, p6, p7, p8, p10, p11, p15, p16, p17, p18, p19, p20, p21, p22, p23, p25, p26, p27, p32⟩ := hM2.1.1
          obtain ⟨f10, f25, f26, f27, f28, f29, f30, f31, f32, f33, f34, f35, f36, f37, f38, f39, f40, f41, f42, f43, f44, f45, f46⟩ := hM2.fs
          refine ev_at hC (fun pc => pc == 285) 9 239 (ls := [some vm, some (vI f), some (vI b), some (vI l), some (vI en), some (vI k), some (vI c), some (vI (29 * f + spBox c)), some (vI q)]) ?_
          try simp only [↓cb_X10_set_0, ↓cb_X10_set_14, ↓cb_X10_set_32, ↓cb_X10_set_36, ↓cb_X10_set_37, ↓cb_X10_set_45, ↓cb_X10_set_84, ↓cb_X10_set_88, ↓cb_X10_set_96, ↓cb_X10_set_117, ↓cb_X10_set_124, ↓cb_X10_set_151, ↓cb_X10_set_152, ↓cb_X10_set_192, ↓cb_X10_set_193, ↓cb_X10_set_198, ↓cb_X10_set_239, ↓cb_X10_set_285, ↓cb_X10_set_291, ↓cb_X10_set_294, ↓cb_X10_set_329, ↓cb_X10_set_349, ↓cb_X10_set_383, ↓cb_X10_set_417, ↓cb_X10_set_418, ↓te_ald, ↓te_aload, ↓te_ast, ↓te_astC, ↓te_astZ, ↓te_bin, ↓te_call, ↓te_callV, ↓te_const, ↓te_dup, ↓te_dup2, ↓te_getI, ↓te_getP, ↓te_goto, ↓te_icmp, ↓te_if, ↓te_iinc, ↓te_iload, ↓te_iret, ↓te_istore, ↓te_putI, ↓evb_c, ↓evb_n, ↓evk_ap, ↓evm_cut, ↓evm_go, ↓evm_0, ↓jret_v, ↓jret_n, jget, jset, cond_true, cond_false, Nat.reduceBEq, jc1, List.take_succ_cons, List.take_zero, List.drop_succ_cons, List.drop_zero, List.reverse_cons, List.reverse_nil, List.nil_append, List.cons_append, List.length_cons, List.length_nil, Nat.zero_add, Nat.reduceAdd, beq_self_eq_true, true_and, and_true, Nat.reduceLeDiff, Nat.le_refl, Nat.zero_le, Bool.or_true, Bool.true_or, Bool.or_false, Bool.false_or, Bool.or_self]
          try simp (disch := omega) only [Nat.reduceEqDiff, Prod.mk.injEq, Option.some.injEq, true_and, and_true, exists_eq_left', exists_eq_right, exists_and_left, exists_const, true_or, or_true, ne_eq, not_true_eq_false, not_false_eq_true, reduceCtorEq, false_and, and_false, if_true, if_false, forall_const, true_implies, false_implies, implies_true, qI_wI, qI_wP, qP_wI, qP_wP, qN_wI, qN_wP, and_self, nI_add, pk_mul, nI_clamp, vp_in_nI, ng_1, ng_10, nI_eq32, cs_0, cs_1, cs_2, cs_3, cs_4, cs_5, cs_6, cs_7, cs_8, cs_9, cs_10, cs_11, cs_12, cs_13, cs_14, cs_15, cs_16, cs_17, cs_18, cs_19, cs_20, cs_21, cs_22, cs_23, cs_24, cs_25, cs_26, cs_27, cs_28, cs_29, cs_30, cs_31, cs_32, cs_33, cs_34, cs_35, cs_36, cs_37, cs_38, cs_39, cs_40, cs_41, cs_42, cs_43, cs_44, cs_45, cs_46, cs_47, cs_48, cs_49, cs_50, cs_51, cs_52, cs_53, cs_54, cs_55, cs_56, cs_57, cs_58, cs_59, cs_60, cs_61, cs_62, cs_63, cs_64, cs_97, cs_100, cs_122, cs_200, cs_300, cs_448, cs_1000, al_11, al_12, al_13, al_14, al_15, al_16, al_17, al_18, al_19, al_20, al_21, al_22, al_23, al_24, al_25, al_26, al_27, al_28, al_29, al_30, al_31, al_32, al_33, al_34, al_35, al_36, al_37, al_38, al_39, al_40, al_41, al_42, al_43, al_44, al_45, al_46, al_47, p2, p3, p4, p5, p6, p7, p8, p10, p11, p15, p16, p17, p18, p19, p20, p21, p22, p23, p25, p26, p27, p32, f10, f25, f26, f27, f28, f29, f30, f31, f32, f33, f34, f35, f36, f37, f38, f39, f40, f41, f42, f43, f44, f45, f46, q35]
          refine next _ (spStN l f b c T) _ _ _ ?_ eN.symm hSN (hu.trans (by rw [eN]))
          rw [eN2]
          exact RF.w (by decide) (RF.w (by decide) (RF.w (by decide) hM2))
        first
          | exact k239
          | exact ⟨fun _ => k239, fun z => absurd (by omega) z⟩
          | exact ⟨fun z => absurd z (by omega), fun _ => k239⟩
    have k124 : ∀ (c : Nat) (x6 x7 x8 : Option jx_V), c = spSgn T t k → Wn 124 [some vm, some (vI f), some (vI b), some (vI l), some (vI en), some (vI k), x6, x7, x8] [vI c] M 0 0 := by
      intro c x6 x7 x8 hc
      have hok2 := hok
      rw [← hc] at hok2
      have hcl := hok2.lt
      by_cases c32 : c = 32
      · have hkt : ¬ k = t := fun e => by
          unfold spSgn at hc
          rw [if_pos e] at hc
          omega
        have hk33 : S 33 k = 32 := by
          unfold spSgn at hc
          rw [if_neg hkt, t33] at hc
          omega
        have hk1 : 1 ≤ k := by
          by_cases e : k = spBlanks S 0
          · exact absurd hk33 (hfst e)
          · omega
        have h31 := tT.2.1 (k - 1)
        have eG : spSt l f b t k T = spStG l k T := by unfold spSt; rw [← hc, if_pos c32]
        have hSG := WS_G hS hl (by omega)
        rw [← hc, if_neg (fun q => q.1 c32)] at hu
        have h60 : T 38 l < 60 := by omega
        have k152 : ∀ (v : Nat) (x7 : Option jx_V), v = jb (¬ T 33 (k - 1) = 32) → Wn 152 [some vm, some (vI f), some (vI b), some (vI l), some (vI en), some (vI k), some (vI c), x7, x8] [vI v] M 0 0 := by
          intro v x7 hv
          obtain ⟨p2, p3, p4, p5, p6, p7, p8, p10, p11, p15, p16, p17, p18, p19, p20, p21, p22, p23, p25, p26, p27, p32⟩ := hM.1.1
          obtain ⟨f10, f25, f26, f27, f28, f29, f30, f31, f32, f33, f34, f35, f36, f37, f38, f39, f40, f41, f42, f43, f44, f45, f46⟩ := hM.fs
          refine ev_at hC (fun pc => pc == 285) 9 152 (ls := [some vm, some (vI f), some (vI b), some (vI l), some (vI en), some (vI k), some (vI c), x7, x8]) ?_
          try simp only [↓cb_X10_set_0, ↓cb_X10_set_14, ↓cb_X10_set_32, ↓cb_X10_set_36, ↓cb_X10_set_37, ↓cb_X10_set_45, ↓cb_X10_set_84, ↓cb_X10_set_88, ↓cb_X10_set_96, ↓cb_X10_set_117, ↓cb_X10_set_124, ↓cb_X10_set_151, ↓cb_X10_set_152, ↓cb_X10_set_192, ↓cb_X10_set_193, ↓cb_X10_set_198, ↓cb_X10_set_239, ↓cb_X10_set_285, ↓cb_X10_set_291, ↓cb_X10_set_294, ↓cb_X10_set_329, ↓cb_X10_set_349, ↓cb_X10_set_383, ↓cb_X10_set_417, ↓cb_X10_set_418, ↓te_ald, ↓te_aload, ↓te_ast, ↓te_astC, ↓te_astZ, ↓te_bin, ↓te_call, ↓te_callV, ↓te_const, ↓te_dup, ↓te_dup2, ↓te_getI, ↓te_getP, ↓te_goto, ↓te_icmp, ↓te_if, ↓te_iinc, ↓te_iload, ↓te_iret, ↓te_istore, ↓te_putI, ↓evb_c, ↓evb_n, ↓evk_ap, ↓evm_cut, ↓evm_go, ↓evm_0, ↓jret_v, ↓jret_n, jget, jset, cond_true, cond_false, Nat.reduceBEq, jc1, List.take_succ_cons, List.take_zero, List.drop_succ_cons, List.drop_zero, List.reverse_cons, List.reverse_nil, List.nil_append, List.cons_append, List.length_cons, List.length_nil, Nat.zero_add, Nat.reduceAdd, beq_self_eq_true, true_and, and_true, Nat.reduceLeDiff, Nat.le_refl, Nat.zero_le, Bool.or_true, Bool.true_or, Bool.or_false, Bool.false_or, Bool.or_self]
          by_cases e33 : T 33 (k - 1) = 32
          · rw [jb_f (fun q => q e33)] at hv
            subst hv
            try simp (disch := omega) only [Nat.reduceEqDiff, Prod.mk.injEq, Option.some.injEq, true_and, and_true, exists_eq_left', exists_eq_right, exists_and_left, exists_const, true_or, or_true, ne_eq, not_true_eq_false, not_false_eq_true, reduceCtorEq, false_and, and_false, if_true, if_false, forall_const, true_implies, false_implies, implies_true, qI_wI, qI_wP, qP_wI, qP_wP, qN_wI, qN_wP, and_self, nI_add, pk_mul, nI_clamp, vp_in_nI, ng_1, ng_10, nI_eq32, cs_0, cs_1, cs_2, cs_3, cs_4, cs_5, cs_6, cs_7, cs_8, cs_9, cs_10, cs_11, cs_12, cs_13, cs_14, cs_15, cs_16, cs_17, cs_18, cs_19, cs_20, cs_21, cs_22, cs_23, cs_24, cs_25, cs_26, cs_27, cs_28, cs_29, cs_30, cs_31, cs_32, cs_33, cs_34, cs_35, cs_36, cs_37, cs_38, cs_39, cs_40, cs_41, cs_42, cs_43, cs_44, cs_45, cs_46, cs_47, cs_48, cs_49, cs_50, cs_51, cs_52, cs_53, cs_54, cs_55, cs_56, cs_57, cs_58, cs_59, cs_60, cs_61, cs_62, cs_63, cs_64, cs_97, cs_100, cs_122, cs_200, cs_300, cs_448, cs_1000, al_11, al_12, al_13, al_14, al_15, al_16, al_17, al_18, al_19, al_20, al_21, al_22, al_23, al_24, al_25, al_26, al_27, al_28, al_29, al_30, al_31, al_32, al_33, al_34, al_35, al_36, al_37, al_38, al_39, al_40, al_41, al_42, al_43, al_44, al_45, al_46, al_47, p2, p3, p4, p5, p6, p7, p8, p10, p11, p15, p16, p17, p18, p19, p20, p21, p22, p23, p25, p26, p27, p32, f10, f25, f26, f27, f28, f29, f30, f31, f32, f33, f34, f35, f36, f37, f38, f39, f40, f41, f42, f43, f44, f45, f46]
            refine next _ (spStG l k T) _ _ _ ?_ eG.symm hSG (hu.trans (by rw [eG]))
            unfold spStG
            rw [if_pos e33]
            exact (RF.w (r := 38) (k := l) (v := T 38 l) (by decide) (RF.w (r := 39) (k := 64 * l + T 38 l) (v := T 35 l) (by decide) hM)).eq (fun x y => congrFun (congrFun (sw_id (T := sw T 39 (64 * l + T 38 l) (T 35 l)) (a := 38) (b := l) (v := T 38 l) rfl).symm x) y)
          · rw [jb_t e33] at hv
            subst hv
            try simp (disch := omega) only [Nat.reduceEqDiff, Prod.mk.injEq, Option.some.injEq, true_and, and_true, exists_eq_left', exists_eq_right, exists_and_left, exists_const, true_or, or_true, ne_eq, not_true_eq_false, not_false_eq_true, reduceCtorEq, false_and, and_false, if_true, if_false, forall_const, true_implies, false_implies, implies_true, qI_wI, qI_wP, qP_wI, qP_wP, qN_wI, qN_wP, and_self, nI_add, pk_mul, nI_clamp, vp_in_nI, ng_1, ng_10, nI_eq32, cs_0, cs_1, cs_2, cs_3, cs_4, cs_5, cs_6, cs_7, cs_8, cs_9, cs_10, cs_11, cs_12, cs_13, cs_14, cs_15, cs_16, cs_17, cs_18, cs_19, cs_20, cs_21, cs_22, cs_23, cs_24, cs_25, cs_26, cs_27, cs_28, cs_29, cs_30, cs_31, cs_32, cs_33, cs_34, cs_35, cs_36, cs_37, cs_38, cs_39, cs_40, cs_41, cs_42, cs_43, cs_44, cs_45, cs_46, cs_47, cs_48, cs_49, cs_50, cs_51, cs_52, cs_53, cs_54, cs_55, cs_56, cs_57, cs_58, cs_59, cs_60, cs_61, cs_62, cs_63, cs_64, cs_97, cs_100, cs_122, cs_200, cs_300, cs_448, cs_1000, al_11, al_12, al_13, al_14, al_15, al_16, al_17, al_18, al_19, al_20, al_21, al_22, al_23, al_24, al_25, al_26, al_27, al_28, al_29, al_30, al_31, al_32, al_33, al_34, al_35, al_36, al_37, al_38, al_39, al_40, al_41, al_42, al_43, al_44, al_45, al_46, al_47, p2, p3, p4, p5, p6, p7, p8, p10, p11, p15, p16, p17, p18, p19, p20, p21, p22, p23, p25, p26, p27, p32, f10, f25, f26, f27, f28, f29, f30, f31, f32, f33, f34, f35, f36, f37, f38, f39, f40, f41, f42, f43, f44, f45, f46]
            refine next _ (spStG l k T) _ _ _ ?_ eG.symm hSG (hu.trans (by rw [eG]))
            unfold spStG
            rw [if_neg e33]
            exact RF.w (by decide) (RF.w (by decide) hM)
        obtain ⟨p2, p3, p4, p5, p6, p7, p8, p10, p11, p15, p16, p17, p18, p19, p20, p21, p22, p23, p25, p26, p27, p32⟩ := hM.1.1
        obtain ⟨f10, f25, f26, f27, f28, f29, f30, f31, f32, f33, f34, f35, f36, f37, f38, f39, f40, f41, f42, f43, f44, f45, f46⟩ := hM.fs
        refine ev_at hC (fun pc => pc == 152 || pc == 198 || pc == 285) 9 124 (ls := [some vm, some (vI f), some (vI b), some (vI l), some (vI en), some (vI k), x6, x7, x8]) ?_
        try simp only [↓cb_X10_set_0, ↓cb_X10_set_14, ↓cb_X10_set_32, ↓cb_X10_set_36, ↓cb_X10_set_37, ↓cb_X10_set_45, ↓cb_X10_set_84, ↓cb_X10_set_88, ↓cb_X10_set_96, ↓cb_X10_set_117, ↓cb_X10_set_124, ↓cb_X10_set_151, ↓cb_X10_set_152, ↓cb_X10_set_192, ↓cb_X10_set_193, ↓cb_X10_set_198, ↓cb_X10_set_239, ↓cb_X10_set_285, ↓cb_X10_set_291, ↓cb_X10_set_294, ↓cb_X10_set_329, ↓cb_X10_set_349, ↓cb_X10_set_383, ↓cb_X10_set_417, ↓cb_X10_set_418, ↓te_ald, ↓te_aload, ↓te_ast, ↓te_astC, ↓te_astZ, ↓te_bin, ↓te_call, ↓te_callV, ↓te_const, ↓te_dup, ↓te_dup2, ↓te_getI, ↓te_getP, ↓te_goto, ↓te_icmp, ↓te_if, ↓te_iinc, ↓te_iload, ↓te_iret, ↓te_istore, ↓te_putI, ↓evb_c, ↓evb_n, ↓evk_ap, ↓evm_cut, ↓evm_go, ↓evm_0, ↓jret_v, ↓jret_n, jget, jset, cond_true, cond_false, Nat.reduceBEq, jc1, List.take_succ_cons, List.take_zero, List.drop_succ_cons, List.drop_zero, List.reverse_cons, List.reverse_nil, List.nil_append, List.cons_append, List.length_cons, List.length_nil, Nat.zero_add, Nat.reduceAdd, beq_self_eq_true, true_and, and_true, Nat.reduceLeDiff, Nat.le_refl, Nat.zero_le, Bool.or_true, Bool.true_or, Bool.or_false, Bool.false_or, Bool.or_self]
        try simp (disch := omega) only [Nat.reduceEqDiff, Prod.mk.injEq, Option.some.injEq, true_and, and_true, exists_eq_left', exists_eq_right, exists_and_left, exists_const, true_or, or_true, ne_eq, not_true_eq_false, not_false_eq_true, reduceCtorEq, false_and, and_false, if_true, if_false, forall_const, true_implies, false_implies, implies_true, qI_wI, qI_wP, qP_wI, qP_wP, qN_wI, qN_wP, and_self, nI_add, pk_mul, nI_clamp, vp_in_nI, ng_1, ng_10, nI_eq32, cs_0, cs_1, cs_2, cs_3, cs_4, cs_5, cs_6, cs_7, cs_8, cs_9, cs_10, cs_11, cs_12, cs_13, cs_14, cs_15, cs_16, cs_17, cs_18, cs_19, cs_20, cs_21, cs_22, cs_23, cs_24, cs_25, cs_26, cs_27, cs_28, cs_29, cs_30, cs_31, cs_32, cs_33, cs_34, cs_35, cs_36, cs_37, cs_38, cs_39, cs_40, cs_41, cs_42, cs_43, cs_44, cs_45, cs_46, cs_47, cs_48, cs_49, cs_50, cs_51, cs_52, cs_53, cs_54, cs_55, cs_56, cs_57, cs_58, cs_59, cs_60, cs_61, cs_62, cs_63, cs_64, cs_97, cs_100, cs_122, cs_200, cs_300, cs_448, cs_1000, al_11, al_12, al_13, al_14, al_15, al_16, al_17, al_18, al_19, al_20, al_21, al_22, al_23, al_24, al_25, al_26, al_27, al_28, al_29, al_30, al_31, al_32, al_33, al_34, al_35, al_36, al_37, al_38, al_39, al_40, al_41, al_42, al_43, al_44, al_45, al_46, al_47, p2, p3, p4, p5, p6, p7, p8, p10, p11, p15, p16, p17, p18, p19, p20, p21, p22, p23, p25, p26, p27, p32, f10, f25, f26, f27, f28, f29, f30, f31, f32, f33, f34, f35, f36, f37, f38, f39, f40, f41, f42, f43, f44, f45, f46, pk_sub]
        have y152 := fun h => k152 1 x7 (jb_t h).symm
        have n152 := fun h => k152 0 x7 (jb_f h).symm
        first
          | exact ⟨fun z => absurd c32 z, fun _ => ⟨fun z => n152 (fun q => q z), fun z => y152 z⟩⟩
          | exact ⟨fun z => absurd c32 z, fun _ => ⟨fun z => n152 (fun q => q (Classical.not_not.mp z)), fun z => y152 z⟩⟩
          | exact ⟨fun z => n152 (fun q => q z), fun z => y152 z⟩
      · refine ev_at hC (fun pc => pc == 198 || pc == 152 || pc == 285) 9 124 (ls := [some vm, some (vI f), some (vI b), some (vI l), some (vI en), some (vI k), x6, x7, x8]) ?_
        obtain ⟨p2, p3, p4, p5, p6, p7, p8, p10, p11, p15, p16, p17, p18, p19, p20, p21, p22, p23, p25, p26, p27, p32⟩ := hM.1.1
        obtain ⟨f10, f25, f26, f27, f28, f29, f30, f31, f32, f33, f34, f35, f36, f37, f38, f39, f40, f41, f42, f43, f44, f45, f46⟩ := hM.fs
        have h31 := tT.2.1 (k - 1)
        try simp only [↓cb_X10_set_0, ↓cb_X10_set_14, ↓cb_X10_set_32, ↓cb_X10_set_36, ↓cb_X10_set_37, ↓cb_X10_set_45, ↓cb_X10_set_84, ↓cb_X10_set_88, ↓cb_X10_set_96, ↓cb_X10_set_117, ↓cb_X10_set_124, ↓cb_X10_set_151, ↓cb_X10_set_152, ↓cb_X10_set_192, ↓cb_X10_set_193, ↓cb_X10_set_198, ↓cb_X10_set_239, ↓cb_X10_set_285, ↓cb_X10_set_291, ↓cb_X10_set_294, ↓cb_X10_set_329, ↓cb_X10_set_349, ↓cb_X10_set_383, ↓cb_X10_set_417, ↓cb_X10_set_418, ↓te_ald, ↓te_aload, ↓te_ast, ↓te_astC, ↓te_astZ, ↓te_bin, ↓te_call, ↓te_callV, ↓te_const, ↓te_dup, ↓te_dup2, ↓te_getI, ↓te_getP, ↓te_goto, ↓te_icmp, ↓te_if, ↓te_iinc, ↓te_iload, ↓te_iret, ↓te_istore, ↓te_putI, ↓evb_c, ↓evb_n, ↓evk_ap, ↓evm_cut, ↓evm_go, ↓evm_0, ↓jret_v, ↓jret_n, jget, jset, cond_true, cond_false, Nat.reduceBEq, jc1, List.take_succ_cons, List.take_zero, List.drop_succ_cons, List.drop_zero, List.reverse_cons, List.reverse_nil, List.nil_append, List.cons_append, List.length_cons, List.length_nil, Nat.zero_add, Nat.reduceAdd, beq_self_eq_true, true_and, and_true, Nat.reduceLeDiff, Nat.le_refl, Nat.zero_le, Bool.or_true, Bool.true_or, Bool.or_false, Bool.false_or, Bool.or_self]
        refine ⟨fun _ => k198 c _ _ hc c32, fun z => ?_⟩
        exfalso
        apply z
        intro z2
        exact c32 ((nI_eq32 (by omega) (by omega)).mp z2)
    have h33k := tT.2.1 k
    obtain ⟨p2, p3, p4, p5, p6, p7, p8, p10, p11, p15, p16, p17, p18, p19, p20, p21, p22, p23, p25, p26, p27, p32⟩ := hM.1.1
    obtain ⟨f10, f25, f26, f27, f28, f29, f30, f31, f32, f33, f34, f35, f36, f37, f38, f39, f40, f41, f42, f43, f44, f45, f46⟩ := hM.fs
    refine ev_at hC (fun pc => pc == 291 || pc == 124 || pc == 96) 9 96 (ls := [some vm, some (vI f), some (vI b), some (vI l), some (vI en), some (vI k), x6, x7, x8]) ?_
    try simp only [↓cb_X10_set_0, ↓cb_X10_set_14, ↓cb_X10_set_32, ↓cb_X10_set_36, ↓cb_X10_set_37, ↓cb_X10_set_45, ↓cb_X10_set_84, ↓cb_X10_set_88, ↓cb_X10_set_96, ↓cb_X10_set_117, ↓cb_X10_set_124, ↓cb_X10_set_151, ↓cb_X10_set_152, ↓cb_X10_set_192, ↓cb_X10_set_193, ↓cb_X10_set_198, ↓cb_X10_set_239, ↓cb_X10_set_285, ↓cb_X10_set_291, ↓cb_X10_set_294, ↓cb_X10_set_329, ↓cb_X10_set_349, ↓cb_X10_set_383, ↓cb_X10_set_417, ↓cb_X10_set_418, ↓te_ald, ↓te_aload, ↓te_ast, ↓te_astC, ↓te_astZ, ↓te_bin, ↓te_call, ↓te_callV, ↓te_const, ↓te_dup, ↓te_dup2, ↓te_getI, ↓te_getP, ↓te_goto, ↓te_icmp, ↓te_if, ↓te_iinc, ↓te_iload, ↓te_iret, ↓te_istore, ↓te_putI, ↓evb_c, ↓evb_n, ↓evk_ap, ↓evm_cut, ↓evm_go, ↓evm_0, ↓jret_v, ↓jret_n, jget, jset, cond_true, cond_false, Nat.reduceBEq, jc1, List.take_succ_cons, List.take_zero, List.drop_succ_cons, List.drop_zero, List.reverse_cons, List.reverse_nil, List.nil_append, List.cons_append, List.length_cons, List.length_nil, Nat.zero_add, Nat.reduceAdd, beq_self_eq_true, true_and, and_true, Nat.reduceLeDiff, Nat.le_refl, Nat.zero_le, Bool.or_true, Bool.true_or, Bool.or_false, Bool.false_or, Bool.or_self]
    try simp (disch := omega) only [Nat.reduceEqDiff, Prod.mk.injEq, Option.some.injEq, true_and, and_true, exists_eq_left', exists_eq_right, exists_and_left, exists_const, true_or, or_true, ne_eq, not_true_eq_false, not_false_eq_true, reduceCtorEq, false_and, and_false, if_true, if_false, forall_const, true_implies, false_implies, implies_true, qI_wI, qI_wP, qP_wI, qP_wP, qN_wI, qN_wP, and_self, nI_add, pk_mul, nI_clamp, vp_in_nI, ng_1, ng_10, nI_eq32, cs_0, cs_1, cs_2, cs_3, cs_4, cs_5, cs_6, cs_7, cs_8, cs_9, cs_10, cs_11, cs_12, cs_13, cs_14, cs_15, cs_16, cs_17, cs_18, cs_19, cs_20, cs_21, cs_22, cs_23, cs_24, cs_25, cs_26, cs_27, cs_28, cs_29, cs_30, cs_31, cs_32, cs_33, cs_34, cs_35, cs_36, cs_37, cs_38, cs_39, cs_40, cs_41, cs_42, cs_43, cs_44, cs_45, cs_46, cs_47, cs_48, cs_49, cs_50, cs_51, cs_52, cs_53, cs_54, cs_55, cs_56, cs_57, cs_58, cs_59, cs_60, cs_61, cs_62, cs_63, cs_64, cs_97, cs_100, cs_122, cs_200, cs_300, cs_448, cs_1000, al_11, al_12, al_13, al_14, al_15, al_16, al_17, al_18, al_19, al_20, al_21, al_22, al_23, al_24, al_25, al_26, al_27, al_28, al_29, al_30, al_31, al_32, al_33, al_34, al_35, al_36, al_37, al_38, al_39, al_40, al_41, al_42, al_43, al_44, al_45, al_46, al_47, p2, p3, p4, p5, p6, p7, p8, p10, p11, p15, p16, p17, p18, p19, p20, p21, p22, p23, p25, p26, p27, p32, f10, f25, f26, f27, f28, f29, f30, f31, f32, f33, f34, f35, f36, f37, f38, f39, f40, f41, f42, f43, f44, f45, f46, h30, nI_leI]
    have e1 : ¬ k = t → T 33 k = spSgn T t k := fun q => by unfold spSgn; rw [if_neg q]
    have e2 : k = t → 45 = spSgn T t k := fun q => by unfold spSgn; rw [if_pos q]
    refine ⟨fun q => absurd q (by omega), fun _ => ⟨fun q => ?_, fun q => ?_⟩⟩
    · first
        | exact k124 _ _ _ _ (e1 q)
        | exact ⟨vp_in_nI (by omega) (by omega), k124 _ _ _ _ (e1 q)⟩
    · exact k124 45 _ _ _ (e2 (by first | exact q | exact Classical.not_not.mp q))
theorem spMarks_41 {l n : Nat} {S : jS} {a b : Nat} (h : ¬ a = 27) : spMarks l n S a b = S a b := spMarks_row h n
theorem spEndA_row {T : jS} {l f a b : Nat} (h : ¬ (a = 27 ∨ (a = 34 ∧ b = l) ∨ (a = 42 ∧ b = l))) : spEndA T l f a b = T a b := by
  unfold spEndA
  rw [sw_at, if_neg (by omega), sw_at, if_neg (by omega), spMarks_row (by omega)]
theorem spEndB_row {T : jS} {l f t a b : Nat} (h : ¬ (a = 27 ∨ a = 33 ∨ (a = 10 ∧ b = 12) ∨ (a = 34 ∧ b = l) ∨ (a = 42 ∧ b = l))) : spEndB T l f t a b = T a b := by
  unfold spEndB spCutT spCutK
  rw [sw_at, if_neg (by omega), if_neg (by omega), spEndA_row (by omega)]
theorem spEndB_12 {T : jS} {l f t : Nat} : spEndB T l f t 10 12 = T 10 12 - t := by
  unfold spEndB spCutT
  rw [sw_at, if_pos ⟨rfl, rfl⟩, spEndA_row (by omega)]
theorem spEndB_33 {T : jS} {l f t k : Nat} : spEndB T l f t 33 k = if k + t < T 10 12 then T 33 (k + t) else T 33 k := by
  unfold spEndB spCutT spCutK
  rw [sw_at, if_neg (by omega), spEndA_row (a := 10) (b := 12) (by omega), spEndA_row (a := 33) (by omega), spEndA_row (a := 33) (by omega)]
  by_cases e : k + t < T 10 12
  · rw [if_pos ⟨rfl, e⟩, if_pos e]
  · rw [if_neg (fun q => e q.2), if_neg e]
theorem spEndC_row {T : jS} {l f t a b : Nat} (h : ¬ (a = 27 ∨ a = 33 ∨ (a = 10 ∧ (b = 12 ∨ b = 14)) ∨ (a = 34 ∧ b = l) ∨ (a = 42 ∧ b = l) ∨ (a = 41 ∧ b = l))) : spEndC T l f t a b = T a b := by
  unfold spEndC
  rw [sw_at, if_neg (by omega), sw_at, if_neg (by omega), spEndB_row (by omega)]
theorem TXT_end {T : jS} {l f t : Nat} (hT : TXT T) : TXT (spEndB T l f t) := by
  obtain ⟨h1, h2, h3⟩ := hT
  refine ⟨by rw [spEndB_12]; omega, fun k => ?_, fun k hk => ?_⟩
  · rw [spEndB_33]
    split
    · exact h2 _
    · exact h2 _
  · rw [spEndB_12] at hk
    rw [spEndB_33, if_pos (by omega)]
    exact h3 _ (by omega)
/-- a line set: all is as it must be -/
theorem Wf_endC {S T : jS} {l f fr k t : Nat} (hW : Wf S) (h : WS S T l f fr k) (hk : k ≤ fr + 60) (hl : S 10 14 = l) (hl2 : l < 12) (hf : f < 2) : Wf (spZero (spEndC T l f t) l (448 * l + 7 * T 38 l + 7)) := by
  obtain ⟨t33, t12, tF, tP, tT, t35, t38, t46, t29, t98⟩ := h.facts hW hk
  obtain ⟨h1, h2, h3, h4, h5, h5b, h6⟩ := h
  have er : ∀ a b, ¬ (a = 27 ∨ a = 33 ∨ (a = 10 ∧ (b = 12 ∨ b = 14)) ∨ (a = 34 ∧ b = l) ∨ (a = 42 ∧ b = l) ∨ (a = 41 ∧ b = l)) → spEndC T l f t a b = T a b := fun a b hab => spEndC_row hab
  have e14 : spEndC T l f t 10 14 = l + 1 := by unfold spEndC; rw [sw_at, if_pos ⟨rfl, rfl⟩]
  have e27 : ∀ s, spEndC T l f t 27 s = spMarks l (T 35 l) T 27 s := fun s => by
    unfold spEndC spEndB spCutT spCutK spEndA
    rw [sw_at, if_neg (by omega), sw_at, if_neg (by omega), sw_at, if_neg (by omega), if_neg (by omega), sw_at, if_neg (by omega), sw_at, if_neg (by omega)]
  have e42 : ∀ j, spEndC T l f t 42 j = if j = l then jNo else S 42 j := fun j => by
    by_cases e : j = l
    · rw [if_pos e, e]
      unfold spEndC spEndB spCutT spCutK spEndA
      rw [sw_at, if_neg (by omega), sw_at, if_neg (by omega), sw_at, if_neg (by omega), if_neg (by omega), sw_at, if_pos ⟨rfl, rfl⟩]
    · rw [if_neg e, er 42 j (by omega), h3 42 j (by omega)]
  have e34 : spEndC T l f t 34 l = f := by
    unfold spEndC spEndB spCutT spCutK spEndA
    rw [sw_at, if_neg (by omega), sw_at, if_neg (by omega), sw_at, if_neg (by omega), if_neg (by omega), sw_at, if_neg (by omega), sw_at, if_pos ⟨rfl, rfl⟩]
  have hfl : ∀ j, j < T 35 l → 0 < lws S (ind (T 36 (64 * l + j))) l + lw T (ind (T 36 (64 * l + j))) l (T 35 l) := fun j hj => by
    have q := sumr_ge (f := fun k => ind (T 36 (64 * l + j)) (T 36 (64 * l + k))) hj
    simp only [ind_self] at q
    have q2 : lw T (ind (T 36 (64 * l + j))) l (T 35 l) = sumr (fun k => ind (T 36 (64 * l + j)) (T 36 (64 * l + k))) 0 (T 35 l) := rfl
    omega
  have hm : ∀ n, n ≤ T 35 l → WC (spMarks l n T) (fun w => lws S w l + lw T w l (T 35 l)) := by
    intro n
    induction n with
    | zero => intro _; exact h1
    | succ n ih =>
      intro hn
      unfold spMarks
      exact (ih (by omega)).mark (hfl n (by omega)) (by omega)
  have hA := hm (T 35 l) (Nat.le_refl _)
  have hB := TXT_end (l := l) (f := f) (t := t) tT
  have hl3 : ∀ j, j < l → S 35 j + S 38 j ≤ 60 := fun j hj => (hW.2.2.1 j (by omega)).1
  have hg : Rg (spEndC T l f t) := by
    obtain ⟨⟨a1, a2, a3, a4, a5, a6, a7⟩, b1, c, d, e, g, i, j, m⟩ := h1.1
    refine ⟨⟨by rw [er 10 1 (by omega)]; exact a1, by rw [e14]; omega, by rw [er 10 24 (by omega)]; exact a3, by rw [er 10 28 (by omega)]; exact a4, by rw [er 10 13 (by omega)]; exact a5, by rw [er 10 13 (by omega)]; exact a6, by rw [er 32 5 (by omega)]; exact a7⟩, hB.eq ?_ (fun k => ?_), fun s => by rw [er 25 s (by omega)]; exact c s, fun s => by rw [e27]; exact hA.1.2.2.2.1 s, fun s => by rw [er 28 s (by omega)]; exact e s, fun s => ?_, fun s => by rw [er 45 s (by omega)]; exact i s, fun s => by rw [er 43 s (by omega)]; exact j s, fun s hs => ?_⟩
    · unfold spEndC
      rw [sw_at, if_neg (by omega), sw_at, if_neg (by omega)]
    · unfold spEndC
      rw [sw_at, if_neg (by omega), sw_at, if_neg (by omega)]
    · by_cases q : s = l
      · unfold spEndC
        rw [sw_at, if_neg (by omega), q, sw_at, if_pos ⟨rfl, rfl⟩]
        unfold jb
        split <;> omega
      · rw [er 41 s (by omega)]; exact g s
    · rw [er 10 24 (by omega)] at hs
      rw [er 43 s (by omega)]
      exact m s hs
  have ez : ∀ a b, ¬ a = 40 → spZero (spEndC T l f t) l (448 * l + 7 * T 38 l + 7) a b = spEndC T l f t a b := fun a b hab => by unfold spZero; rw [if_neg (by omega)]
  have ez40 : ∀ b, spZero (spEndC T l f t) l (448 * l + 7 * T 38 l + 7) 40 b = if 448 * l ≤ b ∧ b < 448 * l + 7 * T 38 l + 7 then 0 else T 40 b := fun b => by
    unfold spZero
    by_cases e : 448 * l ≤ b ∧ b < 448 * l + 7 * T 38 l + 7
    · rw [if_pos ⟨rfl, e⟩, if_pos e]
    · rw [if_neg (fun q => e q.2), if_neg e, er 40 b (by omega)]
  have hgE := hg.rows (S' := spZero (spEndC T l f t) l (448 * l + 7 * T 38 l + 7)) (fun b _ => ez 10 b (by omega)) (ez 32 5 (by omega)) (fun a b hab => ez a b (by omega)) (fun s => by rw [ez 27 s (by omega)]; exact hg.2.2.2.1 s) (fun s => by rw [ez 28 s (by omega)]; exact hg.2.2.2.2.1 s)
  have er := fun a b (hab : ¬ (a = 27 ∨ a = 33 ∨ (a = 10 ∧ (b = 12 ∨ b = 14)) ∨ (a = 34 ∧ b = l) ∨ (a = 42 ∧ b = l) ∨ (a = 41 ∧ b = l) ∨ a = 40)) => (ez a b (by omega)).trans (er a b (by omega))
  have e14 := (ez 10 14 (by omega)).trans e14
  have e27 := fun s => (ez 27 s (by omega)).trans (e27 s)
  have e42 := fun s => (ez 42 s (by omega)).trans (e42 s)
  have e34 := (ez 34 l (by omega)).trans e34
  generalize hE : spZero (spEndC T l f t) l (448 * l + 7 * T 38 l + 7) = E at *
  refine ⟨?_, fun j i hj hi => ?_, fun j hj => ?_, fun a b c q1 q2 q3 q4 q5 => ?_⟩
  · refine (hA.same hgE (fun a b hab => ?_)).toR (fun w => ?_)
    · by_cases q : a = 27
      · rw [q]; exact e27 b
      · rw [er a b (by omega), spMarks_row q]
    · rw [e14]
      unfold lws
      rw [sumr_s, er 35 l (by omega)]
      have z1 : sumr (fun j => lw (E) w j (E 35 j)) 0 l = sumr (fun j => lw S w j (S 35 j)) 0 l := sumr_eq _ (fun j hj => by
        rw [er 35 j (by omega), h3 35 j (by omega)]
        have := hl3 j hj
        exact sumr_eq _ (fun i hi => by rw [er 36 _ (by omega), h3 36 _ (by omega)]))
      have z2 : lw (E) w l (T 35 l) = lw T w l (T 35 l) := sumr_eq _ (fun i hi => by rw [er 36 _ (by omega)])
      rw [z1, z2]
  · rw [e14] at hj
    rw [er 35 j (by omega)] at hi
    rw [e27]
    by_cases e : j = l
    · subst e
      rw [er 36 _ (by omega)]
      rcases spMarks_27 (l := j) (S := T) (s := T 36 (64 * j + i)) (T 35 j) with q | q
      · exact q.1
      · exact absurd rfl (q.2 i hi)
    · have hj2 : j < l := by omega
      rw [h3 35 j (by omega)] at hi
      have := hl3 j hj2
      rw [er 36 _ (by omega), h3 36 _ (by omega)]
      rcases spMarks_27 (l := l) (S := T) (s := S 36 (64 * j + i)) (T 35 l) with q | q
      · exact q.1
      · rw [q.1, h3 27 _ (by omega)]
        exact hW.2.1 j i (by omega) hi
  · rw [e14] at hj
    by_cases e : j = l
    · subst e
      unfold LRg
      rw [er 35 j (by omega), er 38 j (by omega), e34, e42, if_pos rfl]
      refine ⟨t98, hf, Or.inl rfl, fun i hi => ?_, fun g hg => ?_⟩
      · rw [er 37 _ (by omega)]
        exact h4 i hi
      · rw [ez40, if_pos (by omega)]
    · have hj2 : j < l := by omega
      have hjr := hW.2.2.1 j (by omega)
      have := hjr.1
      obtain ⟨r1, r2, r3, r4, r5⟩ := hjr
      unfold LRg
      rw [er 35 j (by omega), er 38 j (by omega), er 34 j (by omega), e42, if_neg e, er 10 24 (by omega), h3 35 j (by omega), h3 38 j (by omega), h3 34 j (by omega), h3 10 24 (by omega)]
      refine ⟨r1, r2, r3, fun i hi => ?_, fun g hg => ?_⟩
      · rw [er 37 _ (by omega), h3 37 _ (by omega)]
        exact r4 i hi
      · rw [ez40, if_neg (by omega), h3 40 _ (by omega)]
        exact r5 g hg
  · rw [e14] at q3
    rw [e42, e42] at q4
    rw [e42] at q5
    rw [e42, e42]
    by_cases ea : a = l
    · rw [if_pos ea] at q5; exact absurd rfl q5
    · rw [if_neg ea] at q4 q5 ⊢
      by_cases ec : c = l
      · rw [if_pos ec] at q4; exact absurd q4 q5
      · rw [if_neg ec] at q4
        rw [if_neg (by omega)]
        exact hW.2.2.2 a b c q1 q2 (by omega) q4 q5
theorem Wf_fill0 {S : jS} {l : Nat} (h0 : Wf (spZero S l (448 * l + 7 * S 38 l + 7))) (hl : l < S 10 14) : Wf (spFill S l) := by
  unfold spFill
  split
  · exact h0
  · refine Wf_fillGap (Wf_fills h0 (show l < S 10 14 from hl) _ (show S 38 l ≤ S 38 l from Nat.le_refl _)) ?_ ?_
    · rw [spFills_row (by omega) (by omega)]; exact hl
    · rw [spFills_row (by omega) (by omega)]; exact Nat.le_refl _
theorem Wf_setEnd {S T : jS} {l f fr k t : Nat} (hW : Wf S) (h : WS S T l f fr k) (hk : k ≤ fr + 60) (hl : S 10 14 = l) (hl2 : l < 12) (hf : f < 2) : Wf (spSetEnd T l f t) := by
  unfold spSetEnd
  refine Wf_fill0 ?_ ?_
  · rw [spEndC_row (a := 38) (by omega)]
    exact Wf_endC hW h hk hl hl2 hf
  · unfold spEndC
    rw [sw_at, if_pos ⟨rfl, rfl⟩]
    omega
set_option maxRecDepth 20000 in
set_option maxHeartbeats 20000000 in
theorem mm_set_end (G : jx_G) {M0 : jx_M} {S : jS} {Q : jx_O → jx_M → Prop} {Wn : jx_J} (hC : Cl (cd_X10_set G) Q Wn) {f b t l en : Nat} (hW : Wf S) (hf : f < 2) (hl : l < 12) (hle : S 10 14 = l) (ht : t ≤ S 10 12) (hen60 : en ≤ spBlanks S 0 + 60) : ∀ (M : jx_M) (T : jS) (x5 x6 x7 x8 : Option jx_V), RF M0 M T → WS S T l f (spBlanks S 0) en → T 10 30 = t → T 10 0 = 0 → (∀ M', RF M0 M' (spSetEnd T l f t) → Q (rI l) M') → Wn 291 [some vm, some (vI f), some (vI b), some (vI l), some (vI en), x5, x6, x7, x8] [] M 0 0 := by
  intro M T x5 x6 x7 x8 hM hS h30 h00 hQ
  obtain ⟨t33, t12, tF, tP, tT, t35, t38, t46, t29, t98⟩ := hS.facts hW hen60
  have hn12 := tT.1
  have h35s : ∀ j, j < T 35 l → T 36 (64 * l + j) < 300 := fun j hj => by
    have q := sumr_ge (f := fun k => ind (T 36 (64 * l + j)) (T 36 (64 * l + k))) hj
    simp only [ind_self] at q
    have q2 : lw T (ind (T 36 (64 * l + j))) l (T 35 l) = sumr (fun k => ind (T 36 (64 * l + j)) (T 36 (64 * l + k))) 0 (T 35 l) := rfl
    have q3 := hS.1.2.2.live (s := T 36 (64 * l + j)) (by show 0 < _ + _ + (_ + _); omega)
    have := hS.1.1.1
    omega
  have hWC := Wf_endC (t := t) hW hS hen60 hle hl hf
  -- the last steps
  have k383 : ∀ (M1 : jx_M) (x5 : Option jx_V), RF M0 M1 (sw (spEndB T l f t) 10 12 (T 10 12)) → Wn 383 [some vm, some (vI f), some (vI b), some (vI l), some (vI en), x5, x6, x7, x8] [] M1 0 0 := by
    intro M1 x5 hM1
    have e12 : sw (spEndB T l f t) 10 12 (T 10 12) 10 12 = T 10 12 := by rw [sw_at, if_pos ⟨rfl, rfl⟩]
    have e30 : sw (spEndB T l f t) 10 12 (T 10 12) 10 30 = t := by rw [sw_at, if_neg (by omega), spEndB_row (by omega)]; exact h30
    have hM2 : RF M0 (wI M1 10 0 12 (nI (T 10 12 - t))) (spEndB T l f t) := (RF.w (r := 10) (k := 12) (v := T 10 12 - t) (by decide) hM1).eq (fun x y => by
      rw [sw_at, sw_at]
      by_cases e : x = 10 ∧ y = 12
      · rw [if_pos e, e.1, e.2, spEndB_12]
      · rw [if_neg e, if_neg e])
    have hTB := TXT_end (l := l) (f := f) (t := t) tT
    have b12 : spEndB T l f t 10 12 = T 10 12 - t := spEndB_12
    have b14 : spEndB T l f t 10 14 = l := by rw [spEndB_row (by omega)]; have := hS.2.2.1 10 14 (by omega); omega
    obtain ⟨p2, p3, p4, p5, p6, p7, p8, p10, p11, p15, p16, p17, p18, p19, p20, p21, p22, p23, p25, p26, p27, p32⟩ := hM1.1.1
    obtain ⟨f10, f25, f26, f27, f28, f29, f30, f31, f32, f33, f34, f35, f36, f37, f38, f39, f40, f41, f42, f43, f44, f45, f46⟩ := hM1.fs
    refine ev_at hC (fun pc => pc == 418) 9 383 (ls := [some vm, some (vI f), some (vI b), some (vI l), some (vI en), x5, x6, x7, x8]) ?_
    try simp only [↓cb_X10_set_0, ↓cb_X10_set_14, ↓cb_X10_set_32, ↓cb_X10_set_36, ↓cb_X10_set_37, ↓cb_X10_set_45, ↓cb_X10_set_84, ↓cb_X10_set_88, ↓cb_X10_set_96, ↓cb_X10_set_117, ↓cb_X10_set_124, ↓cb_X10_set_151, ↓cb_X10_set_152, ↓cb_X10_set_192, ↓cb_X10_set_193, ↓cb_X10_set_198, ↓cb_X10_set_239, ↓cb_X10_set_285, ↓cb_X10_set_291, ↓cb_X10_set_294, ↓cb_X10_set_329, ↓cb_X10_set_349, ↓cb_X10_set_383, ↓cb_X10_set_417, ↓cb_X10_set_418, ↓te_ald, ↓te_aload, ↓te_ast, ↓te_astC, ↓te_astZ, ↓te_bin, ↓te_call, ↓te_callV, ↓te_const, ↓te_dup, ↓te_dup2, ↓te_getI, ↓te_getP, ↓te_goto, ↓te_icmp, ↓te_if, ↓te_iinc, ↓te_iload, ↓te_iret, ↓te_istore, ↓te_putI, ↓evb_c, ↓evb_n, ↓evk_ap, ↓evm_cut, ↓evm_go, ↓evm_0, ↓jret_v, ↓jret_n, jget, jset, cond_true, cond_false, Nat.reduceBEq, jc1, List.take_succ_cons, List.take_zero, List.drop_succ_cons, List.drop_zero, List.reverse_cons, List.reverse_nil, List.nil_append, List.cons_append, List.length_cons, List.length_nil, Nat.zero_add, Nat.reduceAdd, beq_self_eq_true, true_and, and_true, Nat.reduceLeDiff, Nat.le_refl, Nat.zero_le, Bool.or_true, Bool.true_or, Bool.or_false, Bool.false_or, Bool.or_self]
    try simp (disch := omega) only [Nat.reduceEqDiff, Prod.mk.injEq, Option.some.injEq, true_and, and_true, exists_eq_left', exists_eq_right, exists_and_left, exists_const, true_or, or_true, ne_eq, not_true_eq_false, not_false_eq_true, reduceCtorEq, false_and, and_false, if_true, if_false, forall_const, true_implies, false_implies, implies_true, qI_wI, qI_wP, qP_wI, qP_wP, qN_wI, qN_wP, and_self, nI_add, pk_mul, nI_clamp, vp_in_nI, ng_1, ng_10, nI_eq32, cs_0, cs_1, cs_2, cs_3, cs_4, cs_5, cs_6, cs_7, cs_8, cs_9, cs_10, cs_11, cs_12, cs_13, cs_14, cs_15, cs_16, cs_17, cs_18, cs_19, cs_20, cs_21, cs_22, cs_23, cs_24, cs_25, cs_26, cs_27, cs_28, cs_29, cs_30, cs_31, cs_32, cs_33, cs_34, cs_35, cs_36, cs_37, cs_38, cs_39, cs_40, cs_41, cs_42, cs_43, cs_44, cs_45, cs_46, cs_47, cs_48, cs_49, cs_50, cs_51, cs_52, cs_53, cs_54, cs_55, cs_56, cs_57, cs_58, cs_59, cs_60, cs_61, cs_62, cs_63, cs_64, cs_97, cs_100, cs_122, cs_200, cs_300, cs_448, cs_1000, al_11, al_12, al_13, al_14, al_15, al_16, al_17, al_18, al_19, al_20, al_21, al_22, al_23, al_24, al_25, al_26, al_27, al_28, al_29, al_30, al_31, al_32, al_33, al_34, al_35, al_36, al_37, al_38, al_39, al_40, al_41, al_42, al_43, al_44, al_45, al_46, al_47, p2, p3, p4, p5, p6, p7, p8, p10, p11, p15, p16, p17, p18, p19, p20, p21, p22, p23, p25, p26, p27, p32, f10, f25, f26, f27, f28, f29, f30, f31, f32, f33, f34, f35, f36, f37, f38, f39, f40, f41, f42, f43, f44, f45, f46, e12, e30]
    rw [pk_sub (show t ≤ T 10 12 by omega)]
    refine mm_behindBlanks G (M0 := M0) (S := spEndB T l f t) (k0 := 0) (by omega) hTB.1 hTB.2.1 hM2 ?_
    clear p2 p3 p4 p5 p6 p7 p8 p10 p11 p15 p16 p17 p18 p19 p20 p21 p22 p23 p25 p26 p27 p32 f10 f25 f26 f27 f28 f29 f30 f31 f32 f33 f34 f35 f36 f37 f38 f39 f40 f41 f42 f43 f44 f45 f46
    have hbl := spBlanks_le (spEndB T l f t) (k := 0) (Nat.zero_le _)
    have k418 : ∀ v, v = jb (spBlanks (spEndB T l f t) 0 = spEndB T l f t 10 12) → Wn 418 [some vm, some (vI f), some (vI b), some (vI l), some (vI en), x5, x6, x7, x8] [vI v, vI l, .inr (.inr (41, some 0))] (wI M1 10 0 12 (nI (T 10 12 - t))) 0 0 := by
      intro v hv
      have hv2 : v < 2 := by rw [hv]; unfold jb; split <;> omega
      have hM3 := RF.w (r := 10) (k := 14) (v := l + 1) (by decide) (RF.w (r := 41) (k := l) (v := v) (by decide) hM2)
      have hM3b : RF M0 (wI (wI (wI M1 10 0 12 (nI (T 10 12 - t))) 41 0 l (nI v)) 10 0 14 (nI (l + 1))) (spEndC T l f t) := hM3.eq (fun x y => by rw [hv]; rfl)
      have ev : nI v = 0 ∨ nI v = 1 := by rcases (show v = 0 ∨ v = 1 by omega) with q | q <;> subst q; exact Or.inl rfl; exact Or.inr rfl
      have hLK : LOK (spEndC T l f t) l := by
        refine ⟨hl, by rw [spEndC_row (by omega)]; exact t35, by rw [spEndC_row (by omega)]; exact t38, fun k hk => ?_⟩
        rw [spEndC_row (by omega)] at hk
        rw [spEndC_row (by omega)]
        exact h35s k hk
      have hF9 : FOK (spEndC T l f t) := fun s => by rw [spEndC_row (by omega)]; exact tF s
      have h13 : spEndC T l f t 10 13 ≤ 200 := by rw [spEndC_row (by omega)]; exact hS.1.1.1.2.2.2.2.1
      have h41 : spEndC T l f t 41 l < 2 := by
        unfold spEndC
        rw [sw_at, if_neg (by omega), sw_at, if_pos ⟨rfl, rfl⟩, ← hv]
        exact hv2
      obtain ⟨p2, p3, p4, p5, p6, p7, p8, p10, p11, p15, p16, p17, p18, p19, p20, p21, p22, p23, p25, p26, p27, p32⟩ := hM2.1.1
      obtain ⟨f10, f25, f26, f27, f28, f29, f30, f31, f32, f33, f34, f35, f36, f37, f38, f39, f40, f41, f42, f43, f44, f45, f46⟩ := hM2.fs
      refine ev_at hC (fun pc => false) 9 418 (ls := [some vm, some (vI f), some (vI b), some (vI l), some (vI en), x5, x6, x7, x8]) ?_
      have q14 : qI M1 10 0 14 = nI l := by rw [hM1.fs.1 14, sw_at, if_neg (by omega), b14]
      try simp only [↓cb_X10_set_0, ↓cb_X10_set_14, ↓cb_X10_set_32, ↓cb_X10_set_36, ↓cb_X10_set_37, ↓cb_X10_set_45, ↓cb_X10_set_84, ↓cb_X10_set_88, ↓cb_X10_set_96, ↓cb_X10_set_117, ↓cb_X10_set_124, ↓cb_X10_set_151, ↓cb_X10_set_152, ↓cb_X10_set_192, ↓cb_X10_set_193, ↓cb_X10_set_198, ↓cb_X10_set_239, ↓cb_X10_set_285, ↓cb_X10_set_291, ↓cb_X10_set_294, ↓cb_X10_set_329, ↓cb_X10_set_349, ↓cb_X10_set_383, ↓cb_X10_set_417, ↓cb_X10_set_418, ↓te_ald, ↓te_aload, ↓te_ast, ↓te_astC, ↓te_astZ, ↓te_bin, ↓te_call, ↓te_callV, ↓te_const, ↓te_dup, ↓te_dup2, ↓te_getI, ↓te_getP, ↓te_goto, ↓te_icmp, ↓te_if, ↓te_iinc, ↓te_iload, ↓te_iret, ↓te_istore, ↓te_putI, ↓evb_c, ↓evb_n, ↓evk_ap, ↓evm_cut, ↓evm_go, ↓evm_0, ↓jret_v, ↓jret_n, jget, jset, cond_true, cond_false, Nat.reduceBEq, jc1, List.take_succ_cons, List.take_zero, List.drop_succ_cons, List.drop_zero, List.reverse_cons, List.reverse_nil, List.nil_append, List.cons_append, List.length_cons, List.length_nil, Nat.zero_add, Nat.reduceAdd, beq_self_eq_true, true_and, and_true, Nat.reduceLeDiff, Nat.le_refl, Nat.zero_le, Bool.or_true, Bool.true_or, Bool.or_false, Bool.false_or, Bool.or_self]
      try simp (disch := omega) only [Nat.reduceEqDiff, Prod.mk.injEq, Option.some.injEq, true_and, and_true, exists_eq_left', exists_eq_right, exists_and_left, exists_const, true_or, or_true, ne_eq, not_true_eq_false, not_false_eq_true, reduceCtorEq, false_and, and_false, if_true, if_false, forall_const, true_implies, false_implies, implies_true, qI_wI, qI_wP, qP_wI, qP_wP, qN_wI, qN_wP, and_self, nI_add, pk_mul, nI_clamp, vp_in_nI, ng_1, ng_10, nI_eq32, cs_0, cs_1, cs_2, cs_3, cs_4, cs_5, cs_6, cs_7, cs_8, cs_9, cs_10, cs_11, cs_12, cs_13, cs_14, cs_15, cs_16, cs_17, cs_18, cs_19, cs_20, cs_21, cs_22, cs_23, cs_24, cs_25, cs_26, cs_27, cs_28, cs_29, cs_30, cs_31, cs_32, cs_33, cs_34, cs_35, cs_36, cs_37, cs_38, cs_39, cs_40, cs_41, cs_42, cs_43, cs_44, cs_45, cs_46, cs_47, cs_48, cs_49, cs_50, cs_51, cs_52, cs_53, cs_54, cs_55, cs_56, cs_57, cs_58, cs_59, cs_60, cs_61, cs_62, cs_63, cs_64, cs_97, cs_100, cs_122, cs_200, cs_300, cs_448, cs_1000, al_11, al_12, al_13, al_14, al_15, al_16, al_17, al_18, al_19, al_20, al_21, al_22, al_23, al_24, al_25, al_26, al_27, al_28, al_29, al_30, al_31, al_32, al_33, al_34, al_35, al_36, al_37, al_38, al_39, al_40, al_41, al_42, al_43, al_44, al_45, al_46, al_47, p2, p3, p4, p5, p6, p7, p8, p10, p11, p15, p16, p17, p18, p19, p20, p21, p22, p23, p25, p26, p27, p32, f10, f25, f26, f27, f28, f29, f30, f31, f32, f33, f34, f35, f36, f37, f38, f39, f40, f41, f42, f43, f44, f45, f46, b14, q14]
      have go : Mt G m_X10_fill [vm, vI l] (wI (wI (wI M1 10 0 12 (nI (T 10 12 - t))) 41 0 l (nI v)) 10 0 14 (nI (l + 1))) (jret (evk [ti_iload 3, ti_iret 0 0] (evm (cd_X10_set G) (fun pc => false) Q Wn 9) Q (evm (cd_X10_set G) (fun pc => false) Q Wn 9 435)) [some vm, some (vI f), some (vI b), some (vI l), some (vI en), x5, x6, x7, x8] [] 0 0) := by
        refine mm_fill G hLK hF9 h13 h41 hM3b (fun M4 hM4 => ?_)
        try simp only [↓cb_X10_set_0, ↓cb_X10_set_14, ↓cb_X10_set_32, ↓cb_X10_set_36, ↓cb_X10_set_37, ↓cb_X10_set_45, ↓cb_X10_set_84, ↓cb_X10_set_88, ↓cb_X10_set_96, ↓cb_X10_set_117, ↓cb_X10_set_124, ↓cb_X10_set_151, ↓cb_X10_set_152, ↓cb_X10_set_192, ↓cb_X10_set_193, ↓cb_X10_set_198, ↓cb_X10_set_239, ↓cb_X10_set_285, ↓cb_X10_set_291, ↓cb_X10_set_294, ↓cb_X10_set_329, ↓cb_X10_set_349, ↓cb_X10_set_383, ↓cb_X10_set_417, ↓cb_X10_set_418, ↓te_ald, ↓te_aload, ↓te_ast, ↓te_astC, ↓te_astZ, ↓te_bin, ↓te_call, ↓te_callV, ↓te_const, ↓te_dup, ↓te_dup2, ↓te_getI, ↓te_getP, ↓te_goto, ↓te_icmp, ↓te_if, ↓te_iinc, ↓te_iload, ↓te_iret, ↓te_istore, ↓te_putI, ↓evb_c, ↓evb_n, ↓evk_ap, ↓evm_cut, ↓evm_go, ↓evm_0, ↓jret_v, ↓jret_n, jget, jset, cond_true, cond_false, Nat.reduceBEq, jc1, List.take_succ_cons, List.take_zero, List.drop_succ_cons, List.drop_zero, List.reverse_cons, List.reverse_nil, List.nil_append, List.cons_append, List.length_cons, List.length_nil, Nat.zero_add, Nat.reduceAdd, beq_self_eq_true, true_and, and_true, Nat.reduceLeDiff, Nat.le_refl, Nat.zero_le, Bool.or_true, Bool.true_or, Bool.or_false, Bool.false_or, Bool.or_self]
        exact hQ M4 hM4
      first
        | exact go
        | exact ⟨ev, go⟩
        | exact ⟨by omega, go⟩
    obtain ⟨f10, -⟩ := hM2.fs
    have p22 : qP (wI M1 10 0 12 (nI (T 10 12 - t))) 10 0 22 = some 0 := by obtain ⟨-, -, -, -, -, -, -, -, -, -, -, -, -, -, -, -, q, -⟩ := hM2.1.1; exact q
    try simp only [↓cb_X10_set_0, ↓cb_X10_set_14, ↓cb_X10_set_32, ↓cb_X10_set_36, ↓cb_X10_set_37, ↓cb_X10_set_45, ↓cb_X10_set_84, ↓cb_X10_set_88, ↓cb_X10_set_96, ↓cb_X10_set_117, ↓cb_X10_set_124, ↓cb_X10_set_151, ↓cb_X10_set_152, ↓cb_X10_set_192, ↓cb_X10_set_193, ↓cb_X10_set_198, ↓cb_X10_set_239, ↓cb_X10_set_285, ↓cb_X10_set_291, ↓cb_X10_set_294, ↓cb_X10_set_329, ↓cb_X10_set_349, ↓cb_X10_set_383, ↓cb_X10_set_417, ↓cb_X10_set_418, ↓te_ald, ↓te_aload, ↓te_ast, ↓te_astC, ↓te_astZ, ↓te_bin, ↓te_call, ↓te_callV, ↓te_const, ↓te_dup, ↓te_dup2, ↓te_getI, ↓te_getP, ↓te_goto, ↓te_icmp, ↓te_if, ↓te_iinc, ↓te_iload, ↓te_iret, ↓te_istore, ↓te_putI, ↓evb_c, ↓evb_n, ↓evk_ap, ↓evm_cut, ↓evm_go, ↓evm_0, ↓jret_v, ↓jret_n, jget, jset, cond_true, cond_false, Nat.reduceBEq, jc1, List.take_succ_cons, List.take_zero, List.drop_succ_cons, List.drop_zero, List.reverse_cons, List.reverse_nil, List.nil_append, List.cons_append, List.length_cons, List.length_nil, Nat.zero_add, Nat.reduceAdd, beq_self_eq_true, true_and, and_true, Nat.reduceLeDiff, Nat.le_refl, Nat.zero_le, Bool.or_true, Bool.true_or, Bool.or_false, Bool.false_or, Bool.or_self]
    try simp (disch := omega) only [Nat.reduceEqDiff, Prod.mk.injEq, Option.some.injEq, true_and, and_true, exists_eq_left', exists_eq_right, exists_and_left, exists_const, true_or, or_true, ne_eq, not_true_eq_false, not_false_eq_true, reduceCtorEq, false_and, and_false, if_true, if_false, forall_const, true_implies, false_implies, implies_true, qI_wI, qI_wP, qP_wI, qP_wP, qN_wI, qN_wP, and_self, nI_add, pk_mul, nI_clamp, vp_in_nI, ng_1, ng_10, nI_eq32, cs_0, cs_1, cs_2, cs_3, cs_4, cs_5, cs_6, cs_7, cs_8, cs_9, cs_10, cs_11, cs_12, cs_13, cs_14, cs_15, cs_16, cs_17, cs_18, cs_19, cs_20, cs_21, cs_22, cs_23, cs_24, cs_25, cs_26, cs_27, cs_28, cs_29, cs_30, cs_31, cs_32, cs_33, cs_34, cs_35, cs_36, cs_37, cs_38, cs_39, cs_40, cs_41, cs_42, cs_43, cs_44, cs_45, cs_46, cs_47, cs_48, cs_49, cs_50, cs_51, cs_52, cs_53, cs_54, cs_55, cs_56, cs_57, cs_58, cs_59, cs_60, cs_61, cs_62, cs_63, cs_64, cs_97, cs_100, cs_122, cs_200, cs_300, cs_448, cs_1000, al_11, al_12, al_13, al_14, al_15, al_16, al_17, al_18, al_19, al_20, al_21, al_22, al_23, al_24, al_25, al_26, al_27, al_28, al_29, al_30, al_31, al_32, al_33, al_34, al_35, al_36, al_37, al_38, al_39, al_40, al_41, al_42, al_43, al_44, al_45, al_46, al_47, f10, b12]
    rw [b12] at k418 hbl
    first
      | exact ⟨fun q => k418 0 (jb_f q).symm, fun q => k418 1 (jb_t (Classical.not_not.mp q)).symm⟩
      | exact ⟨fun q => k418 0 (jb_f q).symm, fun q => k418 1 (jb_t q).symm⟩
  -- the text moved
  have k349 : ∀ (d k : Nat) (M1 : jx_M), k + d = T 10 12 → t ≤ k → RF M0 M1 (spCutK (spEndA T l f) t k) → Wn 349 [some vm, some (vI f), some (vI b), some (vI l), some (vI en), some (vI k), x6, x7, x8] [] M1 0 0 := by
    intro d
    induction d with
    | zero =>
      intro k M1 c1 c2 hM1
      have c3 : k = T 10 12 := by omega
      subst c3
      have e12 : spCutK (spEndA T l f) t (T 10 12) 10 12 = T 10 12 := by unfold spCutK; rw [if_neg (by omega), spEndA_row (by omega)]
      have h9 := k383 M1 (some (vI (T 10 12))) (hM1.eq (fun x y => by
        unfold spEndB spCutT
        rw [sw_at, sw_at, spEndA_row (a := 10) (b := 12) (by omega)]
        by_cases e : x = 10 ∧ y = 12
        · rw [if_pos e, e.1, e.2, e12]
        · rw [if_neg e, if_neg e]))
      obtain ⟨p2, p3, p4, p5, p6, p7, p8, p10, p11, p15, p16, p17, p18, p19, p20, p21, p22, p23, p25, p26, p27, p32⟩ := hM1.1.1
      obtain ⟨f10, f25, f26, f27, f28, f29, f30, f31, f32, f33, f34, f35, f36, f37, f38, f39, f40, f41, f42, f43, f44, f45, f46⟩ := hM1.fs
      refine ev_at hC (fun pc => pc == 349 || pc == 383) 9 349 (ls := [some vm, some (vI f), some (vI b), some (vI l), some (vI en), some (vI (T 10 12)), x6, x7, x8]) ?_
      try simp only [↓cb_X10_set_0, ↓cb_X10_set_14, ↓cb_X10_set_32, ↓cb_X10_set_36, ↓cb_X10_set_37, ↓cb_X10_set_45, ↓cb_X10_set_84, ↓cb_X10_set_88, ↓cb_X10_set_96, ↓cb_X10_set_117, ↓cb_X10_set_124, ↓cb_X10_set_151, ↓cb_X10_set_152, ↓cb_X10_set_192, ↓cb_X10_set_193, ↓cb_X10_set_198, ↓cb_X10_set_239, ↓cb_X10_set_285, ↓cb_X10_set_291, ↓cb_X10_set_294, ↓cb_X10_set_329, ↓cb_X10_set_349, ↓cb_X10_set_383, ↓cb_X10_set_417, ↓cb_X10_set_418, ↓te_ald, ↓te_aload, ↓te_ast, ↓te_astC, ↓te_astZ, ↓te_bin, ↓te_call, ↓te_callV, ↓te_const, ↓te_dup, ↓te_dup2, ↓te_getI, ↓te_getP, ↓te_goto, ↓te_icmp, ↓te_if, ↓te_iinc, ↓te_iload, ↓te_iret, ↓te_istore, ↓te_putI, ↓evb_c, ↓evb_n, ↓evk_ap, ↓evm_cut, ↓evm_go, ↓evm_0, ↓jret_v, ↓jret_n, jget, jset, cond_true, cond_false, Nat.reduceBEq, jc1, List.take_succ_cons, List.take_zero, List.drop_succ_cons, List.drop_zero, List.reverse_cons, List.reverse_nil, List.nil_append, List.cons_append, List.length_cons, List.length_nil, Nat.zero_add, Nat.reduceAdd, beq_self_eq_true, true_and, and_true, Nat.reduceLeDiff, Nat.le_refl, Nat.zero_le, Bool.or_true, Bool.true_or, Bool.or_false, Bool.false_or, Bool.or_self]
      try simp (disch := omega) only [Nat.reduceEqDiff, Prod.mk.injEq, Option.some.injEq, true_and, and_true, exists_eq_left', exists_eq_right, exists_and_left, exists_const, true_or, or_true, ne_eq, not_true_eq_false, not_false_eq_true, reduceCtorEq, false_and, and_false, if_true, if_false, forall_const, true_implies, false_implies, implies_true, qI_wI, qI_wP, qP_wI, qP_wP, qN_wI, qN_wP, and_self, nI_add, pk_mul, nI_clamp, vp_in_nI, ng_1, ng_10, nI_eq32, cs_0, cs_1, cs_2, cs_3, cs_4, cs_5, cs_6, cs_7, cs_8, cs_9, cs_10, cs_11, cs_12, cs_13, cs_14, cs_15, cs_16, cs_17, cs_18, cs_19, cs_20, cs_21, cs_22, cs_23, cs_24, cs_25, cs_26, cs_27, cs_28, cs_29, cs_30, cs_31, cs_32, cs_33, cs_34, cs_35, cs_36, cs_37, cs_38, cs_39, cs_40, cs_41, cs_42, cs_43, cs_44, cs_45, cs_46, cs_47, cs_48, cs_49, cs_50, cs_51, cs_52, cs_53, cs_54, cs_55, cs_56, cs_57, cs_58, cs_59, cs_60, cs_61, cs_62, cs_63, cs_64, cs_97, cs_100, cs_122, cs_200, cs_300, cs_448, cs_1000, al_11, al_12, al_13, al_14, al_15, al_16, al_17, al_18, al_19, al_20, al_21, al_22, al_23, al_24, al_25, al_26, al_27, al_28, al_29, al_30, al_31, al_32, al_33, al_34, al_35, al_36, al_37, al_38, al_39, al_40, al_41, al_42, al_43, al_44, al_45, al_46, al_47, p2, p3, p4, p5, p6, p7, p8, p10, p11, p15, p16, p17, p18, p19, p20, p21, p22, p23, p25, p26, p27, p32, f10, f25, f26, f27, f28, f29, f30, f31, f32, f33, f34, f35, f36, f37, f38, f39, f40, f41, f42, f43, f44, f45, f46, e12, nI_leI]
      exact ⟨fun _ => h9, fun q => absurd (Nat.le_refl _) q⟩
    | succ d ih =>
      intro k M1 c1 c2 hM1
      have e12 : spCutK (spEndA T l f) t k 10 12 = T 10 12 := by unfold spCutK; rw [if_neg (by omega), spEndA_row (by omega)]
      have e30 : spCutK (spEndA T l f) t k 10 30 = t := by unfold spCutK; rw [if_neg (by omega), spEndA_row (by omega)]; exact h30
      have e33 : spCutK (spEndA T l f) t k 33 k = T 33 k := by
        unfold spCutK
        by_cases e : k + t < k
        · omega
        · rw [if_neg (by omega), spEndA_row (by omega)]
      have h33 := tT.2.1 k
      obtain ⟨p2, p3, p4, p5, p6, p7, p8, p10, p11, p15, p16, p17, p18, p19, p20, p21, p22, p23, p25, p26, p27, p32⟩ := hM1.1.1
      obtain ⟨f10, f25, f26, f27, f28, f29, f30, f31, f32, f33, f34, f35, f36, f37, f38, f39, f40, f41, f42, f43, f44, f45, f46⟩ := hM1.fs
      refine ev_at hC (fun pc => pc == 349 || pc == 383) 9 349 (ls := [some vm, some (vI f), some (vI b), some (vI l), some (vI en), some (vI k), x6, x7, x8]) ?_
      try simp only [↓cb_X10_set_0, ↓cb_X10_set_14, ↓cb_X10_set_32, ↓cb_X10_set_36, ↓cb_X10_set_37, ↓cb_X10_set_45, ↓cb_X10_set_84, ↓cb_X10_set_88, ↓cb_X10_set_96, ↓cb_X10_set_117, ↓cb_X10_set_124, ↓cb_X10_set_151, ↓cb_X10_set_152, ↓cb_X10_set_192, ↓cb_X10_set_193, ↓cb_X10_set_198, ↓cb_X10_set_239, ↓cb_X10_set_285, ↓cb_X10_set_291, ↓cb_X10_set_294, ↓cb_X10_set_329, ↓cb_X10_set_349, ↓cb_X10_set_383, ↓cb_X10_set_417, ↓cb_X10_set_418, ↓te_ald, ↓te_aload, ↓te_ast, ↓te_astC, ↓te_astZ, ↓te_bin, ↓te_call, ↓te_callV, ↓te_const, ↓te_dup, ↓te_dup2, ↓te_getI, ↓te_getP, ↓te_goto, ↓te_icmp, ↓te_if, ↓te_iinc, ↓te_iload, ↓te_iret, ↓te_istore, ↓te_putI, ↓evb_c, ↓evb_n, ↓evk_ap, ↓evm_cut, ↓evm_go, ↓evm_0, ↓jret_v, ↓jret_n, jget, jset, cond_true, cond_false, Nat.reduceBEq, jc1, List.take_succ_cons, List.take_zero, List.drop_succ_cons, List.drop_zero, List.reverse_cons, List.reverse_nil, List.nil_append, List.cons_append, List.length_cons, List.length_nil, Nat.zero_add, Nat.reduceAdd, beq_self_eq_true, true_and, and_true, Nat.reduceLeDiff, Nat.le_refl, Nat.zero_le, Bool.or_true, Bool.true_or, Bool.or_false, Bool.false_or, Bool.or_self]
      try simp (disch := omega) only [Nat.reduceEqDiff, Prod.mk.injEq, Option.some.injEq, true_and, and_true, exists_eq_left', exists_eq_right, exists_and_left, exists_const, true_or, or_true, ne_eq, not_true_eq_false, not_false_eq_true, reduceCtorEq, false_and, and_false, if_true, if_false, forall_const, true_implies, false_implies, implies_true, qI_wI, qI_wP, qP_wI, qP_wP, qN_wI, qN_wP, and_self, nI_add, pk_mul, nI_clamp, vp_in_nI, ng_1, ng_10, nI_eq32, cs_0, cs_1, cs_2, cs_3, cs_4, cs_5, cs_6, cs_7, cs_8, cs_9, cs_10, cs_11, cs_12, cs_13, cs_14, cs_15, cs_16, cs_17, cs_18, cs_19, cs_20, cs_21, cs_22, cs_23, cs_24, cs_25, cs_26, cs_27, cs_28, cs_29, cs_30, cs_31, cs_32, cs_33, cs_34, cs_35, cs_36, cs_37, cs_38, cs_39, cs_40, cs_41, cs_42, cs_43, cs_44, cs_45, cs_46, cs_47, cs_48, cs_49, cs_50, cs_51, cs_52, cs_53, cs_54, cs_55, cs_56, cs_57, cs_58, cs_59, cs_60, cs_61, cs_62, cs_63, cs_64, cs_97, cs_100, cs_122, cs_200, cs_300, cs_448, cs_1000, al_11, al_12, al_13, al_14, al_15, al_16, al_17, al_18, al_19, al_20, al_21, al_22, al_23, al_24, al_25, al_26, al_27, al_28, al_29, al_30, al_31, al_32, al_33, al_34, al_35, al_36, al_37, al_38, al_39, al_40, al_41, al_42, al_43, al_44, al_45, al_46, al_47, p2, p3, p4, p5, p6, p7, p8, p10, p11, p15, p16, p17, p18, p19, p20, p21, p22, p23, p25, p26, p27, p32, f10, f25, f26, f27, f28, f29, f30, f31, f32, f33, f34, f35, f36, f37, f38, f39, f40, f41, f42, f43, f44, f45, f46, e12, e30, e33, nI_leI, pk_sub, pk_char, pk_tn, Nat.mod_eq_of_lt]
      refine ⟨fun q => absurd q (by omega), fun _ => ?_⟩
      refine ih (k + 1) _ (by omega) (by omega) ((RF.w (r := 33) (k := k - t) (v := T 33 k) (by decide) hM1).eq (fun x y => ?_))
      unfold spCutK
      rw [sw_at]
      by_cases e : x = 33 ∧ y = k - t
      · rw [if_pos e, if_pos (by omega), e.2, Nat.sub_add_cancel c2, spEndA_row (by omega)]
      · rw [if_neg e]
        by_cases e2 : x = 33 ∧ y + t < k
        · rw [if_pos e2, if_pos (by omega)]
        · rw [if_neg e2, if_neg (by omega)]
  have k329 : ∀ (M1 : jx_M) (x5 : Option jx_V), RF M0 M1 (spMarks l (T 35 l) T) → Wn 329 [some vm, some (vI f), some (vI b), some (vI l), some (vI en), x5, x6, x7, x8] [] M1 0 0 := by
    intro M1 x5 hM1
    have e30 : spMarks l (T 35 l) T 10 30 = t := by rw [spMarks_row (by omega)]; exact h30
    obtain ⟨p2, p3, p4, p5, p6, p7, p8, p10, p11, p15, p16, p17, p18, p19, p20, p21, p22, p23, p25, p26, p27, p32⟩ := hM1.1.1
    obtain ⟨f10, f25, f26, f27, f28, f29, f30, f31, f32, f33, f34, f35, f36, f37, f38, f39, f40, f41, f42, f43, f44, f45, f46⟩ := hM1.fs
    refine ev_at hC (fun pc => pc == 349) 9 329 (ls := [some vm, some (vI f), some (vI b), some (vI l), some (vI en), x5, x6, x7, x8]) ?_
    try simp only [↓cb_X10_set_0, ↓cb_X10_set_14, ↓cb_X10_set_32, ↓cb_X10_set_36, ↓cb_X10_set_37, ↓cb_X10_set_45, ↓cb_X10_set_84, ↓cb_X10_set_88, ↓cb_X10_set_96, ↓cb_X10_set_117, ↓cb_X10_set_124, ↓cb_X10_set_151, ↓cb_X10_set_152, ↓cb_X10_set_192, ↓cb_X10_set_193, ↓cb_X10_set_198, ↓cb_X10_set_239, ↓cb_X10_set_285, ↓cb_X10_set_291, ↓cb_X10_set_294, ↓cb_X10_set_329, ↓cb_X10_set_349, ↓cb_X10_set_383, ↓cb_X10_set_417, ↓cb_X10_set_418, ↓te_ald, ↓te_aload, ↓te_ast, ↓te_astC, ↓te_astZ, ↓te_bin, ↓te_call, ↓te_callV, ↓te_const, ↓te_dup, ↓te_dup2, ↓te_getI, ↓te_getP, ↓te_goto, ↓te_icmp, ↓te_if, ↓te_iinc, ↓te_iload, ↓te_iret, ↓te_istore, ↓te_putI, ↓evb_c, ↓evb_n, ↓evk_ap, ↓evm_cut, ↓evm_go, ↓evm_0, ↓jret_v, ↓jret_n, jget, jset, cond_true, cond_false, Nat.reduceBEq, jc1, List.take_succ_cons, List.take_zero, List.drop_succ_cons, List.drop_zero, List.reverse_cons, List.reverse_nil, List.nil_append, List.cons_append, List.length_cons, List.length_nil, Nat.zero_add, Nat.reduceAdd, beq_self_eq_true, true_and, and_true, Nat.reduceLeDiff, Nat.le_refl, Nat.zero_le, Bool.or_true, Bool.true_or, Bool.or_false, Bool.false_or, Bool.or_self]
    try simp (disch := omega) only [Nat.reduceEqDiff, Prod.mk.injEq, Option.some.injEq, true_and, and_true, exists_eq_left', exists_eq_right, exists_and_left, exists_const, true_or, or_true, ne_eq, not_true_eq_false, not_false_eq_true, reduceCtorEq, false_and, and_false, if_true, if_false, forall_const, true_implies, false_implies, implies_true, qI_wI, qI_wP, qP_wI, qP_wP, qN_wI, qN_wP, and_self, nI_add, pk_mul, nI_clamp, vp_in_nI, ng_1, ng_10, nI_eq32, cs_0, cs_1, cs_2, cs_3, cs_4, cs_5, cs_6, cs_7, cs_8, cs_9, cs_10, cs_11, cs_12, cs_13, cs_14, cs_15, cs_16, cs_17, cs_18, cs_19, cs_20, cs_21, cs_22, cs_23, cs_24, cs_25, cs_26, cs_27, cs_28, cs_29, cs_30, cs_31, cs_32, cs_33, cs_34, cs_35, cs_36, cs_37, cs_38, cs_39, cs_40, cs_41, cs_42, cs_43, cs_44, cs_45, cs_46, cs_47, cs_48, cs_49, cs_50, cs_51, cs_52, cs_53, cs_54, cs_55, cs_56, cs_57, cs_58, cs_59, cs_60, cs_61, cs_62, cs_63, cs_64, cs_97, cs_100, cs_122, cs_200, cs_300, cs_448, cs_1000, al_11, al_12, al_13, al_14, al_15, al_16, al_17, al_18, al_19, al_20, al_21, al_22, al_23, al_24, al_25, al_26, al_27, al_28, al_29, al_30, al_31, al_32, al_33, al_34, al_35, al_36, al_37, al_38, al_39, al_40, al_41, al_42, al_43, al_44, al_45, al_46, al_47, p2, p3, p4, p5, p6, p7, p8, p10, p11, p15, p16, p17, p18, p19, p20, p21, p22, p23, p25, p26, p27, p32, f10, f25, f26, f27, f28, f29, f30, f31, f32, f33, f34, f35, f36, f37, f38, f39, f40, f41, f42, f43, f44, f45, f46, e30]
    refine k349 (T 10 12 - t) t _ (by omega) (Nat.le_refl _) ((RF.w (r := 42) (k := l) (v := jNo) (by decide) (RF.w (r := 34) (k := l) (v := f) (by decide) hM1)).eq (fun x y => ?_))
    unfold spCutK
    rw [if_neg (by omega)]
    rfl
  have k294 : ∀ (d k : Nat) (M1 : jx_M), k + d = T 35 l → RF M0 M1 (spMarks l k T) → Wn 294 [some vm, some (vI f), some (vI b), some (vI l), some (vI en), some (vI k), x6, x7, x8] [] M1 0 0 := by
    intro d
    induction d with
    | zero =>
      intro k M1 c1 hM1
      have c3 : k = T 35 l := by omega
      subst c3
      have e35 : spMarks l (T 35 l) T 35 l = T 35 l := spMarks_row (by omega) _
      have h9 := k329 M1 (some (vI (T 35 l))) hM1
      obtain ⟨p2, p3, p4, p5, p6, p7, p8, p10, p11, p15, p16, p17, p18, p19, p20, p21, p22, p23, p25, p26, p27, p32⟩ := hM1.1.1
      obtain ⟨f10, f25, f26, f27, f28, f29, f30, f31, f32, f33, f34, f35, f36, f37, f38, f39, f40, f41, f42, f43, f44, f45, f46⟩ := hM1.fs
      refine ev_at hC (fun pc => pc == 294 || pc == 329) 9 294 (ls := [some vm, some (vI f), some (vI b), some (vI l), some (vI en), some (vI (T 35 l)), x6, x7, x8]) ?_
      try simp only [↓cb_X10_set_0, ↓cb_X10_set_14, ↓cb_X10_set_32, ↓cb_X10_set_36, ↓cb_X10_set_37, ↓cb_X10_set_45, ↓cb_X10_set_84, ↓cb_X10_set_88, ↓cb_X10_set_96, ↓cb_X10_set_117, ↓cb_X10_set_124, ↓cb_X10_set_151, ↓cb_X10_set_152, ↓cb_X10_set_192, ↓cb_X10_set_193, ↓cb_X10_set_198, ↓cb_X10_set_239, ↓cb_X10_set_285, ↓cb_X10_set_291, ↓cb_X10_set_294, ↓cb_X10_set_329, ↓cb_X10_set_349, ↓cb_X10_set_383, ↓cb_X10_set_417, ↓cb_X10_set_418, ↓te_ald, ↓te_aload, ↓te_ast, ↓te_astC, ↓te_astZ, ↓te_bin, ↓te_call, ↓te_callV, ↓te_const, ↓te_dup, ↓te_dup2, ↓te_getI, ↓te_getP, ↓te_goto, ↓te_icmp, ↓te_if, ↓te_iinc, ↓te_iload, ↓te_iret, ↓te_istore, ↓te_putI, ↓evb_c, ↓evb_n, ↓evk_ap, ↓evm_cut, ↓evm_go, ↓evm_0, ↓jret_v, ↓jret_n, jget, jset, cond_true, cond_false, Nat.reduceBEq, jc1, List.take_succ_cons, List.take_zero, List.drop_succ_cons, List.drop_zero, List.reverse_cons, List.reverse_nil, List.nil_append, List.cons_append, List.length_cons, List.length_nil, Nat.zero_add, Nat.reduceAdd, beq_self_eq_true, true_and, and_true, Nat.reduceLeDiff, Nat.le_refl, Nat.zero_le, Bool.or_true, Bool.true_or, Bool.or_false, Bool.false_or, Bool.or_self]
      try simp (disch := omega) only [Nat.reduceEqDiff, Prod.mk.injEq, Option.some.injEq, true_and, and_true, exists_eq_left', exists_eq_right, exists_and_left, exists_const, true_or, or_true, ne_eq, not_true_eq_false, not_false_eq_true, reduceCtorEq, false_and, and_false, if_true, if_false, forall_const, true_implies, false_implies, implies_true, qI_wI, qI_wP, qP_wI, qP_wP, qN_wI, qN_wP, and_self, nI_add, pk_mul, nI_clamp, vp_in_nI, ng_1, ng_10, nI_eq32, cs_0, cs_1, cs_2, cs_3, cs_4, cs_5, cs_6, cs_7, cs_8, cs_9, cs_10, cs_11, cs_12, cs_13, cs_14, cs_15, cs_16, cs_17, cs_18, cs_19, cs_20, cs_21, cs_22, cs_23, cs_24, cs_25, cs_26, cs_27, cs_28, cs_29, cs_30, cs_31, cs_32, cs_33, cs_34, cs_35, cs_36, cs_37, cs_38, cs_39, cs_40, cs_41, cs_42, cs_43, cs_44, cs_45, cs_46, cs_47, cs_48, cs_49, cs_50, cs_51, cs_52, cs_53, cs_54, cs_55, cs_56, cs_57, cs_58, cs_59, cs_60, cs_61, cs_62, cs_63, cs_64, cs_97, cs_100, cs_122, cs_200, cs_300, cs_448, cs_1000, al_11, al_12, al_13, al_14, al_15, al_16, al_17, al_18, al_19, al_20, al_21, al_22, al_23, al_24, al_25, al_26, al_27, al_28, al_29, al_30, al_31, al_32, al_33, al_34, al_35, al_36, al_37, al_38, al_39, al_40, al_41, al_42, al_43, al_44, al_45, al_46, al_47, p2, p3, p4, p5, p6, p7, p8, p10, p11, p15, p16, p17, p18, p19, p20, p21, p22, p23, p25, p26, p27, p32, f10, f25, f26, f27, f28, f29, f30, f31, f32, f33, f34, f35, f36, f37, f38, f39, f40, f41, f42, f43, f44, f45, f46, e35, nI_leI]
      exact ⟨fun _ => h9, fun q => absurd (Nat.le_refl _) q⟩
    | succ d ih =>
      intro k M1 c1 hM1
      have e35 : spMarks l k T 35 l = T 35 l := spMarks_row (by omega) _
      have e36 : spMarks l k T 36 (64 * l + k) = T 36 (64 * l + k) := spMarks_row (by omega) _
      have h300 := h35s k (by omega)
      obtain ⟨p2, p3, p4, p5, p6, p7, p8, p10, p11, p15, p16, p17, p18, p19, p20, p21, p22, p23, p25, p26, p27, p32⟩ := hM1.1.1
      obtain ⟨f10, f25, f26, f27, f28, f29, f30, f31, f32, f33, f34, f35, f36, f37, f38, f39, f40, f41, f42, f43, f44, f45, f46⟩ := hM1.fs
      refine ev_at hC (fun pc => pc == 294 || pc == 329) 9 294 (ls := [some vm, some (vI f), some (vI b), some (vI l), some (vI en), some (vI k), x6, x7, x8]) ?_
      try simp only [↓cb_X10_set_0, ↓cb_X10_set_14, ↓cb_X10_set_32, ↓cb_X10_set_36, ↓cb_X10_set_37, ↓cb_X10_set_45, ↓cb_X10_set_84, ↓cb_X10_set_88, ↓cb_X10_set_96, ↓cb_X10_set_117, ↓cb_X10_set_124, ↓cb_X10_set_151, ↓cb_X10_set_152, ↓cb_X10_set_192, ↓cb_X10_set_193, ↓cb_X10_set_198, ↓cb_X10_set_239, ↓cb_X10_set_285, ↓cb_X10_set_291, ↓cb_X10_set_294, ↓cb_X10_set_329, ↓cb_X10_set_349, ↓cb_X10_set_383, ↓cb_X10_set_417, ↓cb_X10_set_418, ↓te_ald, ↓te_aload, ↓te_ast, ↓te_astC, ↓te_astZ, ↓te_bin, ↓te_call, ↓te_callV, ↓te_const, ↓te_dup, ↓te_dup2, ↓te_getI, ↓te_getP, ↓te_goto, ↓te_icmp, ↓te_if, ↓te_iinc, ↓te_iload, ↓te_iret, ↓te_istore, ↓te_putI, ↓evb_c, ↓evb_n, ↓evk_ap, ↓evm_cut, ↓evm_go, ↓evm_0, ↓jret_v, ↓jret_n, jget, jset, cond_true, cond_false, Nat.reduceBEq, jc1, List.take_succ_cons, List.take_zero, List.drop_succ_cons, List.drop_zero, List.reverse_cons, List.reverse_nil, List.nil_append, List.cons_append, List.length_cons, List.length_nil, Nat.zero_add, Nat.reduceAdd, beq_self_eq_true, true_and, and_true, Nat.reduceLeDiff, Nat.le_refl, Nat.zero_le, Bool.or_true, Bool.true_or, Bool.or_false, Bool.false_or, Bool.or_self]
      try simp (disch := omega) only [Nat.reduceEqDiff, Prod.mk.injEq, Option.some.injEq, true_and, and_true, exists_eq_left', exists_eq_right, exists_and_left, exists_const, true_or, or_true, ne_eq, not_true_eq_false, not_false_eq_true, reduceCtorEq, false_and, and_false, if_true, if_false, forall_const, true_implies, false_implies, implies_true, qI_wI, qI_wP, qP_wI, qP_wP, qN_wI, qN_wP, and_self, nI_add, pk_mul, nI_clamp, vp_in_nI, ng_1, ng_10, nI_eq32, cs_0, cs_1, cs_2, cs_3, cs_4, cs_5, cs_6, cs_7, cs_8, cs_9, cs_10, cs_11, cs_12, cs_13, cs_14, cs_15, cs_16, cs_17, cs_18, cs_19, cs_20, cs_21, cs_22, cs_23, cs_24, cs_25, cs_26, cs_27, cs_28, cs_29, cs_30, cs_31, cs_32, cs_33, cs_34, cs_35, cs_36, cs_37, cs_38, cs_39, cs_40, cs_41, cs_42, cs_43, cs_44, cs_45, cs_46, cs_47, cs_48, cs_49, cs_50, cs_51, cs_52, cs_53, cs_54, cs_55, cs_56, cs_57, cs_58, cs_59, cs_60, cs_61, cs_62, cs_63, cs_64, cs_97, cs_100, cs_122, cs_200, cs_300, cs_448, cs_1000, al_11, al_12, al_13, al_14, al_15, al_16, al_17, al_18, al_19, al_20, al_21, al_22, al_23, al_24, al_25, al_26, al_27, al_28, al_29, al_30, al_31, al_32, al_33, al_34, al_35, al_36, al_37, al_38, al_39, al_40, al_41, al_42, al_43, al_44, al_45, al_46, al_47, p2, p3, p4, p5, p6, p7, p8, p10, p11, p15, p16, p17, p18, p19, p20, p21, p22, p23, p25, p26, p27, p32, f10, f25, f26, f27, f28, f29, f30, f31, f32, f33, f34, f35, f36, f37, f38, f39, f40, f41, f42, f43, f44, f45, f46, e35, e36, nI_leI]
      refine ⟨fun q => absurd q (by omega), fun _ => ?_⟩
      exact ih (k + 1) _ (by omega) (RF.w (r := 27) (k := T 36 (64 * l + k)) (v := 1) (by decide) hM1)
  refine ev_at hC (fun pc => pc == 294) 9 291 (ls := [some vm, some (vI f), some (vI b), some (vI l), some (vI en), x5, x6, x7, x8]) ?_
  try simp only [↓cb_X10_set_0, ↓cb_X10_set_14, ↓cb_X10_set_32, ↓cb_X10_set_36, ↓cb_X10_set_37, ↓cb_X10_set_45, ↓cb_X10_set_84, ↓cb_X10_set_88, ↓cb_X10_set_96, ↓cb_X10_set_117, ↓cb_X10_set_124, ↓cb_X10_set_151, ↓cb_X10_set_152, ↓cb_X10_set_192, ↓cb_X10_set_193, ↓cb_X10_set_198, ↓cb_X10_set_239, ↓cb_X10_set_285, ↓cb_X10_set_291, ↓cb_X10_set_294, ↓cb_X10_set_329, ↓cb_X10_set_349, ↓cb_X10_set_383, ↓cb_X10_set_417, ↓cb_X10_set_418, ↓te_ald, ↓te_aload, ↓te_ast, ↓te_astC, ↓te_astZ, ↓te_bin, ↓te_call, ↓te_callV, ↓te_const, ↓te_dup, ↓te_dup2, ↓te_getI, ↓te_getP, ↓te_goto, ↓te_icmp, ↓te_if, ↓te_iinc, ↓te_iload, ↓te_iret, ↓te_istore, ↓te_putI, ↓evb_c, ↓evb_n, ↓evk_ap, ↓evm_cut, ↓evm_go, ↓evm_0, ↓jret_v, ↓jret_n, jget, jset, cond_true, cond_false, Nat.reduceBEq, jc1, List.take_succ_cons, List.take_zero, List.drop_succ_cons, List.drop_zero, List.reverse_cons, List.reverse_nil, List.nil_append, List.cons_append, List.length_cons, List.length_nil, Nat.zero_add, Nat.reduceAdd, beq_self_eq_true, true_and, and_true, Nat.reduceLeDiff, Nat.le_refl, Nat.zero_le, Bool.or_true, Bool.true_or, Bool.or_false, Bool.false_or, Bool.or_self]
  try simp (disch := omega) only [Nat.reduceEqDiff, Prod.mk.injEq, Option.some.injEq, true_and, and_true, exists_eq_left', exists_eq_right, exists_and_left, exists_const, true_or, or_true, ne_eq, not_true_eq_false, not_false_eq_true, reduceCtorEq, false_and, and_false, if_true, if_false, forall_const, true_implies, false_implies, implies_true, qI_wI, qI_wP, qP_wI, qP_wP, qN_wI, qN_wP, and_self, nI_add, pk_mul, nI_clamp, vp_in_nI, ng_1, ng_10, nI_eq32, cs_0, cs_1, cs_2, cs_3, cs_4, cs_5, cs_6, cs_7, cs_8, cs_9, cs_10, cs_11, cs_12, cs_13, cs_14, cs_15, cs_16, cs_17, cs_18, cs_19, cs_20, cs_21, cs_22, cs_23, cs_24, cs_25, cs_26, cs_27, cs_28, cs_29, cs_30, cs_31, cs_32, cs_33, cs_34, cs_35, cs_36, cs_37, cs_38, cs_39, cs_40, cs_41, cs_42, cs_43, cs_44, cs_45, cs_46, cs_47, cs_48, cs_49, cs_50, cs_51, cs_52, cs_53, cs_54, cs_55, cs_56, cs_57, cs_58, cs_59, cs_60, cs_61, cs_62, cs_63, cs_64, cs_97, cs_100, cs_122, cs_200, cs_300, cs_448, cs_1000, al_11, al_12, al_13, al_14, al_15, al_16, al_17, al_18, al_19, al_20, al_21, al_22, al_23, al_24, al_25, al_26, al_27, al_28, al_29, al_30, al_31, al_32, al_33, al_34, al_35, al_36, al_37, al_38, al_39, al_40, al_41, al_42, al_43, al_44, al_45, al_46, al_47]
  exact k294 (T 35 l) 0 M (Nat.zero_add _) hM
