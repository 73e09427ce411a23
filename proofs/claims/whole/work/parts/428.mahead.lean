/-! THE REFERENCE: ahead -/
section
variable {S T : jS}
theorem spBlanks_c (k : Nat) (h33 : ∀ k, T 33 k = S 33 k) (h12 : T 10 12 = S 10 12) : spBlanks T k = spBlanks S k := by
  unfold spBlanks
  simp only [h33, h12]
theorem spWord_c (k : Nat) (h33 : ∀ k, T 33 k = S 33 k) (h12 : T 10 12 = S 10 12) : spWord T k = spWord S k := by
  unfold spWord
  simp only [h33, h12]
theorem spSigns_c (a b f : Nat) (h33 : ∀ k, T 33 k = S 33 k) : spSigns T a b f = spSigns S a b f := by
  unfold spSigns
  simp only [h33]
theorem spMore_c (f : Nat) (h33 : ∀ k, T 33 k = S 33 k) (h12 : T 10 12 = S 10 12) (h13 : T 10 13 = S 10 13) : ∀ (d w t : Nat), spMore T f d w t = spMore S f d w t
  | 0, _, _ => rfl
  | d + 1, w, t => by
    unfold spMore
    rw [spBlanks_c t h33 h12, spWord_c _ h33 h12, spSigns_c _ _ _ h33, h13, spMore_c f h33 h12 h13 d]
theorem spTo_c (p f : Nat) (h33 : ∀ k, T 33 k = S 33 k) (h12 : T 10 12 = S 10 12) (h13 : T 10 13 = S 10 13) : spTo T p f = spTo S p f := by
  unfold spTo spPart
  rw [spBlanks_c p h33 h12, spWord_c _ h33 h12]
  simp only [spSigns_c _ _ _ h33, h13, spMore_c f h33 h12 h13]
theorem spSplit_c (p f : Nat) (h33 : ∀ k, T 33 k = S 33 k) (h12 : T 10 12 = S 10 12) (h13 : T 10 13 = S 10 13) : spSplit T p f = spSplit S p f := by
  unfold spSplit
  rw [spBlanks_c p h33 h12, spWord_c _ h33 h12]
  simp only [spSigns_c _ _ _ h33, h13]
end
def dec1 (c : Nat → Nat) (k : Nat) : Nat → Nat := fun j => if j = k then c j - 1 else c j
/-- d signs from k on spent of the numbers c: whether they go so far, what is left -/
def ahS (S : jS) (f t : Nat) : Nat → Nat → (Nat → Nat) → Nat × (Nat → Nat)
  | 0, _, c => (1, c)
  | d + 1, k, c => if spSgn S t k = 32 then ahS S f t d (k + 1) c else if c (29 * f + spBox (spSgn S t k)) = 0 then (0, c) else ahS S f t d (k + 1) (dec1 c (29 * f + spBox (spSgn S t k)))
def ahL (S : jS) (f : Nat) : Nat → Nat → Nat → (Nat → Nat) → Nat
  | 0, _, n, _ => n
  | d + 1, p, n, c => if spBlanks S p = spWord S (spBlanks S p) then n else if (ahS S f (spTo S p f) (spTo S p f + spSplit S p f - spBlanks S p) (spBlanks S p) c).1 = 0 then n else ahL S f d (spTo S p f) (n + 1) (ahS S f (spTo S p f) (spTo S p f + spSplit S p f - spBlanks S p) (spBlanks S p) c).2
def sf_aheadR (S : jS) (x : Int32) : Nat × Int32 := if inR x 0 1 then (0, nI (ahL S (jn x) 61 0 0 (S 30))) else (1, 0)
/-- the state while numbers are spent -/
def AH (S T : jS) (c : Nat → Nat) : Prop := (∀ a b, ¬ (a = 46 ∨ a = 30 ∨ (a = 10 ∧ (b = 0 ∨ 29 ≤ b))) → T a b = S a b) ∧ (∀ k, T 30 k = c k) ∧ (∀ k, c k ≤ S 30 k) ∧ (∀ k, k < 58 → T 46 k = S 30 k) ∧ (∀ k, 58 ≤ k → c k = S 30 k)
theorem AH.facts {S T : jS} {c : Nat → Nat} (hW : Wf S) (h : AH S T c) : (∀ k, T 33 k = S 33 k) ∧ T 10 12 = S 10 12 ∧ T 10 13 = S 10 13 ∧ FOK T ∧ POK T ∧ TXT T ∧ (∀ k, k < 58 → T 30 k ≤ T 46 k ∧ T 46 k ≤ 300) ∧ ∀ k i, k < 58 → i < T 46 k → T 29 (300 * k + i) < 300 := by
  obtain ⟨h1, h2, h3, h4, h5⟩ := h
  have hn := hW.1.1.1
  have e33 : ∀ k, T 33 k = S 33 k := fun k => h1 33 k (by omega)
  have e12 := h1 10 12 (by omega)
  have hc : ∀ k, k < 58 → S 30 k ≤ 300 := fun k hk => by have := hW.1.2.2.cnt hk; omega
  have hp : ∀ k i, k < 58 → i < S 30 k → T 29 (300 * k + i) < 300 := fun k i hk hi => by
    have := (hW.1.2.2.pile hk hi).1
    rw [h1 29 _ (by omega)]
    omega
  refine ⟨e33, e12, h1 10 13 (by omega), fun s => by rw [h1 25 s (by omega)]; exact hW.1.1.2.2.1 s, ⟨fun k hk => ?_, fun k i hk hi => ?_⟩, hW.1.1.2.1.eq e12 e33, fun k hk => ?_, fun k i hk hi => ?_⟩
  · have := h3 k; have := hc k hk; rw [h2]; omega
  · rw [h2] at hi
    have := h3 k
    exact hp k i hk (by omega)
  · have := h3 k; have := hc k hk; rw [h2, h4 k hk]; omega
  · rw [h4 k hk] at hi
    exact hp k i hk hi
theorem AH.row10 {S T T' : jS} {c : Nat → Nat} (h : AH S T c) (h10 : ∀ b, ¬ (b = 0 ∨ 29 ≤ b) → T' 10 b = T 10 b) (hr : ∀ a b, ¬ a = 10 → T' a b = T a b) : AH S T' c := by
  obtain ⟨h1, h2, h3, h4, h5⟩ := h
  refine ⟨fun a b hab => ?_, fun k => by rw [hr 30 k (by omega)]; exact h2 k, h3, fun k hk => by rw [hr 46 k (by omega)]; exact h4 k hk, h5⟩
  by_cases e : a = 10
  · subst e
    rw [h10 b (by omega)]
    exact h1 10 b hab
  · rw [hr a b e]
    exact h1 a b hab
theorem AH.ft {S T : jS} {c : Nat → Nat} {x y z : Nat} (h : AH S T c) : AH S (spFT T x y z) c := h.row10 (fun b hb => by
    unfold spFT
    rw [sw_at, if_neg (by omega), sw_at, if_neg (by omega), sw_at, if_neg (by omega)]) (fun a b ha => by
    unfold spFT
    rw [sw_at, if_neg (by omega), sw_at, if_neg (by omega), sw_at, if_neg (by omega)])
theorem AH.take {S T : jS} {c : Nat → Nat} {k : Nat} (h : AH S T c) (hk : k < 58) : AH S (spTake T k) (dec1 c k) := by
  obtain ⟨h1, h2, h3, h4, h5⟩ := h
  have er : ∀ a b, ¬ (a = 30 ∧ b = k) → spTake T k a b = T a b := fun a b hab => by
    show sw T 30 k (T 30 k - 1) a b = _
    rw [sw_at, if_neg hab]
  refine ⟨fun a b hab => by rw [er a b (by omega)]; exact h1 a b hab, fun j => ?_, fun j => ?_, fun j hj => by rw [er 46 j (by omega)]; exact h4 j hj, fun j hj => ?_⟩
  · unfold dec1
    by_cases e : j = k
    · rw [if_pos e, e]
      show sw T 30 k (T 30 k - 1) 30 k = _
      rw [sw_at, if_pos ⟨rfl, rfl⟩, h2]
    · rw [if_neg e, er 30 j (by omega)]
      exact h2 j
  · have := h3 j
    unfold dec1
    split <;> omega
  · unfold dec1
    rw [if_neg (by omega)]
    exact h5 j hj
theorem AH_back {S T S' : jS} {c : Nat → Nat} {l : Nat} (hW : Wf S) (h : AH S T c) (hB : spBring T S' 58) : SL S S' l := by
  obtain ⟨h1, h2, h3, h4, h5⟩ := h
  intro a b hab
  by_cases e28 : a = 28
  · subst e28
    have e : T 28 b = S 28 b := h1 28 b (by omega)
    rcases hB.2.1 b with z | ⟨z, k1, i1, z1, z2, z3, z4⟩
    · exact z.trans e
    · rw [h4 k1 z1] at z3
      have z6 := (hW.1.2.1.1 k1 i1 z1 z3).2
      rw [h1 29 _ (by omega)] at z4
      rw [← z4] at z6
      rw [z, z6]
  · rw [hB.1 a b e28]
    by_cases e30 : a = 30
    · subst e30
      by_cases q : b < 58
      · rw [if_pos ⟨rfl, q⟩]; exact h4 b q
      · rw [if_neg (by omega), h2, h5 b (by omega)]
    · rw [if_neg (by omega)]
      exact h1 a b (by omega)
/-- what the place where a line ends is, from any place on -/
theorem spTo_at {S : jS} {f p : Nat} (hT : TXT S) (hm : 20 ≤ S 10 13) (hf : f < 2) (hp : p ≤ S 10 12) (hne : ¬ spBlanks S p = spWord S (spBlanks S p)) : p ≤ spBlanks S p ∧ spBlanks S p < spTo S p f ∧ spTo S p f ≤ S 10 12 ∧ (spSplit S p f = 0 ∨ (spSplit S p f = 1 ∧ spTo S p f < S 10 12)) := by
  have h0 := spBlanks_ge S p
  have h1 := spBlanks_le S hp
  have h2 := spWord_ge S (spBlanks S p)
  have h3 := spWord_le S h1
  have hall : ∀ k, spBlanks S p ≤ k → k < spWord S (spBlanks S p) → ¬ S 33 k = 32 := fun k q1 q2 => spWord_all S q1 q2
  unfold spTo spSplit
  rw [if_neg hne, if_neg hne]
  by_cases hw : S 10 13 < spSigns S (spBlanks S p) (spWord S (spBlanks S p)) f
  · rw [if_pos hw, if_pos hw]
    generalize hfr : spBlanks S p = fr at *
    generalize htw : spWord S fr = tw at *
    have e6 : spSigns S fr tw f ≤ 7 * (tw - fr) := sumr_le _ (fun k q1 q2 => spFw_le (by have := (hT.2.2 k (by omega)).box (hall k q1 (by omega)); omega))
    have p1 : fr + 1 ≤ spPart S fr tw f := scan_ge _ _
    have p2 : ∀ d b, b + 1 ≤ tw → scan (fun b => decide (b + 1 < tw ∧ spSigns S fr (b + 1) f + spFw (29 * f + 28) ≤ S 10 13)) d b + 1 ≤ tw := by
      intro d
      induction d with
      | zero => intro b hb; exact hb
      | succ d ih =>
        intro b hb
        unfold scan
        split
        · rename_i q
          simp only [decide_eq_true_eq] at q
          exact ih (b + 1) (by omega)
        · exact hb
    have p3 : spPart S fr tw f + 1 ≤ tw := p2 (tw - fr) (fr + 1) (by omega)
    exact ⟨h0, by omega, by omega, Or.inr ⟨rfl, by omega⟩⟩
  · rw [if_neg hw, if_neg hw]
    have q : ∀ d w t, spBlanks S p < t → t ≤ S 10 12 → spBlanks S p < spMore S f d w t ∧ spMore S f d w t ≤ S 10 12 := by
      intro d
      induction d with
      | zero => intro w t q1 q2; exact ⟨q1, q2⟩
      | succ d ih =>
        intro w t q1 q2
        unfold spMore
        have r1 := spBlanks_ge S t
        have r2 := spBlanks_le S q2
        have r3 := spWord_ge S (spBlanks S t)
        have r4 := spWord_le S r2
        split
        · exact ih _ _ (by omega) r4
        · exact ⟨q1, q2⟩
    have p1 := q 61 (spSigns S (spBlanks S p) (spWord S (spBlanks S p)) f) (spWord S (spBlanks S p)) (by omega) h3
    exact ⟨h0, p1.1, p1.2, Or.inl rfl⟩
set_option maxRecDepth 20000 in
set_option maxHeartbeats 20000000 in
theorem mm_ahead_sp (G : jx_G) {M0 : jx_M} {S : jS} {Q : jx_O → jx_M → Prop} {Wn : jx_J} (hC : Cl (cd_X10_ahead G) Q Wn) {f n p t en : Nat} (hW : Wf S) (hf : f < 2) (ht : t ≤ S 10 12) (hen : en = t ∨ (en = t + 1 ∧ t < S 10 12)) : ∀ (d k : Nat) (M : jx_M) (T : jS) (c : Nat → Nat) (x7 : Option jx_V), k + d = en → RF M0 M T → AH S T c → T 10 30 = t → T 10 0 = 0 → (∀ (M : jx_M) (T : jS) (x5 x6 x7 : Option jx_V), RF M0 M T → AH S T (ahS S f t d k c).2 → T 10 30 = t → T 10 0 = 0 → Wn 147 [some vm, some (vI f), some (vI n), some (vI p), some (vI (ahS S f t d k c).1), x5, x6, x7] [] M 0 0) → Wn 72 [some vm, some (vI f), some (vI n), some (vI p), some (vI 1), some (vI en), some (vI k), x7] [] M 0 0 := by
  have hn12 := hW.1.1.2.1.1
  have hj := jNo_v
  intro d
  induction d with
  | zero =>
    intro k M T c x7 g1 hM hA h30 h00 next
    have g2 : k = en := by omega
    subst g2
    have h9 := next M T (some (vI k)) (some (vI k)) x7 hM hA h30 h00
    refine ev_at hC (fun pc => pc == 72 || pc == 105 || pc == 147 || pc == 98) 9 72 (ls := [some vm, some (vI f), some (vI n), some (vI p), some (vI 1), some (vI k), some (vI k), x7]) ?_
    try simp only [↓cb_X10_ahead_0, ↓cb_X10_ahead_14, ↓cb_X10_ahead_15, ↓cb_X10_ahead_23, ↓cb_X10_ahead_39, ↓cb_X10_ahead_60, ↓cb_X10_ahead_64, ↓cb_X10_ahead_72, ↓cb_X10_ahead_98, ↓cb_X10_ahead_105, ↓cb_X10_ahead_134, ↓cb_X10_ahead_138, ↓cb_X10_ahead_139, ↓cb_X10_ahead_147, ↓cb_X10_ahead_157, ↓cb_X10_ahead_158, ↓cb_X10_ahead_181, ↓cb_X10_ahead_182, ↓cb_X10_ahead_187, ↓te_ald, ↓te_aload, ↓te_bin, ↓te_call, ↓te_callV, ↓te_const, ↓te_getI, ↓te_getP, ↓te_goto, ↓te_icmp, ↓te_if, ↓te_iinc, ↓te_iload, ↓te_iret, ↓te_istore, ↓evb_c, ↓evb_n, ↓evk_ap, ↓evm_cut, ↓evm_go, ↓evm_0, ↓jret_v, ↓jret_n, jget, jset, cond_true, cond_false, Nat.reduceBEq, jc1, List.take_succ_cons, List.take_zero, List.drop_succ_cons, List.drop_zero, List.reverse_cons, List.reverse_nil, List.nil_append, List.cons_append, List.length_cons, List.length_nil, Nat.zero_add, Nat.reduceAdd, beq_self_eq_true, true_and, and_true, Nat.reduceLeDiff, Nat.le_refl, Nat.zero_le, Bool.or_true, Bool.true_or, Bool.or_false, Bool.false_or, Bool.or_self]
    try simp (disch := omega) only [Nat.reduceEqDiff, Prod.mk.injEq, Option.some.injEq, true_and, and_true, exists_eq_left', exists_eq_right, exists_and_left, exists_const, true_or, or_true, ne_eq, not_true_eq_false, not_false_eq_true, reduceCtorEq, false_and, and_false, if_true, if_false, forall_const, true_implies, false_implies, implies_true, qI_wI, qI_wP, qP_wI, qP_wP, qN_wI, qN_wP, and_self, nI_add, pk_mul, nI_clamp, vp_in_nI, ng_1, ng_10, nI_eq32, cs_0, cs_1, cs_2, cs_3, cs_4, cs_5, cs_6, cs_7, cs_8, cs_9, cs_10, cs_11, cs_12, cs_13, cs_14, cs_15, cs_16, cs_17, cs_18, cs_19, cs_20, cs_21, cs_22, cs_23, cs_24, cs_25, cs_26, cs_27, cs_28, cs_29, cs_30, cs_31, cs_32, cs_33, cs_34, cs_35, cs_36, cs_37, cs_38, cs_39, cs_40, cs_41, cs_42, cs_43, cs_44, cs_45, cs_46, cs_47, cs_48, cs_49, cs_50, cs_51, cs_52, cs_53, cs_54, cs_55, cs_56, cs_57, cs_58, cs_59, cs_60, cs_61, cs_62, cs_63, cs_64, cs_97, cs_100, cs_122, cs_200, cs_300, cs_448, cs_1000, al_11, al_12, al_13, al_14, al_15, al_16, al_17, al_18, al_19, al_20, al_21, al_22, al_23, al_24, al_25, al_26, al_27, al_28, al_29, al_30, al_31, al_32, al_33, al_34, al_35, al_36, al_37, al_38, al_39, al_40, al_41, al_42, al_43, al_44, al_45, al_46, al_47, nI_leI]
    exact ⟨fun _ => h9, fun q => absurd (Nat.le_refl k) q⟩
  | succ d ih =>
    intro k M T c x7 g1 hM hA h30 h00 next
    obtain ⟨t33, t12, t13, tF, tP, tT, t46, t29⟩ := hA.facts hW
    have hok := spSgn_ok (k := k) tT (show t ≤ T 10 12 by omega) (by omega)
    have esg : spSgn T t k = spSgn S t k := by unfold spSgn; rw [t33]
    rw [esg] at hok
    have hu : ahS S f t (d + 1) k c = if spSgn S t k = 32 then ahS S f t d (k + 1) c else if c (29 * f + spBox (spSgn S t k)) = 0 then (0, c) else ahS S f t d (k + 1) (dec1 c (29 * f + spBox (spSgn S t k))) := rfl
    have k139 : ∀ (M2 : jx_M) (T2 : jS) (c2 : Nat → Nat) (x7 : Option jx_V), RF M0 M2 T2 → AH S T2 c2 → T2 10 30 = t → T2 10 0 = 0 → ahS S f t (d + 1) k c = ahS S f t d (k + 1) c2 → Wn 139 [some vm, some (vI f), some (vI n), some (vI p), some (vI 1), some (vI en), some (vI k), x7] [vI 1] M2 0 0 := by
      intro M2 T2 c2 x7 hM2 hA2 h302 h002 hr
      rw [hr] at next
      refine ev_at hC (fun pc => pc == 72) 9 139 (ls := [some vm, some (vI f), some (vI n), some (vI p), some (vI 1), some (vI en), some (vI k), x7]) ?_
      try simp only [↓cb_X10_ahead_0, ↓cb_X10_ahead_14, ↓cb_X10_ahead_15, ↓cb_X10_ahead_23, ↓cb_X10_ahead_39, ↓cb_X10_ahead_60, ↓cb_X10_ahead_64, ↓cb_X10_ahead_72, ↓cb_X10_ahead_98, ↓cb_X10_ahead_105, ↓cb_X10_ahead_134, ↓cb_X10_ahead_138, ↓cb_X10_ahead_139, ↓cb_X10_ahead_147, ↓cb_X10_ahead_157, ↓cb_X10_ahead_158, ↓cb_X10_ahead_181, ↓cb_X10_ahead_182, ↓cb_X10_ahead_187, ↓te_ald, ↓te_aload, ↓te_bin, ↓te_call, ↓te_callV, ↓te_const, ↓te_getI, ↓te_getP, ↓te_goto, ↓te_icmp, ↓te_if, ↓te_iinc, ↓te_iload, ↓te_iret, ↓te_istore, ↓evb_c, ↓evb_n, ↓evk_ap, ↓evm_cut, ↓evm_go, ↓evm_0, ↓jret_v, ↓jret_n, jget, jset, cond_true, cond_false, Nat.reduceBEq, jc1, List.take_succ_cons, List.take_zero, List.drop_succ_cons, List.drop_zero, List.reverse_cons, List.reverse_nil, List.nil_append, List.cons_append, List.length_cons, List.length_nil, Nat.zero_add, Nat.reduceAdd, beq_self_eq_true, true_and, and_true, Nat.reduceLeDiff, Nat.le_refl, Nat.zero_le, Bool.or_true, Bool.true_or, Bool.or_false, Bool.false_or, Bool.or_self]
      try simp (disch := omega) only [Nat.reduceEqDiff, Prod.mk.injEq, Option.some.injEq, true_and, and_true, exists_eq_left', exists_eq_right, exists_and_left, exists_const, true_or, or_true, ne_eq, not_true_eq_false, not_false_eq_true, reduceCtorEq, false_and, and_false, if_true, if_false, forall_const, true_implies, false_implies, implies_true, qI_wI, qI_wP, qP_wI, qP_wP, qN_wI, qN_wP, and_self, nI_add, pk_mul, nI_clamp, vp_in_nI, ng_1, ng_10, nI_eq32, cs_0, cs_1, cs_2, cs_3, cs_4, cs_5, cs_6, cs_7, cs_8, cs_9, cs_10, cs_11, cs_12, cs_13, cs_14, cs_15, cs_16, cs_17, cs_18, cs_19, cs_20, cs_21, cs_22, cs_23, cs_24, cs_25, cs_26, cs_27, cs_28, cs_29, cs_30, cs_31, cs_32, cs_33, cs_34, cs_35, cs_36, cs_37, cs_38, cs_39, cs_40, cs_41, cs_42, cs_43, cs_44, cs_45, cs_46, cs_47, cs_48, cs_49, cs_50, cs_51, cs_52, cs_53, cs_54, cs_55, cs_56, cs_57, cs_58, cs_59, cs_60, cs_61, cs_62, cs_63, cs_64, cs_97, cs_100, cs_122, cs_200, cs_300, cs_448, cs_1000, al_11, al_12, al_13, al_14, al_15, al_16, al_17, al_18, al_19, al_20, al_21, al_22, al_23, al_24, al_25, al_26, al_27, al_28, al_29, al_30, al_31, al_32, al_33, al_34, al_35, al_36, al_37, al_38, al_39, al_40, al_41, al_42, al_43, al_44, al_45, al_46, al_47]
      exact ih (k + 1) M2 T2 c2 _ (by omega) hM2 hA2 h302 h002 next
    have k105 : ∀ (q : Nat) (x7 : Option jx_V), q = spSgn S t k → Wn 105 [some vm, some (vI f), some (vI n), some (vI p), some (vI 1), some (vI en), some (vI k), x7] [vI q] M 0 0 := by
      intro q x7 hq
      rw [← hq] at hok hu
      have hcl := hok.lt
      by_cases q32 : q = 32
      · rw [if_pos q32] at hu
        have h9 := k139 M T c (some (vI q)) hM hA h30 h00 hu
        subst q32
        refine ev_at hC (fun pc => pc == 139) 9 105 (ls := [some vm, some (vI f), some (vI n), some (vI p), some (vI 1), some (vI en), some (vI k), x7]) ?_
        try simp only [↓cb_X10_ahead_0, ↓cb_X10_ahead_14, ↓cb_X10_ahead_15, ↓cb_X10_ahead_23, ↓cb_X10_ahead_39, ↓cb_X10_ahead_60, ↓cb_X10_ahead_64, ↓cb_X10_ahead_72, ↓cb_X10_ahead_98, ↓cb_X10_ahead_105, ↓cb_X10_ahead_134, ↓cb_X10_ahead_138, ↓cb_X10_ahead_139, ↓cb_X10_ahead_147, ↓cb_X10_ahead_157, ↓cb_X10_ahead_158, ↓cb_X10_ahead_181, ↓cb_X10_ahead_182, ↓cb_X10_ahead_187, ↓te_ald, ↓te_aload, ↓te_bin, ↓te_call, ↓te_callV, ↓te_const, ↓te_getI, ↓te_getP, ↓te_goto, ↓te_icmp, ↓te_if, ↓te_iinc, ↓te_iload, ↓te_iret, ↓te_istore, ↓evb_c, ↓evb_n, ↓evk_ap, ↓evm_cut, ↓evm_go, ↓evm_0, ↓jret_v, ↓jret_n, jget, jset, cond_true, cond_false, Nat.reduceBEq, jc1, List.take_succ_cons, List.take_zero, List.drop_succ_cons, List.drop_zero, List.reverse_cons, List.reverse_nil, List.nil_append, List.cons_append, List.length_cons, List.length_nil, Nat.zero_add, Nat.reduceAdd, beq_self_eq_true, true_and, and_true, Nat.reduceLeDiff, Nat.le_refl, Nat.zero_le, Bool.or_true, Bool.true_or, Bool.or_false, Bool.false_or, Bool.or_self]
        try simp (disch := omega) only [Nat.reduceEqDiff, Prod.mk.injEq, Option.some.injEq, true_and, and_true, exists_eq_left', exists_eq_right, exists_and_left, exists_const, true_or, or_true, ne_eq, not_true_eq_false, not_false_eq_true, reduceCtorEq, false_and, and_false, if_true, if_false, forall_const, true_implies, false_implies, implies_true, qI_wI, qI_wP, qP_wI, qP_wP, qN_wI, qN_wP, and_self, nI_add, pk_mul, nI_clamp, vp_in_nI, ng_1, ng_10, nI_eq32, cs_0, cs_1, cs_2, cs_3, cs_4, cs_5, cs_6, cs_7, cs_8, cs_9, cs_10, cs_11, cs_12, cs_13, cs_14, cs_15, cs_16, cs_17, cs_18, cs_19, cs_20, cs_21, cs_22, cs_23, cs_24, cs_25, cs_26, cs_27, cs_28, cs_29, cs_30, cs_31, cs_32, cs_33, cs_34, cs_35, cs_36, cs_37, cs_38, cs_39, cs_40, cs_41, cs_42, cs_43, cs_44, cs_45, cs_46, cs_47, cs_48, cs_49, cs_50, cs_51, cs_52, cs_53, cs_54, cs_55, cs_56, cs_57, cs_58, cs_59, cs_60, cs_61, cs_62, cs_63, cs_64, cs_97, cs_100, cs_122, cs_200, cs_300, cs_448, cs_1000, al_11, al_12, al_13, al_14, al_15, al_16, al_17, al_18, al_19, al_20, al_21, al_22, al_23, al_24, al_25, al_26, al_27, al_28, al_29, al_30, al_31, al_32, al_33, al_34, al_35, al_36, al_37, al_38, al_39, al_40, al_41, al_42, al_43, al_44, al_45, al_46, al_47]
        first
          | exact h9
          | exact ⟨fun _ => h9, fun z => absurd rfl z⟩
      · rw [if_neg q32] at hu
        have hbx := hok.box q32
        have h97 : q = 46 ∨ q = 44 ∨ q = 45 ∨ 97 ≤ q := by unfold okc at hok; omega
        have hc30 := hA.2.1 (29 * f + spBox q)
        refine ev_at hC (fun pc => pc == 139 || pc == 134 || pc == 138) 9 105 (ls := [some vm, some (vI f), some (vI n), some (vI p), some (vI 1), some (vI en), some (vI k), x7]) ?_
        try simp only [↓cb_X10_ahead_0, ↓cb_X10_ahead_14, ↓cb_X10_ahead_15, ↓cb_X10_ahead_23, ↓cb_X10_ahead_39, ↓cb_X10_ahead_60, ↓cb_X10_ahead_64, ↓cb_X10_ahead_72, ↓cb_X10_ahead_98, ↓cb_X10_ahead_105, ↓cb_X10_ahead_134, ↓cb_X10_ahead_138, ↓cb_X10_ahead_139, ↓cb_X10_ahead_147, ↓cb_X10_ahead_157, ↓cb_X10_ahead_158, ↓cb_X10_ahead_181, ↓cb_X10_ahead_182, ↓cb_X10_ahead_187, ↓te_ald, ↓te_aload, ↓te_bin, ↓te_call, ↓te_callV, ↓te_const, ↓te_getI, ↓te_getP, ↓te_goto, ↓te_icmp, ↓te_if, ↓te_iinc, ↓te_iload, ↓te_iret, ↓te_istore, ↓evb_c, ↓evb_n, ↓evk_ap, ↓evm_cut, ↓evm_go, ↓evm_0, ↓jret_v, ↓jret_n, jget, jset, cond_true, cond_false, Nat.reduceBEq, jc1, List.take_succ_cons, List.take_zero, List.drop_succ_cons, List.drop_zero, List.reverse_cons, List.reverse_nil, List.nil_append, List.cons_append, List.length_cons, List.length_nil, Nat.zero_add, Nat.reduceAdd, beq_self_eq_true, true_and, and_true, Nat.reduceLeDiff, Nat.le_refl, Nat.zero_le, Bool.or_true, Bool.true_or, Bool.or_false, Bool.false_or, Bool.or_self]
        try simp (disch := omega) only [Nat.reduceEqDiff, Prod.mk.injEq, Option.some.injEq, true_and, and_true, exists_eq_left', exists_eq_right, exists_and_left, exists_const, true_or, or_true, ne_eq, not_true_eq_false, not_false_eq_true, reduceCtorEq, false_and, and_false, if_true, if_false, forall_const, true_implies, false_implies, implies_true, qI_wI, qI_wP, qP_wI, qP_wP, qN_wI, qN_wP, and_self, nI_add, pk_mul, nI_clamp, vp_in_nI, ng_1, ng_10, nI_eq32, cs_0, cs_1, cs_2, cs_3, cs_4, cs_5, cs_6, cs_7, cs_8, cs_9, cs_10, cs_11, cs_12, cs_13, cs_14, cs_15, cs_16, cs_17, cs_18, cs_19, cs_20, cs_21, cs_22, cs_23, cs_24, cs_25, cs_26, cs_27, cs_28, cs_29, cs_30, cs_31, cs_32, cs_33, cs_34, cs_35, cs_36, cs_37, cs_38, cs_39, cs_40, cs_41, cs_42, cs_43, cs_44, cs_45, cs_46, cs_47, cs_48, cs_49, cs_50, cs_51, cs_52, cs_53, cs_54, cs_55, cs_56, cs_57, cs_58, cs_59, cs_60, cs_61, cs_62, cs_63, cs_64, cs_97, cs_100, cs_122, cs_200, cs_300, cs_448, cs_1000, al_11, al_12, al_13, al_14, al_15, al_16, al_17, al_18, al_19, al_20, al_21, al_22, al_23, al_24, al_25, al_26, al_27, al_28, al_29, al_30, al_31, al_32, al_33, al_34, al_35, al_36, al_37, al_38, al_39, al_40, al_41, al_42, al_43, al_44, al_45, al_46, al_47]
        have go : Mt G m_X10_boxOf [vI q] M (jret (evk [ti_bin fun x y => x + y, ti_iload 1, ti_const 0, ti_callV G m_X10_pick 10 3 0 0 0 0, ti_const (-1), ti_icmp (fun x y => x = y) 138] (evm (cd_X10_ahead G) (fun pc => pc == 139 || pc == 134 || pc == 138) Q Wn 9) Q (evm (cd_X10_ahead G) (fun pc => pc == 139 || pc == 134 || pc == 138) Q Wn 9 134)) [some vm, some (vI f), some (vI n), some (vI p), some (vI 1), some (vI en), some (vI k), some (vI q)] [vI (29 * f), vm] 0 0) := by
          refine mm_boxOf G (by omega) h97 ?_
          try simp only [↓cb_X10_ahead_0, ↓cb_X10_ahead_14, ↓cb_X10_ahead_15, ↓cb_X10_ahead_23, ↓cb_X10_ahead_39, ↓cb_X10_ahead_60, ↓cb_X10_ahead_64, ↓cb_X10_ahead_72, ↓cb_X10_ahead_98, ↓cb_X10_ahead_105, ↓cb_X10_ahead_134, ↓cb_X10_ahead_138, ↓cb_X10_ahead_139, ↓cb_X10_ahead_147, ↓cb_X10_ahead_157, ↓cb_X10_ahead_158, ↓cb_X10_ahead_181, ↓cb_X10_ahead_182, ↓cb_X10_ahead_187, ↓te_ald, ↓te_aload, ↓te_bin, ↓te_call, ↓te_callV, ↓te_const, ↓te_getI, ↓te_getP, ↓te_goto, ↓te_icmp, ↓te_if, ↓te_iinc, ↓te_iload, ↓te_iret, ↓te_istore, ↓evb_c, ↓evb_n, ↓evk_ap, ↓evm_cut, ↓evm_go, ↓evm_0, ↓jret_v, ↓jret_n, jget, jset, cond_true, cond_false, Nat.reduceBEq, jc1, List.take_succ_cons, List.take_zero, List.drop_succ_cons, List.drop_zero, List.reverse_cons, List.reverse_nil, List.nil_append, List.cons_append, List.length_cons, List.length_nil, Nat.zero_add, Nat.reduceAdd, beq_self_eq_true, true_and, and_true, Nat.reduceLeDiff, Nat.le_refl, Nat.zero_le, Bool.or_true, Bool.true_or, Bool.or_false, Bool.false_or, Bool.or_self]
          try simp (disch := omega) only [Nat.reduceEqDiff, Prod.mk.injEq, Option.some.injEq, true_and, and_true, exists_eq_left', exists_eq_right, exists_and_left, exists_const, true_or, or_true, ne_eq, not_true_eq_false, not_false_eq_true, reduceCtorEq, false_and, and_false, if_true, if_false, forall_const, true_implies, false_implies, implies_true, qI_wI, qI_wP, qP_wI, qP_wP, qN_wI, qN_wP, and_self, nI_add, pk_mul, nI_clamp, vp_in_nI, ng_1, ng_10, nI_eq32, cs_0, cs_1, cs_2, cs_3, cs_4, cs_5, cs_6, cs_7, cs_8, cs_9, cs_10, cs_11, cs_12, cs_13, cs_14, cs_15, cs_16, cs_17, cs_18, cs_19, cs_20, cs_21, cs_22, cs_23, cs_24, cs_25, cs_26, cs_27, cs_28, cs_29, cs_30, cs_31, cs_32, cs_33, cs_34, cs_35, cs_36, cs_37, cs_38, cs_39, cs_40, cs_41, cs_42, cs_43, cs_44, cs_45, cs_46, cs_47, cs_48, cs_49, cs_50, cs_51, cs_52, cs_53, cs_54, cs_55, cs_56, cs_57, cs_58, cs_59, cs_60, cs_61, cs_62, cs_63, cs_64, cs_97, cs_100, cs_122, cs_200, cs_300, cs_448, cs_1000, al_11, al_12, al_13, al_14, al_15, al_16, al_17, al_18, al_19, al_20, al_21, al_22, al_23, al_24, al_25, al_26, al_27, al_28, al_29, al_30, al_31, al_32, al_33, al_34, al_35, al_36, al_37, al_38, al_39, al_40, al_41, al_42, al_43, al_44, al_45, al_46, al_47]
          refine mm_pick G (af := 29 * f + spBox q) (font := f) (turns := 0) (by omega) hf (by omega) tP tF hM (fun M2 hM2 => ?_)
          by_cases h0 : c (29 * f + spBox q) = 0
          · rw [if_pos h0] at hu
            have hp : spPickAt T (29 * f + spBox q) f 0 = jNo := by unfold spPickAt; rw [if_neg (by omega), if_pos rfl]
            have eT : spPick T (29 * f + spBox q) f 0 = T := by unfold spPick; rw [if_neg (by omega), if_pos hp]
            rw [eT] at hM2
            rw [if_pos hp]
            have k138 : Wn 138 [some vm, some (vI f), some (vI n), some (vI p), some (vI 1), some (vI en), some (vI k), some (vI q)] [] M2 0 0 := by
              rw [hu] at next
              have h9 := next M2 T (some (vI en)) (some (vI (k + 1))) (some (vI q)) hM2 hA h30 h00
              refine ev_at hC (fun pc => pc == 72) 9 138 (ls := [some vm, some (vI f), some (vI n), some (vI p), some (vI 1), some (vI en), some (vI k), some (vI q)]) ?_
              try simp only [↓cb_X10_ahead_0, ↓cb_X10_ahead_14, ↓cb_X10_ahead_15, ↓cb_X10_ahead_23, ↓cb_X10_ahead_39, ↓cb_X10_ahead_60, ↓cb_X10_ahead_64, ↓cb_X10_ahead_72, ↓cb_X10_ahead_98, ↓cb_X10_ahead_105, ↓cb_X10_ahead_134, ↓cb_X10_ahead_138, ↓cb_X10_ahead_139, ↓cb_X10_ahead_147, ↓cb_X10_ahead_157, ↓cb_X10_ahead_158, ↓cb_X10_ahead_181, ↓cb_X10_ahead_182, ↓cb_X10_ahead_187, ↓te_ald, ↓te_aload, ↓te_bin, ↓te_call, ↓te_callV, ↓te_const, ↓te_getI, ↓te_getP, ↓te_goto, ↓te_icmp, ↓te_if, ↓te_iinc, ↓te_iload, ↓te_iret, ↓te_istore, ↓evb_c, ↓evb_n, ↓evk_ap, ↓evm_cut, ↓evm_go, ↓evm_0, ↓jret_v, ↓jret_n, jget, jset, cond_true, cond_false, Nat.reduceBEq, jc1, List.take_succ_cons, List.take_zero, List.drop_succ_cons, List.drop_zero, List.reverse_cons, List.reverse_nil, List.nil_append, List.cons_append, List.length_cons, List.length_nil, Nat.zero_add, Nat.reduceAdd, beq_self_eq_true, true_and, and_true, Nat.reduceLeDiff, Nat.le_refl, Nat.zero_le, Bool.or_true, Bool.true_or, Bool.or_false, Bool.false_or, Bool.or_self]
              try simp (disch := omega) only [Nat.reduceEqDiff, Prod.mk.injEq, Option.some.injEq, true_and, and_true, exists_eq_left', exists_eq_right, exists_and_left, exists_const, true_or, or_true, ne_eq, not_true_eq_false, not_false_eq_true, reduceCtorEq, false_and, and_false, if_true, if_false, forall_const, true_implies, false_implies, implies_true, qI_wI, qI_wP, qP_wI, qP_wP, qN_wI, qN_wP, and_self, nI_add, pk_mul, nI_clamp, vp_in_nI, ng_1, ng_10, nI_eq32, cs_0, cs_1, cs_2, cs_3, cs_4, cs_5, cs_6, cs_7, cs_8, cs_9, cs_10, cs_11, cs_12, cs_13, cs_14, cs_15, cs_16, cs_17, cs_18, cs_19, cs_20, cs_21, cs_22, cs_23, cs_24, cs_25, cs_26, cs_27, cs_28, cs_29, cs_30, cs_31, cs_32, cs_33, cs_34, cs_35, cs_36, cs_37, cs_38, cs_39, cs_40, cs_41, cs_42, cs_43, cs_44, cs_45, cs_46, cs_47, cs_48, cs_49, cs_50, cs_51, cs_52, cs_53, cs_54, cs_55, cs_56, cs_57, cs_58, cs_59, cs_60, cs_61, cs_62, cs_63, cs_64, cs_97, cs_100, cs_122, cs_200, cs_300, cs_448, cs_1000, al_11, al_12, al_13, al_14, al_15, al_16, al_17, al_18, al_19, al_20, al_21, al_22, al_23, al_24, al_25, al_26, al_27, al_28, al_29, al_30, al_31, al_32, al_33, al_34, al_35, al_36, al_37, al_38, al_39, al_40, al_41, al_42, al_43, al_44, al_45, al_46, al_47]
              refine ev_at hC (fun pc => pc == 147 || pc == 98 || pc == 105) 9 72 (ls := [some vm, some (vI f), some (vI n), some (vI p), some (vI 0), some (vI en), some (vI (k + 1)), some (vI q)]) ?_
              try simp only [↓cb_X10_ahead_0, ↓cb_X10_ahead_14, ↓cb_X10_ahead_15, ↓cb_X10_ahead_23, ↓cb_X10_ahead_39, ↓cb_X10_ahead_60, ↓cb_X10_ahead_64, ↓cb_X10_ahead_72, ↓cb_X10_ahead_98, ↓cb_X10_ahead_105, ↓cb_X10_ahead_134, ↓cb_X10_ahead_138, ↓cb_X10_ahead_139, ↓cb_X10_ahead_147, ↓cb_X10_ahead_157, ↓cb_X10_ahead_158, ↓cb_X10_ahead_181, ↓cb_X10_ahead_182, ↓cb_X10_ahead_187, ↓te_ald, ↓te_aload, ↓te_bin, ↓te_call, ↓te_callV, ↓te_const, ↓te_getI, ↓te_getP, ↓te_goto, ↓te_icmp, ↓te_if, ↓te_iinc, ↓te_iload, ↓te_iret, ↓te_istore, ↓evb_c, ↓evb_n, ↓evk_ap, ↓evm_cut, ↓evm_go, ↓evm_0, ↓jret_v, ↓jret_n, jget, jset, cond_true, cond_false, Nat.reduceBEq, jc1, List.take_succ_cons, List.take_zero, List.drop_succ_cons, List.drop_zero, List.reverse_cons, List.reverse_nil, List.nil_append, List.cons_append, List.length_cons, List.length_nil, Nat.zero_add, Nat.reduceAdd, beq_self_eq_true, true_and, and_true, Nat.reduceLeDiff, Nat.le_refl, Nat.zero_le, Bool.or_true, Bool.true_or, Bool.or_false, Bool.false_or, Bool.or_self]
              try simp (disch := omega) only [Nat.reduceEqDiff, Prod.mk.injEq, Option.some.injEq, true_and, and_true, exists_eq_left', exists_eq_right, exists_and_left, exists_const, true_or, or_true, ne_eq, not_true_eq_false, not_false_eq_true, reduceCtorEq, false_and, and_false, if_true, if_false, forall_const, true_implies, false_implies, implies_true, qI_wI, qI_wP, qP_wI, qP_wP, qN_wI, qN_wP, and_self, nI_add, pk_mul, nI_clamp, vp_in_nI, ng_1, ng_10, nI_eq32, cs_0, cs_1, cs_2, cs_3, cs_4, cs_5, cs_6, cs_7, cs_8, cs_9, cs_10, cs_11, cs_12, cs_13, cs_14, cs_15, cs_16, cs_17, cs_18, cs_19, cs_20, cs_21, cs_22, cs_23, cs_24, cs_25, cs_26, cs_27, cs_28, cs_29, cs_30, cs_31, cs_32, cs_33, cs_34, cs_35, cs_36, cs_37, cs_38, cs_39, cs_40, cs_41, cs_42, cs_43, cs_44, cs_45, cs_46, cs_47, cs_48, cs_49, cs_50, cs_51, cs_52, cs_53, cs_54, cs_55, cs_56, cs_57, cs_58, cs_59, cs_60, cs_61, cs_62, cs_63, cs_64, cs_97, cs_100, cs_122, cs_200, cs_300, cs_448, cs_1000, al_11, al_12, al_13, al_14, al_15, al_16, al_17, al_18, al_19, al_20, al_21, al_22, al_23, al_24, al_25, al_26, al_27, al_28, al_29, al_30, al_31, al_32, al_33, al_34, al_35, al_36, al_37, al_38, al_39, al_40, al_41, al_42, al_43, al_44, al_45, al_46, al_47, nI_leI]
              first
                | exact h9
                | exact ⟨fun _ => h9, fun _ => h9⟩
            try simp only [↓cb_X10_ahead_0, ↓cb_X10_ahead_14, ↓cb_X10_ahead_15, ↓cb_X10_ahead_23, ↓cb_X10_ahead_39, ↓cb_X10_ahead_60, ↓cb_X10_ahead_64, ↓cb_X10_ahead_72, ↓cb_X10_ahead_98, ↓cb_X10_ahead_105, ↓cb_X10_ahead_134, ↓cb_X10_ahead_138, ↓cb_X10_ahead_139, ↓cb_X10_ahead_147, ↓cb_X10_ahead_157, ↓cb_X10_ahead_158, ↓cb_X10_ahead_181, ↓cb_X10_ahead_182, ↓cb_X10_ahead_187, ↓te_ald, ↓te_aload, ↓te_bin, ↓te_call, ↓te_callV, ↓te_const, ↓te_getI, ↓te_getP, ↓te_goto, ↓te_icmp, ↓te_if, ↓te_iinc, ↓te_iload, ↓te_iret, ↓te_istore, ↓evb_c, ↓evb_n, ↓evk_ap, ↓evm_cut, ↓evm_go, ↓evm_0, ↓jret_v, ↓jret_n, jget, jset, cond_true, cond_false, Nat.reduceBEq, jc1, List.take_succ_cons, List.take_zero, List.drop_succ_cons, List.drop_zero, List.reverse_cons, List.reverse_nil, List.nil_append, List.cons_append, List.length_cons, List.length_nil, Nat.zero_add, Nat.reduceAdd, beq_self_eq_true, true_and, and_true, Nat.reduceLeDiff, Nat.le_refl, Nat.zero_le, Bool.or_true, Bool.true_or, Bool.or_false, Bool.false_or, Bool.or_self]
            try simp (disch := omega) only [Nat.reduceEqDiff, Prod.mk.injEq, Option.some.injEq, true_and, and_true, exists_eq_left', exists_eq_right, exists_and_left, exists_const, true_or, or_true, ne_eq, not_true_eq_false, not_false_eq_true, reduceCtorEq, false_and, and_false, if_true, if_false, forall_const, true_implies, false_implies, implies_true, qI_wI, qI_wP, qP_wI, qP_wP, qN_wI, qN_wP, and_self, nI_add, pk_mul, nI_clamp, vp_in_nI, ng_1, ng_10, nI_eq32, cs_0, cs_1, cs_2, cs_3, cs_4, cs_5, cs_6, cs_7, cs_8, cs_9, cs_10, cs_11, cs_12, cs_13, cs_14, cs_15, cs_16, cs_17, cs_18, cs_19, cs_20, cs_21, cs_22, cs_23, cs_24, cs_25, cs_26, cs_27, cs_28, cs_29, cs_30, cs_31, cs_32, cs_33, cs_34, cs_35, cs_36, cs_37, cs_38, cs_39, cs_40, cs_41, cs_42, cs_43, cs_44, cs_45, cs_46, cs_47, cs_48, cs_49, cs_50, cs_51, cs_52, cs_53, cs_54, cs_55, cs_56, cs_57, cs_58, cs_59, cs_60, cs_61, cs_62, cs_63, cs_64, cs_97, cs_100, cs_122, cs_200, cs_300, cs_448, cs_1000, al_11, al_12, al_13, al_14, al_15, al_16, al_17, al_18, al_19, al_20, al_21, al_22, al_23, al_24, al_25, al_26, al_27, al_28, al_29, al_30, al_31, al_32, al_33, al_34, al_35, al_36, al_37, al_38, al_39, al_40, al_41, al_42, al_43, al_44, al_45, al_46, al_47]
            first
              | exact k138
              | exact ⟨fun _ => k138, fun z => absurd rfl z⟩
          · rw [if_neg h0] at hu
            have hp : spPickAt T (29 * f + spBox q) f 0 = 29 * f + spBox q := by unfold spPickAt; rw [if_pos (by omega)]
            have eT : spPick T (29 * f + spBox q) f 0 = spTake T (29 * f + spBox q) := by unfold spPick; rw [if_pos (by omega)]
            rw [eT] at hM2
            rw [hp, if_neg (by omega)]
            have g7 : spTop T (29 * f + spBox q) < 300 := tP.2 (29 * f + spBox q) (T 30 (29 * f + spBox q) - 1) (by omega) (by omega)
            generalize spTop T (29 * f + spBox q) = s at *
            have k134 : Wn 134 [some vm, some (vI f), some (vI n), some (vI p), some (vI 1), some (vI en), some (vI k), some (vI q)] [] M2 0 0 := by
              refine ev_at hC (fun pc => pc == 139) 9 134 (ls := [some vm, some (vI f), some (vI n), some (vI p), some (vI 1), some (vI en), some (vI k), some (vI q)]) ?_
              try simp only [↓cb_X10_ahead_0, ↓cb_X10_ahead_14, ↓cb_X10_ahead_15, ↓cb_X10_ahead_23, ↓cb_X10_ahead_39, ↓cb_X10_ahead_60, ↓cb_X10_ahead_64, ↓cb_X10_ahead_72, ↓cb_X10_ahead_98, ↓cb_X10_ahead_105, ↓cb_X10_ahead_134, ↓cb_X10_ahead_138, ↓cb_X10_ahead_139, ↓cb_X10_ahead_147, ↓cb_X10_ahead_157, ↓cb_X10_ahead_158, ↓cb_X10_ahead_181, ↓cb_X10_ahead_182, ↓cb_X10_ahead_187, ↓te_ald, ↓te_aload, ↓te_bin, ↓te_call, ↓te_callV, ↓te_const, ↓te_getI, ↓te_getP, ↓te_goto, ↓te_icmp, ↓te_if, ↓te_iinc, ↓te_iload, ↓te_iret, ↓te_istore, ↓evb_c, ↓evb_n, ↓evk_ap, ↓evm_cut, ↓evm_go, ↓evm_0, ↓jret_v, ↓jret_n, jget, jset, cond_true, cond_false, Nat.reduceBEq, jc1, List.take_succ_cons, List.take_zero, List.drop_succ_cons, List.drop_zero, List.reverse_cons, List.reverse_nil, List.nil_append, List.cons_append, List.length_cons, List.length_nil, Nat.zero_add, Nat.reduceAdd, beq_self_eq_true, true_and, and_true, Nat.reduceLeDiff, Nat.le_refl, Nat.zero_le, Bool.or_true, Bool.true_or, Bool.or_false, Bool.false_or, Bool.or_self]
              exact k139 M2 (spTake T (29 * f + spBox q)) (dec1 c (29 * f + spBox q)) _ hM2 (hA.take (by omega)) h30 h00 hu
            try simp only [↓cb_X10_ahead_0, ↓cb_X10_ahead_14, ↓cb_X10_ahead_15, ↓cb_X10_ahead_23, ↓cb_X10_ahead_39, ↓cb_X10_ahead_60, ↓cb_X10_ahead_64, ↓cb_X10_ahead_72, ↓cb_X10_ahead_98, ↓cb_X10_ahead_105, ↓cb_X10_ahead_134, ↓cb_X10_ahead_138, ↓cb_X10_ahead_139, ↓cb_X10_ahead_147, ↓cb_X10_ahead_157, ↓cb_X10_ahead_158, ↓cb_X10_ahead_181, ↓cb_X10_ahead_182, ↓cb_X10_ahead_187, ↓te_ald, ↓te_aload, ↓te_bin, ↓te_call, ↓te_callV, ↓te_const, ↓te_getI, ↓te_getP, ↓te_goto, ↓te_icmp, ↓te_if, ↓te_iinc, ↓te_iload, ↓te_iret, ↓te_istore, ↓evb_c, ↓evb_n, ↓evk_ap, ↓evm_cut, ↓evm_go, ↓evm_0, ↓jret_v, ↓jret_n, jget, jset, cond_true, cond_false, Nat.reduceBEq, jc1, List.take_succ_cons, List.take_zero, List.drop_succ_cons, List.drop_zero, List.reverse_cons, List.reverse_nil, List.nil_append, List.cons_append, List.length_cons, List.length_nil, Nat.zero_add, Nat.reduceAdd, beq_self_eq_true, true_and, and_true, Nat.reduceLeDiff, Nat.le_refl, Nat.zero_le, Bool.or_true, Bool.true_or, Bool.or_false, Bool.false_or, Bool.or_self]
            try simp (disch := omega) only [Nat.reduceEqDiff, Prod.mk.injEq, Option.some.injEq, true_and, and_true, exists_eq_left', exists_eq_right, exists_and_left, exists_const, true_or, or_true, ne_eq, not_true_eq_false, not_false_eq_true, reduceCtorEq, false_and, and_false, if_true, if_false, forall_const, true_implies, false_implies, implies_true, qI_wI, qI_wP, qP_wI, qP_wP, qN_wI, qN_wP, and_self, nI_add, pk_mul, nI_clamp, vp_in_nI, ng_1, ng_10, nI_eq32, cs_0, cs_1, cs_2, cs_3, cs_4, cs_5, cs_6, cs_7, cs_8, cs_9, cs_10, cs_11, cs_12, cs_13, cs_14, cs_15, cs_16, cs_17, cs_18, cs_19, cs_20, cs_21, cs_22, cs_23, cs_24, cs_25, cs_26, cs_27, cs_28, cs_29, cs_30, cs_31, cs_32, cs_33, cs_34, cs_35, cs_36, cs_37, cs_38, cs_39, cs_40, cs_41, cs_42, cs_43, cs_44, cs_45, cs_46, cs_47, cs_48, cs_49, cs_50, cs_51, cs_52, cs_53, cs_54, cs_55, cs_56, cs_57, cs_58, cs_59, cs_60, cs_61, cs_62, cs_63, cs_64, cs_97, cs_100, cs_122, cs_200, cs_300, cs_448, cs_1000, al_11, al_12, al_13, al_14, al_15, al_16, al_17, al_18, al_19, al_20, al_21, al_22, al_23, al_24, al_25, al_26, al_27, al_28, al_29, al_30, al_31, al_32, al_33, al_34, al_35, al_36, al_37, al_38, al_39, al_40, al_41, al_42, al_43, al_44, al_45, al_46, al_47]
            first
              | exact k134
              | exact ⟨fun z => absurd z (by omega), fun _ => k134⟩
        first
          | exact go
          | exact ⟨fun z => absurd z q32, fun _ => go⟩
    have h33k := tT.2.1 k
    have e1 : ¬ k = t → T 33 k = spSgn S t k := fun q => by unfold spSgn; rw [if_neg q, t33]
    have e2 : k = t → 45 = spSgn S t k := fun q => by unfold spSgn; rw [if_pos q]
    obtain ⟨p2, p3, p4, p5, p6, p7, p8, p10, p11, p15, p16, p17, p18, p19, p20, p21, p22, p23, p25, p26, p27, p32⟩ := hM.1.1
    obtain ⟨f10, f25, f26, f27, f28, f29, f30, f31, f32, f33, f34, f35, f36, f37, f38, f39, f40, f41, f42, f43, f44, f45, f46⟩ := hM.fs
    refine ev_at hC (fun pc => pc == 72 || pc == 105 || pc == 147) 9 72 (ls := [some vm, some (vI f), some (vI n), some (vI p), some (vI 1), some (vI en), some (vI k), x7]) ?_
    try simp only [↓cb_X10_ahead_0, ↓cb_X10_ahead_14, ↓cb_X10_ahead_15, ↓cb_X10_ahead_23, ↓cb_X10_ahead_39, ↓cb_X10_ahead_60, ↓cb_X10_ahead_64, ↓cb_X10_ahead_72, ↓cb_X10_ahead_98, ↓cb_X10_ahead_105, ↓cb_X10_ahead_134, ↓cb_X10_ahead_138, ↓cb_X10_ahead_139, ↓cb_X10_ahead_147, ↓cb_X10_ahead_157, ↓cb_X10_ahead_158, ↓cb_X10_ahead_181, ↓cb_X10_ahead_182, ↓cb_X10_ahead_187, ↓te_ald, ↓te_aload, ↓te_bin, ↓te_call, ↓te_callV, ↓te_const, ↓te_getI, ↓te_getP, ↓te_goto, ↓te_icmp, ↓te_if, ↓te_iinc, ↓te_iload, ↓te_iret, ↓te_istore, ↓evb_c, ↓evb_n, ↓evk_ap, ↓evm_cut, ↓evm_go, ↓evm_0, ↓jret_v, ↓jret_n, jget, jset, cond_true, cond_false, Nat.reduceBEq, jc1, List.take_succ_cons, List.take_zero, List.drop_succ_cons, List.drop_zero, List.reverse_cons, List.reverse_nil, List.nil_append, List.cons_append, List.length_cons, List.length_nil, Nat.zero_add, Nat.reduceAdd, beq_self_eq_true, true_and, and_true, Nat.reduceLeDiff, Nat.le_refl, Nat.zero_le, Bool.or_true, Bool.true_or, Bool.or_false, Bool.false_or, Bool.or_self]
    try simp (disch := omega) only [Nat.reduceEqDiff, Prod.mk.injEq, Option.some.injEq, true_and, and_true, exists_eq_left', exists_eq_right, exists_and_left, exists_const, true_or, or_true, ne_eq, not_true_eq_false, not_false_eq_true, reduceCtorEq, false_and, and_false, if_true, if_false, forall_const, true_implies, false_implies, implies_true, qI_wI, qI_wP, qP_wI, qP_wP, qN_wI, qN_wP, and_self, nI_add, pk_mul, nI_clamp, vp_in_nI, ng_1, ng_10, nI_eq32, cs_0, cs_1, cs_2, cs_3, cs_4, cs_5, cs_6, cs_7, cs_8, cs_9, cs_10, cs_11, cs_12, cs_13, cs_14, cs_15, cs_16, cs_17, cs_18, cs_19, cs_20, cs_21, cs_22, cs_23, cs_24, cs_25, cs_26, cs_27, cs_28, cs_29, cs_30, cs_31, cs_32, cs_33, cs_34, cs_35, cs_36, cs_37, cs_38, cs_39, cs_40, cs_41, cs_42, cs_43, cs_44, cs_45, cs_46, cs_47, cs_48, cs_49, cs_50, cs_51, cs_52, cs_53, cs_54, cs_55, cs_56, cs_57, cs_58, cs_59, cs_60, cs_61, cs_62, cs_63, cs_64, cs_97, cs_100, cs_122, cs_200, cs_300, cs_448, cs_1000, al_11, al_12, al_13, al_14, al_15, al_16, al_17, al_18, al_19, al_20, al_21, al_22, al_23, al_24, al_25, al_26, al_27, al_28, al_29, al_30, al_31, al_32, al_33, al_34, al_35, al_36, al_37, al_38, al_39, al_40, al_41, al_42, al_43, al_44, al_45, al_46, al_47, p2, p3, p4, p5, p6, p7, p8, p10, p11, p15, p16, p17, p18, p19, p20, p21, p22, p23, p25, p26, p27, p32, f10, f25, f26, f27, f28, f29, f30, f31, f32, f33, f34, f35, f36, f37, f38, f39, f40, f41, f42, f43, f44, f45, f46, h30, nI_leI]
    refine ⟨fun q => absurd q (by omega), fun _ => ⟨fun q => ?_, fun q => ?_⟩⟩
    · first
        | exact k105 _ _ (e1 q)
        | exact ⟨vp_in_nI (by omega) (by omega), k105 _ _ (e1 q)⟩
    · exact k105 45 _ (e2 (by first | exact q | exact Classical.not_not.mp q))
