/-! THE REFERENCE: a new object; THE LAW: its start and its loop -/
theorem st_na {c : Int32} {r f mc ms : Nat} {b : jx_B} {ls : jx_L} {M : jx_M} {cu su : Nat} {J : jx_J} {Q : jx_O → jx_M → Prop} {K : jx_K} (h0 : jget ls 0 = some vm) (hc : c = nI (aL r)) (h47 : ¬ r = 47) (hn : qN M r = 0) (h1 : cu + 1 ≤ mc) (h2 : su + aL r ≤ ms) (h : ∀ m, m = wP (wNew M r) 10 0 f (some 0) → evb b ls [] m (cu + 1) (su + aL r) J Q K) : evb (ti_aload 0 :: ti_const c :: ti_newa r mc ms :: ti_putP 10 f r :: b) ls [] M cu su J Q K := by
  simp only [evb_c, te_aload, te_const, te_newa, te_putP, evk_ap, h0]
  refine ⟨hc, fun q => absurd q h47, h1, h2, trivial, 0, rfl, ?_⟩
  rw [hn]
  exact h _ rfl
theorem st_pi {c : Int32} {f : Nat} {b : jx_B} {ls : jx_L} {M : jx_M} {cu su : Nat} {J : jx_J} {Q : jx_O → jx_M → Prop} {K : jx_K} (h0 : jget ls 0 = some vm) (h : ∀ m, m = wI M 10 0 f c → evb b ls [] m cu su J Q K) : evb (ti_aload 0 :: ti_const c :: ti_putI 10 f :: b) ls [] M cu su J Q K := by
  simp only [evb_c, te_aload, te_const, te_putI, evk_ap, h0]
  exact ⟨0, rfl, h _ rfl⟩
theorem st_oi {b : jx_B} {ls : jx_L} {M : jx_M} {cu su : Nat} {J : jx_J} {Q : jx_O → jx_M → Prop} {K : jx_K} (h0 : jget ls 0 = some vm) (h : evb b ls [] M cu su J Q K) : evb (ti_aload 0 :: ti_oinit :: b) ls [] M cu su J Q K := by
  simp only [evb_c, te_aload, te_oinit, evk_ap, h0]
  exact ⟨by simp, by simp, h⟩
theorem st_nN {M m : jx_M} {r f : Nat} (e : m = wP (wNew M r) 10 0 f (some 0)) (h : ∀ q, r - 1 < q → q ≤ 47 → qN M q = 0) : ∀ q, r < q → q ≤ 47 → qN m q = 0 := fun q h1 h2 => by
  rw [e, qN_wP, qN_wNew, if_neg (by omega)]
  exact h q (by omega) h2
/-- what a step of the reference's making keeps -/
def RZ (M1 m : jx_M) (v : Nat) : Prop := (∀ r k, mR r → qI m r 0 k = nI (sw (fun _ _ => 0) 10 13 v r k)) ∧ (∀ r i k, r < 25 → ¬ r = 10 → qI m r i k = qI M1 r i k ∧ qP m r i k = qP M1 r i k) ∧ qN m 6 = qN M1 6
theorem RZ.st {M1 M m : jx_M} {r f v : Nat} (hr : 25 ≤ r) (e : m = wP (wNew M r) 10 0 f (some 0)) (h : RZ M1 M v) : RZ M1 m v := by
  obtain ⟨h1, h2, h3⟩ := h
  subst e
  refine ⟨fun a k ha => ?_, fun a i k ha ha2 => ⟨?_, ?_⟩, ?_⟩
  · rw [qI_wP, qI_wNew]
    by_cases c : a = r ∧ 0 = qN M r
    · rw [if_pos c, sw_at, if_neg (by omega)]
      rfl
    · rw [if_neg c]; exact h1 a k ha
  · rw [qI_wP, qI_wNew, if_neg (by omega)]; exact (h2 a i k ha ha2).1
  · rw [qP_wP, if_neg (by omega), qP_wNew, if_neg (by omega)]; exact (h2 a i k ha ha2).2
  · rw [qN_wP, qN_wNew, if_neg (by omega)]; exact h3
theorem RZ.pi {M1 M m : jx_M} {v : Nat} (e : m = wI M 10 0 13 (nI v)) (h : RZ M1 M 0) : RZ M1 m v := by
  obtain ⟨h1, h2, h3⟩ := h
  subst e
  refine ⟨fun a k ha => ?_, fun a i k ha ha2 => ⟨?_, ?_⟩, h3⟩
  · rw [qI_wI, sw_at]
    by_cases c : a = 10 ∧ k = 13
    · rw [if_pos ⟨c.1, rfl, c.2⟩, if_pos c]
    · rw [if_neg (fun q => c ⟨q.1, q.2.2⟩), if_neg c, h1 a k ha, sw_at, if_neg c]
  · rw [qI_wI, if_neg (by omega)]; exact (h2 a i k ha ha2).1
  · rw [qP_wI]; exact (h2 a i k ha ha2).2
set_option maxRecDepth 20000 in
set_option maxHeartbeats 20000000 in
theorem ci_X10 (G : jx_G) {M1 : jx_M} {Q : jx_O → jx_M → Prop} (hF : FB M1) (hQ : ∀ M', RM M' S00 → (∀ r i k, r < 25 → ¬ r = 10 → qI M' r i k = qI M1 r i k ∧ qP M' r i k = qP M1 r i k) → qN M' 6 = qN M1 6 → qN M' 47 = 0 → Q (.inl none) M') : Mt G m_X10_init [vm] (wNew M1 10) Q := by
  refine Mt.of (sc_X10_init G) (by decide +kernel) (jArgs.of rfl) (Nat.le_of_ble_eq_true rfl) (fun Wn hC => ?_)
  have g0 : jget [some vm] 0 = some vm := rfl
  have n0 : ∀ q, 25 - 1 < q → q ≤ 47 → qN (wNew M1 10) q = 0 := fun q h1 h2 => by
    rw [qN_wNew, if_neg (by omega), hF.2.2.2.2.2.2 q (by omega), jM0_N, if_neg (by omega)]
  have w0 : RZ M1 (wNew M1 10) 0 := by
    refine ⟨fun a k ha => ?_, fun a i k ha ha2 => ⟨?_, ?_⟩, ?_⟩
    · rw [qI_wNew, (hF.2.2.2.2.2.1 a 0 k (by rcases ha with q | q; exact Or.inl q; exact Or.inr q.1)).1, ite_self, sw_at, ite_self]
      rfl
    · rw [qI_wNew, if_neg (by omega)]
    · rw [qP_wNew, if_neg (by omega)]
    · rw [qN_wNew, if_neg (by omega)]
  refine ev_at hC (fun pc => false) 9 0 (ls := [some vm]) ?_
  simp only [cb_X10_init_0]
  refine st_oi g0 ?_
  refine st_na g0 rfl (by omega) (n0 25 (by omega) (by omega)) (by decide +kernel) (by decide +kernel) (fun m1 e1 => ?_)
  have w1 := w0.st (by omega) e1
  have n1 := st_nN e1 (fun q h1 h2 => n0 q (by omega) h2)
  refine st_na g0 rfl (by omega) (n1 26 (by omega) (by omega)) (by decide +kernel) (by decide +kernel) (fun m2 e2 => ?_)
  have w2 := w1.st (by omega) e2
  have n2 := st_nN e2 (fun q h1 h2 => n1 q (by omega) h2)
  refine st_na g0 rfl (by omega) (n2 27 (by omega) (by omega)) (by decide +kernel) (by decide +kernel) (fun m3 e3 => ?_)
  have w3 := w2.st (by omega) e3
  have n3 := st_nN e3 (fun q h1 h2 => n2 q (by omega) h2)
  refine st_na g0 rfl (by omega) (n3 28 (by omega) (by omega)) (by decide +kernel) (by decide +kernel) (fun m4 e4 => ?_)
  have w4 := w3.st (by omega) e4
  have n4 := st_nN e4 (fun q h1 h2 => n3 q (by omega) h2)
  refine st_na g0 rfl (by omega) (n4 29 (by omega) (by omega)) (by decide +kernel) (by decide +kernel) (fun m5 e5 => ?_)
  have w5 := w4.st (by omega) e5
  have n5 := st_nN e5 (fun q h1 h2 => n4 q (by omega) h2)
  refine st_na g0 rfl (by omega) (n5 30 (by omega) (by omega)) (by decide +kernel) (by decide +kernel) (fun m6 e6 => ?_)
  have w6 := w5.st (by omega) e6
  have n6 := st_nN e6 (fun q h1 h2 => n5 q (by omega) h2)
  refine st_na g0 rfl (by omega) (n6 31 (by omega) (by omega)) (by decide +kernel) (by decide +kernel) (fun m7 e7 => ?_)
  have w7 := w6.st (by omega) e7
  have n7 := st_nN e7 (fun q h1 h2 => n6 q (by omega) h2)
  refine st_na g0 rfl (by omega) (n7 32 (by omega) (by omega)) (by decide +kernel) (by decide +kernel) (fun m8 e8 => ?_)
  have w8 := w7.st (by omega) e8
  have n8 := st_nN e8 (fun q h1 h2 => n7 q (by omega) h2)
  refine st_na g0 rfl (by omega) (n8 33 (by omega) (by omega)) (by decide +kernel) (by decide +kernel) (fun m9 e9 => ?_)
  have w9 := w8.st (by omega) e9
  have n9 := st_nN e9 (fun q h1 h2 => n8 q (by omega) h2)
  refine st_pi g0 (fun m10 e10 => ?_)
  have w10 := w9.pi (v := 60) e10
  have n10 : ∀ q, 33 < q → q ≤ 47 → qN m10 q = 0 := fun q h1 h2 => by rw [e10, qN_wI]; exact n9 q h1 h2
  refine st_na g0 rfl (by omega) (n10 34 (by omega) (by omega)) (by decide +kernel) (by decide +kernel) (fun m11 e11 => ?_)
  have w11 := w10.st (by omega) e11
  have n11 := st_nN e11 (fun q h1 h2 => n10 q (by omega) h2)
  refine st_na g0 rfl (by omega) (n11 35 (by omega) (by omega)) (by decide +kernel) (by decide +kernel) (fun m12 e12 => ?_)
  have w12 := w11.st (by omega) e12
  have n12 := st_nN e12 (fun q h1 h2 => n11 q (by omega) h2)
  refine st_na g0 rfl (by omega) (n12 36 (by omega) (by omega)) (by decide +kernel) (by decide +kernel) (fun m13 e13 => ?_)
  have w13 := w12.st (by omega) e13
  have n13 := st_nN e13 (fun q h1 h2 => n12 q (by omega) h2)
  refine st_na g0 rfl (by omega) (n13 37 (by omega) (by omega)) (by decide +kernel) (by decide +kernel) (fun m14 e14 => ?_)
  have w14 := w13.st (by omega) e14
  have n14 := st_nN e14 (fun q h1 h2 => n13 q (by omega) h2)
  refine st_na g0 rfl (by omega) (n14 38 (by omega) (by omega)) (by decide +kernel) (by decide +kernel) (fun m15 e15 => ?_)
  have w15 := w14.st (by omega) e15
  have n15 := st_nN e15 (fun q h1 h2 => n14 q (by omega) h2)
  refine st_na g0 rfl (by omega) (n15 39 (by omega) (by omega)) (by decide +kernel) (by decide +kernel) (fun m16 e16 => ?_)
  have w16 := w15.st (by omega) e16
  have n16 := st_nN e16 (fun q h1 h2 => n15 q (by omega) h2)
  refine st_na g0 rfl (by omega) (n16 40 (by omega) (by omega)) (by decide +kernel) (by decide +kernel) (fun m17 e17 => ?_)
  have w17 := w16.st (by omega) e17
  have n17 := st_nN e17 (fun q h1 h2 => n16 q (by omega) h2)
  refine st_na g0 rfl (by omega) (n17 41 (by omega) (by omega)) (by decide +kernel) (by decide +kernel) (fun m18 e18 => ?_)
  have w18 := w17.st (by omega) e18
  have n18 := st_nN e18 (fun q h1 h2 => n17 q (by omega) h2)
  refine st_na g0 rfl (by omega) (n18 42 (by omega) (by omega)) (by decide +kernel) (by decide +kernel) (fun m19 e19 => ?_)
  have w19 := w18.st (by omega) e19
  have n19 := st_nN e19 (fun q h1 h2 => n18 q (by omega) h2)
  refine st_na g0 rfl (by omega) (n19 43 (by omega) (by omega)) (by decide +kernel) (by decide +kernel) (fun m20 e20 => ?_)
  have w20 := w19.st (by omega) e20
  have n20 := st_nN e20 (fun q h1 h2 => n19 q (by omega) h2)
  refine st_na g0 rfl (by omega) (n20 44 (by omega) (by omega)) (by decide +kernel) (by decide +kernel) (fun m21 e21 => ?_)
  have w21 := w20.st (by omega) e21
  have n21 := st_nN e21 (fun q h1 h2 => n20 q (by omega) h2)
  refine st_na g0 rfl (by omega) (n21 45 (by omega) (by omega)) (by decide +kernel) (by decide +kernel) (fun m22 e22 => ?_)
  have w22 := w21.st (by omega) e22
  have n22 := st_nN e22 (fun q h1 h2 => n21 q (by omega) h2)
  refine st_na g0 rfl (by omega) (n22 46 (by omega) (by omega)) (by decide +kernel) (by decide +kernel) (fun m23 e23 => ?_)
  have w23 := w22.st (by omega) e23
  have n23 := st_nN e23 (fun q h1 h2 => n22 q (by omega) h2)
  simp only [evb_c, evb_n, te_vret, evk_ap]
  refine ⟨by decide +kernel, by decide +kernel, hQ _ ⟨?_, fun r k hr => w23.1 r k hr⟩ w23.2.1 w23.2.2 (n23 47 (by omega) (by omega))⟩
  subst e23 e22 e21 e20 e19 e18 e17 e16 e15 e14 e13 e12 e11 e10 e9 e8 e7 e6 e5 e4 e3 e2 e1
  unfold RMr
  simp only [qP_wP, qP_wI, qP_wNew, Nat.reduceEqDiff, false_and, and_false, if_false, if_true, true_and, and_true, and_self]
