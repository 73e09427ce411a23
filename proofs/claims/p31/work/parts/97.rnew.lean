/-- what a step of the reference's making keeps -/
def RZ (M1 m : jx_M) (v : Nat) : Prop := (∀ r k, mR r → qI m r 0 k = nI (sw (fun _ _ => 0) 10 13 v r k)) ∧ (∀ r i k, r < 25 → ¬ r = 10 → qI m r i k = qI M1 r i k ∧ qP m r i k = qP M1 r i k) ∧ qN m 6 = qN M1 6
theorem RZ.st {M1 M m : jx_M} {r f v : Nat} (hr : 25 ≤ r) (e : m = wP (wNew M r) 10 0 f (some 0)) (h : RZ M1 M v) : RZ M1 m v := by
  obtain ⟨h1, h2, h3⟩ := h
  subst e
  refine ⟨fun a k ha => ?_, fun a i k ha ha2 => ⟨?_, ?_⟩, ?_⟩
  · rw [qI_wP, qI_wNew]
    by_cases c : a = r ∧ 0 = qN M r
    · rw [if_pos c, sw_at, if_neg (by omega)]
      rfl
    · rw [if_neg c]; exact h1 a k ha
  · rw [qI_wP, qI_wNew, if_neg (by omega)]; exact (h2 a i k ha ha2).1
  · rw [qP_wP, if_neg (by omega), qP_wNew, if_neg (by omega)]; exact (h2 a i k ha ha2).2
  · rw [qN_wP, qN_wNew, if_neg (by omega)]; exact h3
