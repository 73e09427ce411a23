/-! EVALUATION that doesn't look behind a cut -/
theorem evm_cut {cd : jx_C} {cut : Nat → Bool} {Q : jx_O → jx_M → Prop} {J : jx_J} {n pc : Nat} {ls : jx_L} {st : List jx_V} {M : jx_M} {cu su : Nat} (h : cut pc = true) : evm cd cut Q J (n + 1) pc ls st M cu su = J pc ls st M cu su := by
  rw [evm_ap, h]
  rfl
theorem evm_go {cd : jx_C} {cut : Nat → Bool} {Q : jx_O → jx_M → Prop} {J : jx_J} {n pc : Nat} {ls : jx_L} {st : List jx_V} {M : jx_M} {cu su : Nat} (h : cut pc = false) : evm cd cut Q J (n + 1) pc ls st M cu su = evb (cd pc).1 ls st M cu su (evm cd cut Q J n) Q (evm cd cut Q J n (cd pc).2) := by
  rw [evm_ap, h]
  rfl

