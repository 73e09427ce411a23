/-! LONGS as whole numbers; what the law's helpers answer -/
def jI (z : Int) : Int64 := Int64.ofInt z
abbrev v50 : jx_V := .inr (.inr (50, some 0))
abbrev vJ (z : Int) : jx_V := .inr (.inl (jI z))
abbrev rJ (z : Int) : jx_O := .inl (some (.inr (.inl (jI z))))
theorem jI_toInt {z : Int} (h1 : -9223372036854775808 ≤ z) (h2 : z < 9223372036854775808) : (jI z).toInt = z := Int64.toInt_ofInt_of_le (by omega) (by omega)
theorem jI_32 (x : Int32) : x.toInt64 = jI x.toInt := by
  unfold jI
  rw [← Int32.toInt_toInt64, Int64.ofInt_toInt]
theorem jI_nI {n : Nat} (h : n < 2 ^ 31) : (nI n).toInt64 = jI n := by rw [jI_32, nI_toInt h]
theorem jI_add (a b : Int) : jI a + jI b = jI (a + b) := (Int64.ofInt_add a b).symm
theorem jI_sub (a b : Int) : jI a - jI b = jI (a - b) := (Int64.ofInt_sub a b).symm
theorem jI_to32 (n : Nat) : (jI n).toInt32 = nI n := by
  unfold jI
  rw [Int64.toInt32_ofInt, Int32.ofInt_eq_ofNat]
  rfl
theorem lc_eq {a b : Int} (h1 : -9223372036854775808 ≤ a) (h2 : a < 9223372036854775808) (h3 : -9223372036854775808 ≤ b) (h4 : b < 9223372036854775808) : lg_cmp (jI a) (jI b) = nI 0 ↔ a = b := by
  have e : lg_cmp (jI a) (jI b) = nI 0 ↔ jI a = jI b := lg_cmp_eq _ _
  rw [e, ← Int64.toInt_inj, jI_toInt h1 h2, jI_toInt h3 h4]
theorem lc_lt {a b : Int} (h1 : -9223372036854775808 ≤ a) (h2 : a < 9223372036854775808) (h3 : -9223372036854775808 ≤ b) (h4 : b < 9223372036854775808) : lg_cmp (jI a) (jI b) < nI 0 ↔ a < b := by
  have e : lg_cmp (jI a) (jI b) < nI 0 ↔ jI a < jI b := lg_cmp_lt _ _
  rw [e, Int64.lt_iff_toInt_lt, jI_toInt h1 h2, jI_toInt h3 h4]
theorem lc_gt {a b : Int} (h1 : -9223372036854775808 ≤ a) (h2 : a < 9223372036854775808) (h3 : -9223372036854775808 ≤ b) (h4 : b < 9223372036854775808) : nI 0 < lg_cmp (jI a) (jI b) ↔ b < a := by
  have e : nI 0 < lg_cmp (jI a) (jI b) ↔ jI b < jI a := lg_cmp_gt _ _
  rw [e, Int64.lt_iff_toInt_lt, jI_toInt h1 h2, jI_toInt h3 h4]
theorem lc_le {a b : Int} (h1 : -9223372036854775808 ≤ a) (h2 : a < 9223372036854775808) (h3 : -9223372036854775808 ≤ b) (h4 : b < 9223372036854775808) : lg_cmp (jI a) (jI b) ≤ nI 0 ↔ a ≤ b := by
  have e : lg_cmp (jI a) (jI b) ≤ nI 0 ↔ jI a ≤ jI b := lg_cmp_le _ _
  rw [e, Int64.le_iff_toInt_le, jI_toInt h1 h2, jI_toInt h3 h4]
theorem lc_ge {a b : Int} (h1 : -9223372036854775808 ≤ a) (h2 : a < 9223372036854775808) (h3 : -9223372036854775808 ≤ b) (h4 : b < 9223372036854775808) : nI 0 ≤ lg_cmp (jI a) (jI b) ↔ b ≤ a := by
  have e : nI 0 ≤ lg_cmp (jI a) (jI b) ↔ jI b ≤ jI a := lg_cmp_ge _ _
  rw [e, Int64.le_iff_toInt_le, jI_toInt h1 h2, jI_toInt h3 h4]
theorem rm_nI {k d : Nat} : nI k - nI (k / d * d) = nI (k % d) := by rw [pk_sub (Nat.div_mul_le_self k d), ← Nat.mod_eq_sub_div_mul]
theorem lc_self (z : Int64) : lg_cmp z z = nI 0 := (lg_cmp_eq z z).mpr rfl
theorem js_0 : (0 : Int64) = jI 0 := by decide +kernel
theorem js_1 : (1 : Int64) = jI 1 := by decide +kernel
theorem js_2 : (2 : Int64) = jI 2 := by decide +kernel
theorem js_3 : (3 : Int64) = jI 3 := by decide +kernel
theorem js_12 : (12 : Int64) = jI 12 := by decide +kernel
theorem js_32 : (32 : Int64) = jI 32 := by decide +kernel
theorem js_44 : (44 : Int64) = jI 44 := by decide +kernel
theorem js_46 : (46 : Int64) = jI 46 := by decide +kernel
theorem js_60 : (60 : Int64) = jI 60 := by decide +kernel
theorem js_61 : (61 : Int64) = jI 61 := by decide +kernel
theorem js_63 : (63 : Int64) = jI 63 := by decide +kernel
theorem js_97 : (97 : Int64) = jI 97 := by decide +kernel
theorem js_122 : (122 : Int64) = jI 122 := by decide +kernel
theorem js_n1 : (-1 : Int64) = jI (-1) := by decide +kernel
theorem js_x1 : (-9000000000000000001 : Int64) = jI (-9000000000000000001) := by decide +kernel
theorem js_x2 : (-9000000000000000002 : Int64) = jI (-9000000000000000002) := by decide +kernel
theorem js_x3 : (-9000000000000000003 : Int64) = jI (-9000000000000000003) := by decide +kernel
theorem i2c_nI {c : Nat} (h : c < 65536) : ((nI c).toUInt32 % 65536).toInt32 = nI c := by
  rw [pk_char, pk_tn (by omega), Nat.mod_eq_of_lt h]
/-- what a refusal is told as -/
def nX (k : Nat) : Int := if k = 1 then -9000000000000000001 else if k = 2 then -9000000000000000002 else -9000000000000000003
def wv (e : Nat → Nat) (r : Nat × Int32 × jS) : Int := if r.1 = 0 then r.2.1.toInt else nX (e r.1)
/-- the class, somewhere in memory -/
def CE (M : jx_M) (S : jS) : Prop := ∃ p, CM M S p
theorem nX_lo (k : Nat) : -9000000000000000003 ≤ nX k ∧ nX k ≤ -9000000000000000001 := by
  unfold nX
  split
  · omega
  · split <;> omega
theorem toInt_b (x : Int32) : -2147483648 ≤ x.toInt ∧ x.toInt < 2147483648 := by
  have h := BitVec.toInt_lt (x := x.toBitVec)
  have h2 := BitVec.le_toInt (x := x.toBitVec)
  exact ⟨h2, h⟩
theorem wv_b (e : Nat → Nat) (r : Nat × Int32 × jS) : -9000000000000000003 ≤ wv e r ∧ wv e r < 2147483648 := by
  unfold wv
  split
  · have := toInt_b r.2.1
    omega
  · have := nX_lo (e r.1)
    omega
theorem wv_ok (e : Nat → Nat) (x : Int32) (S : jS) : wv e (0, x, S) = x.toInt := rfl
theorem wv_no (e : Nat → Nat) (k : Nat) (x : Int32) (S : jS) : wv e (k + 1, x, S) = nX (e (k + 1)) := rfl
