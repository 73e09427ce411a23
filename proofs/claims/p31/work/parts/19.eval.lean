/-! EVALUATION: the instructions as equations with all their arguments (by wip/whole/gen8.py) -/
def evk (b : jx_B) (J : jx_J) (Q : jx_O → jx_M → Prop) (K : jx_K) : jx_K := fun ls st M cu su => evb b ls st M cu su J Q K
theorem evk_ap (b : jx_B) (J : jx_J) (Q : jx_O → jx_M → Prop) (K : jx_K) (ls : jx_L) (st : List jx_V) (M : jx_M) (cu su : Nat) : evk b J Q K ls st M cu su = evb b ls st M cu su J Q K := (rfl)
theorem evb_n (ls : jx_L) (st : List jx_V) (M : jx_M) (cu su : Nat) (J : jx_J) (Q : jx_O → jx_M → Prop) (K : jx_K) : evb [] ls st M cu su J Q K = K ls st M cu su := (rfl)
theorem evb_c (t : jx_Tr) (b : jx_B) (ls : jx_L) (st : List jx_V) (M : jx_M) (cu su : Nat) (J : jx_J) (Q : jx_O → jx_M → Prop) (K : jx_K) : evb (t :: b) ls st M cu su J Q K = t ls st M cu su J Q (evk b J Q K) := (rfl)
theorem evm_ap (cd : jx_C) (cut : Nat → Bool) (Q : jx_O → jx_M → Prop) (J : jx_J) (n pc : Nat) (ls : jx_L) (st : List jx_V) (M : jx_M) (cu su : Nat) : evm cd cut Q J (n + 1) pc ls st M cu su = bif cut pc then J pc ls st M cu su else evb (cd pc).1 ls st M cu su (evm cd cut Q J n) Q (evm cd cut Q J n (cd pc).2) := (rfl)
theorem evm_0 (cd : jx_C) (cut : Nat → Bool) (Q : jx_O → jx_M → Prop) (J : jx_J) (pc : Nat) (ls : jx_L) (st : List jx_V) (M : jx_M) (cu su : Nat) : evm cd cut Q J 0 pc ls st M cu su = J pc ls st M cu su := (rfl)
def jret (K : jx_K) (ls : jx_L) (q : List jx_V) (cu su : Nat) : jx_O → jx_M → Prop := fun o M' => match o with
  | .inl (some v) => K ls (v :: q) M' cu su
  | .inl none => K ls q M' cu su
  | .inr _ => False
theorem jret_v (K : jx_K) (ls : jx_L) (q : List jx_V) (cu su : Nat) (v : jx_V) (M : jx_M) : jret K ls q cu su (.inl (some v)) M = K ls (v :: q) M cu su := (rfl)
theorem jret_n (K : jx_K) (ls : jx_L) (q : List jx_V) (cu su : Nat) (M : jx_M) : jret K ls q cu su (.inl none) M = K ls q M cu su := (rfl)
def jretX (K : jx_K) (J : jx_J) (hsL : List Nat) (ls : jx_L) (q : List jx_V) (cu su : Nat) : jx_O → jx_M → Prop := fun o M' => match o with
  | .inl (some v) => K ls (v :: q) M' cu su
  | .inl none => K ls q M' cu su
  | .inr k => ¬ hsL.getD k 0 = 0 ∧ J (hsL.getD k 0) ls [] M' cu su
theorem jretX_v (K : jx_K) (J : jx_J) (hsL : List Nat) (ls : jx_L) (q : List jx_V) (cu su : Nat) (v : jx_V) (M : jx_M) : jretX K J hsL ls q cu su (.inl (some v)) M = K ls (v :: q) M cu su := (rfl)
theorem jretX_n (K : jx_K) (J : jx_J) (hsL : List Nat) (ls : jx_L) (q : List jx_V) (cu su : Nat) (M : jx_M) : jretX K J hsL ls q cu su (.inl none) M = K ls q M cu su := (rfl)
theorem jretX_x (K : jx_K) (J : jx_J) (hsL : List Nat) (ls : jx_L) (q : List jx_V) (cu su k : Nat) (M : jx_M) : jretX K J hsL ls q cu su (.inr k) M = (¬ hsL.getD k 0 = 0 ∧ J (hsL.getD k 0) ls [] M cu su) := (rfl)
theorem te_const (v : Int32) (ls : jx_L) (st : List jx_V) (M : jx_M) (cu su : Nat) (J : jx_J) (Q : jx_O → jx_M → Prop) (K : jx_K) : ti_const v ls st M cu su J Q K = (K ls (.inl v :: st) M cu su) := (rfl)
theorem te_null (r : Nat) (ls : jx_L) (st : List jx_V) (M : jx_M) (cu su : Nat) (J : jx_J) (Q : jx_O → jx_M → Prop) (K : jx_K) : ti_null r ls st M cu su J Q K = (K ls (.inr (.inr (r, none)) :: st) M cu su) := (rfl)
theorem te_iload (i : Nat) (ls : jx_L) (st : List jx_V) (M : jx_M) (cu su : Nat) (J : jx_J) (Q : jx_O → jx_M → Prop) (K : jx_K) : ti_iload i ls st M cu su J Q K = (match jget ls i with
  | some (.inl x) => K ls (.inl x :: st) M cu su
  | _ => False) := (rfl)
theorem te_aload (i : Nat) (ls : jx_L) (st : List jx_V) (M : jx_M) (cu su : Nat) (J : jx_J) (Q : jx_O → jx_M → Prop) (K : jx_K) : ti_aload i ls st M cu su J Q K = (match jget ls i with
  | some (.inr (.inr q)) => K ls (.inr (.inr q) :: st) M cu su
  | _ => False) := (rfl)
theorem te_istore (i : Nat) (ls : jx_L) (st : List jx_V) (M : jx_M) (cu su : Nat) (J : jx_J) (Q : jx_O → jx_M → Prop) (K : jx_K) : ti_istore i ls st M cu su J Q K = (match st with
  | .inl x :: r => K (jset ls i (.inl x)) r M cu su
  | _ => False) := (rfl)
theorem te_astore (i : Nat) (ls : jx_L) (st : List jx_V) (M : jx_M) (cu su : Nat) (J : jx_J) (Q : jx_O → jx_M → Prop) (K : jx_K) : ti_astore i ls st M cu su J Q K = (match st with
  | .inr (.inr q) :: r => K (jset ls i (.inr (.inr q))) r M cu su
  | _ => False) := (rfl)
theorem te_lconst (v : Int64) (ls : jx_L) (st : List jx_V) (M : jx_M) (cu su : Nat) (J : jx_J) (Q : jx_O → jx_M → Prop) (K : jx_K) : ti_lconst v ls st M cu su J Q K = (K ls (.inr (.inl v) :: st) M cu su) := (rfl)
theorem te_lload (i : Nat) (ls : jx_L) (st : List jx_V) (M : jx_M) (cu su : Nat) (J : jx_J) (Q : jx_O → jx_M → Prop) (K : jx_K) : ti_lload i ls st M cu su J Q K = (match jget ls i with
  | some (.inr (.inl x)) => K ls (.inr (.inl x) :: st) M cu su
  | _ => False) := (rfl)
theorem te_lstore (i : Nat) (ls : jx_L) (st : List jx_V) (M : jx_M) (cu su : Nat) (J : jx_J) (Q : jx_O → jx_M → Prop) (K : jx_K) : ti_lstore i ls st M cu su J Q K = (match st with
  | .inr (.inl x) :: r => K (jset (jclp (jdst ls i) (i + 1)) i (.inr (.inl x))) r M cu su
  | _ => False) := (rfl)
theorem te_istoreD (i : Nat) (ls : jx_L) (st : List jx_V) (M : jx_M) (cu su : Nat) (J : jx_J) (Q : jx_O → jx_M → Prop) (K : jx_K) : ti_istoreD i ls st M cu su J Q K = (match st with
  | .inl x :: r => K (jset (jdst ls i) i (.inl x)) r M cu su
  | _ => False) := (rfl)
theorem te_iincD (i : Nat) (v : Int32) (ls : jx_L) (st : List jx_V) (M : jx_M) (cu su : Nat) (J : jx_J) (Q : jx_O → jx_M → Prop) (K : jx_K) : ti_iincD i v ls st M cu su J Q K = (match jget ls i with
  | some (.inl x) => K (jset (jdst ls i) i (.inl (x + v))) st M cu su
  | _ => False) := (rfl)
theorem te_lbin (f : Int64 → Int64 → Int64) (ls : jx_L) (st : List jx_V) (M : jx_M) (cu su : Nat) (J : jx_J) (Q : jx_O → jx_M → Prop) (K : jx_K) : ti_lbin f ls st M cu su J Q K = (match st with
  | .inr (.inl y) :: .inr (.inl x) :: r => K ls (.inr (.inl (f x y)) :: r) M cu su
  | _ => False) := (rfl)
theorem te_l2i (ls : jx_L) (st : List jx_V) (M : jx_M) (cu su : Nat) (J : jx_J) (Q : jx_O → jx_M → Prop) (K : jx_K) : ti_l2i ls st M cu su J Q K = (match st with
  | .inr (.inl x) :: r => K ls (.inl x.toInt32 :: r) M cu su
  | _ => False) := (rfl)
theorem te_jret (mc ms : Nat) (ls : jx_L) (st : List jx_V) (M : jx_M) (cu su : Nat) (J : jx_J) (Q : jx_O → jx_M → Prop) (K : jx_K) : ti_jret mc ms ls st M cu su J Q K = (match st with
  | [.inr (.inl x)] => cu ≤ mc ∧ su ≤ ms ∧ Q (.inl (some (.inr (.inl x)))) M
  | _ => False) := (rfl)
theorem te_iinc (i : Nat) (v : Int32) (ls : jx_L) (st : List jx_V) (M : jx_M) (cu su : Nat) (J : jx_J) (Q : jx_O → jx_M → Prop) (K : jx_K) : ti_iinc i v ls st M cu su J Q K = (match jget ls i with
  | some (.inl x) => K (jset ls i (.inl (x + v))) st M cu su
  | _ => False) := (rfl)
theorem te_bin (f : Int32 → Int32 → Int32) (ls : jx_L) (st : List jx_V) (M : jx_M) (cu su : Nat) (J : jx_J) (Q : jx_O → jx_M → Prop) (K : jx_K) : ti_bin f ls st M cu su J Q K = (match st with
  | .inl y :: .inl x :: r => K ls (.inl (f x y) :: r) M cu su
  | _ => False) := (rfl)
theorem te_div (ls : jx_L) (st : List jx_V) (M : jx_M) (cu su : Nat) (J : jx_J) (Q : jx_O → jx_M → Prop) (K : jx_K) : ti_div ls st M cu su J Q K = (match st with
  | .inl y :: .inl x :: r => ¬ y = 0 ∧ K ls (.inl (x / y) :: r) M cu su
  | _ => False) := (rfl)
theorem te_rem (ls : jx_L) (st : List jx_V) (M : jx_M) (cu su : Nat) (J : jx_J) (Q : jx_O → jx_M → Prop) (K : jx_K) : ti_rem ls st M cu su J Q K = (match st with
  | .inl y :: .inl x :: r => ¬ y = 0 ∧ K ls (.inl (x - x / y * y) :: r) M cu su
  | _ => False) := (rfl)
theorem te_i2c (ls : jx_L) (st : List jx_V) (M : jx_M) (cu su : Nat) (J : jx_J) (Q : jx_O → jx_M → Prop) (K : jx_K) : ti_i2c ls st M cu su J Q K = (match st with
  | .inl x :: r => K ls (.inl (x.toUInt32 % 65536).toInt32 :: r) M cu su
  | _ => False) := (rfl)
theorem te_i2l (ls : jx_L) (st : List jx_V) (M : jx_M) (cu su : Nat) (J : jx_J) (Q : jx_O → jx_M → Prop) (K : jx_K) : ti_i2l ls st M cu su J Q K = (match st with
  | .inl x :: r => K ls (.inr (.inl x.toInt64) :: r) M cu su
  | _ => False) := (rfl)
theorem te_lcmp (ls : jx_L) (st : List jx_V) (M : jx_M) (cu su : Nat) (J : jx_J) (Q : jx_O → jx_M → Prop) (K : jx_K) : ti_lcmp ls st M cu su J Q K = (match st with
  | .inr (.inl y) :: .inr (.inl x) :: r => K ls (.inl (lg_cmp x y) :: r) M cu su
  | _ => False) := (rfl)
theorem te_dup (ls : jx_L) (st : List jx_V) (M : jx_M) (cu su : Nat) (J : jx_J) (Q : jx_O → jx_M → Prop) (K : jx_K) : ti_dup ls st M cu su J Q K = (match st with
  | v :: r => jc1 v = true ∧ K ls (v :: v :: r) M cu su
  | _ => False) := (rfl)
theorem te_pop (ls : jx_L) (st : List jx_V) (M : jx_M) (cu su : Nat) (J : jx_J) (Q : jx_O → jx_M → Prop) (K : jx_K) : ti_pop ls st M cu su J Q K = (match st with
  | v :: r => jc1 v = true ∧ K ls r M cu su
  | _ => False) := (rfl)
theorem te_dup2 (ls : jx_L) (st : List jx_V) (M : jx_M) (cu su : Nat) (J : jx_J) (Q : jx_O → jx_M → Prop) (K : jx_K) : ti_dup2 ls st M cu su J Q K = (match st with
  | v :: w :: r => jc1 v = true ∧ jc1 w = true ∧ K ls (v :: w :: v :: w :: r) M cu su
  | _ => False) := (rfl)
theorem te_if (P : Int32 → Prop) (tgt : Nat) (ls : jx_L) (st : List jx_V) (M : jx_M) (cu su : Nat) (J : jx_J) (Q : jx_O → jx_M → Prop) (K : jx_K) : ti_if P tgt ls st M cu su J Q K = (match st with
  | .inl x :: r => (P x → J tgt ls r M cu su) ∧ (¬ P x → K ls r M cu su)
  | _ => False) := (rfl)
theorem te_icmp (P : Int32 → Int32 → Prop) (tgt : Nat) (ls : jx_L) (st : List jx_V) (M : jx_M) (cu su : Nat) (J : jx_J) (Q : jx_O → jx_M → Prop) (K : jx_K) : ti_icmp P tgt ls st M cu su J Q K = (match st with
  | .inl y :: .inl x :: r => (P x y → J tgt ls r M cu su) ∧ (¬ P x y → K ls r M cu su)
  | _ => False) := (rfl)
theorem te_acmpEq (tgt : Nat) (ls : jx_L) (st : List jx_V) (M : jx_M) (cu su : Nat) (J : jx_J) (Q : jx_O → jx_M → Prop) (K : jx_K) : ti_acmpEq tgt ls st M cu su J Q K = (match st with
  | .inr (.inr b) :: .inr (.inr a) :: r => a.1 = b.1 ∧ a.1 < 48 ∧ (a.2 = b.2 → J tgt ls r M cu su) ∧ (¬ a.2 = b.2 → K ls r M cu su)
  | _ => False) := (rfl)
theorem te_acmpNe (tgt : Nat) (ls : jx_L) (st : List jx_V) (M : jx_M) (cu su : Nat) (J : jx_J) (Q : jx_O → jx_M → Prop) (K : jx_K) : ti_acmpNe tgt ls st M cu su J Q K = (match st with
  | .inr (.inr b) :: .inr (.inr a) :: r => a.1 = b.1 ∧ a.1 < 48 ∧ (¬ a.2 = b.2 → J tgt ls r M cu su) ∧ (a.2 = b.2 → K ls r M cu su)
  | _ => False) := (rfl)
theorem te_ifnull (tgt : Nat) (ls : jx_L) (st : List jx_V) (M : jx_M) (cu su : Nat) (J : jx_J) (Q : jx_O → jx_M → Prop) (K : jx_K) : ti_ifnull tgt ls st M cu su J Q K = (match st with
  | .inr (.inr a) :: r => (a.2 = none → J tgt ls r M cu su) ∧ (¬ a.2 = none → K ls r M cu su)
  | _ => False) := (rfl)
theorem te_ifnonnull (tgt : Nat) (ls : jx_L) (st : List jx_V) (M : jx_M) (cu su : Nat) (J : jx_J) (Q : jx_O → jx_M → Prop) (K : jx_K) : ti_ifnonnull tgt ls st M cu su J Q K = (match st with
  | .inr (.inr a) :: r => (¬ a.2 = none → J tgt ls r M cu su) ∧ (a.2 = none → K ls r M cu su)
  | _ => False) := (rfl)
theorem te_goto (tgt : Nat) (ls : jx_L) (st : List jx_V) (M : jx_M) (cu su : Nat) (J : jx_J) (Q : jx_O → jx_M → Prop) (K : jx_K) : ti_goto tgt ls st M cu su J Q K = (J tgt ls st M cu su) := (rfl)
theorem te_getI (r k : Nat) (ls : jx_L) (st : List jx_V) (M : jx_M) (cu su : Nat) (J : jx_J) (Q : jx_O → jx_M → Prop) (K : jx_K) : ti_getI r k ls st M cu su J Q K = (match st with
  | .inr (.inr a) :: q => ∃ i, a = (r, some i) ∧ K ls (.inl (qI M r i k) :: q) M cu su
  | _ => False) := (rfl)
theorem te_getP (r k z : Nat) (ls : jx_L) (st : List jx_V) (M : jx_M) (cu su : Nat) (J : jx_J) (Q : jx_O → jx_M → Prop) (K : jx_K) : ti_getP r k z ls st M cu su J Q K = (match st with
  | .inr (.inr a) :: q => ∃ i, a = (r, some i) ∧ K ls (.inr (.inr (z, qP M r i k)) :: q) M cu su
  | _ => False) := (rfl)
theorem te_putI (r k : Nat) (ls : jx_L) (st : List jx_V) (M : jx_M) (cu su : Nat) (J : jx_J) (Q : jx_O → jx_M → Prop) (K : jx_K) : ti_putI r k ls st M cu su J Q K = (match st with
  | .inl x :: .inr (.inr a) :: q => ∃ i, a = (r, some i) ∧ K ls q (wI M r i k x) cu su
  | _ => False) := (rfl)
theorem te_putZ (r k : Nat) (ls : jx_L) (st : List jx_V) (M : jx_M) (cu su : Nat) (J : jx_J) (Q : jx_O → jx_M → Prop) (K : jx_K) : ti_putZ r k ls st M cu su J Q K = (match st with
  | .inl x :: .inr (.inr a) :: q => ∃ i, a = (r, some i) ∧ (x = 0 ∨ x = 1) ∧ K ls q (wI M r i k x) cu su
  | _ => False) := (rfl)
theorem te_putP (r k z : Nat) (ls : jx_L) (st : List jx_V) (M : jx_M) (cu su : Nat) (J : jx_J) (Q : jx_O → jx_M → Prop) (K : jx_K) : ti_putP r k z ls st M cu su J Q K = (match st with
  | .inr (.inr b) :: .inr (.inr a) :: q => b.1 = z ∧ ∃ i, a = (r, some i) ∧ K ls q (wP M r i k b.2) cu su
  | _ => False) := (rfl)
theorem te_alen (r : Nat) (ls : jx_L) (st : List jx_V) (M : jx_M) (cu su : Nat) (J : jx_J) (Q : jx_O → jx_M → Prop) (K : jx_K) : ti_alen r ls st M cu su J Q K = (match st with
  | .inr (.inr a) :: q => ∃ i, a = (r, some i) ∧ K ls (.inl (nI (aL r)) :: q) M cu su
  | _ => False) := (rfl)
theorem te_ald (r : Nat) (ls : jx_L) (st : List jx_V) (M : jx_M) (cu su : Nat) (J : jx_J) (Q : jx_O → jx_M → Prop) (K : jx_K) : ti_ald r ls st M cu su J Q K = (match st with
  | .inl x :: .inr (.inr a) :: q => ∃ i, a = (r, some i) ∧ vp_in x (aL r) ∧ K ls (.inl (qI M r i x.toNatClampNeg) :: q) M cu su
  | _ => False) := (rfl)
theorem te_aldP (r z : Nat) (ls : jx_L) (st : List jx_V) (M : jx_M) (cu su : Nat) (J : jx_J) (Q : jx_O → jx_M → Prop) (K : jx_K) : ti_aldP r z ls st M cu su J Q K = (match st with
  | .inl x :: .inr (.inr a) :: q => ∃ i, a = (r, some i) ∧ vp_in x (aL r) ∧ K ls (.inr (.inr (z, qP M r i x.toNatClampNeg)) :: q) M cu su
  | _ => False) := (rfl)
theorem te_aldJ (ls : jx_L) (st : List jx_V) (M : jx_M) (cu su : Nat) (J : jx_J) (Q : jx_O → jx_M → Prop) (K : jx_K) : ti_aldJ ls st M cu su J Q K = (match st with
  | .inl x :: .inr (.inr a) :: q => ∃ i, a = (47, some i) ∧ vp_in x 1 ∧ K ls (.inr (.inl (qJ M x.toNatClampNeg)) :: q) M cu su
  | _ => False) := (rfl)
theorem te_ast (r : Nat) (ls : jx_L) (st : List jx_V) (M : jx_M) (cu su : Nat) (J : jx_J) (Q : jx_O → jx_M → Prop) (K : jx_K) : ti_ast r ls st M cu su J Q K = (match st with
  | .inl v :: .inl x :: .inr (.inr a) :: q => ∃ i, a = (r, some i) ∧ vp_in x (aL r) ∧ K ls q (wI M r i x.toNatClampNeg v) cu su
  | _ => False) := (rfl)
theorem te_astC (r : Nat) (ls : jx_L) (st : List jx_V) (M : jx_M) (cu su : Nat) (J : jx_J) (Q : jx_O → jx_M → Prop) (K : jx_K) : ti_astC r ls st M cu su J Q K = (match st with
  | .inl v :: .inl x :: .inr (.inr a) :: q => ∃ i, a = (r, some i) ∧ vp_in x (aL r) ∧ (v.toUInt32 % 65536).toInt32 = v ∧ K ls q (wI M r i x.toNatClampNeg v) cu su
  | _ => False) := (rfl)
theorem te_astZ (r : Nat) (ls : jx_L) (st : List jx_V) (M : jx_M) (cu su : Nat) (J : jx_J) (Q : jx_O → jx_M → Prop) (K : jx_K) : ti_astZ r ls st M cu su J Q K = (match st with
  | .inl v :: .inl x :: .inr (.inr a) :: q => ∃ i, a = (r, some i) ∧ vp_in x (aL r) ∧ (v = 0 ∨ v = 1) ∧ K ls q (wI M r i x.toNatClampNeg v) cu su
  | _ => False) := (rfl)
theorem te_astJ (ls : jx_L) (st : List jx_V) (M : jx_M) (cu su : Nat) (J : jx_J) (Q : jx_O → jx_M → Prop) (K : jx_K) : ti_astJ ls st M cu su J Q K = (match st with
  | .inr (.inl v) :: .inl x :: .inr (.inr a) :: q => ∃ i, a = (47, some i) ∧ vp_in x 1 ∧ qN M 47 ≤ 1 ∧ K ls q (wJ M x.toNatClampNeg v) cu su
  | _ => False) := (rfl)
theorem te_astP (r z : Nat) (ls : jx_L) (st : List jx_V) (M : jx_M) (cu su : Nat) (J : jx_J) (Q : jx_O → jx_M → Prop) (K : jx_K) : ti_astP r z ls st M cu su J Q K = (match st with
  | .inr (.inr b) :: .inl x :: .inr (.inr a) :: q => b.1 = z ∧ ∃ i, a = (r, some i) ∧ vp_in x (aL r) ∧ K ls q (wP M r i x.toNatClampNeg b.2) cu su
  | _ => False) := (rfl)
theorem te_getst (r : Nat) (ls : jx_L) (st : List jx_V) (M : jx_M) (cu su : Nat) (J : jx_J) (Q : jx_O → jx_M → Prop) (K : jx_K) : ti_getst r ls st M cu su J Q K = (K ls (.inr (.inr (r, some 0)) :: st) M cu su) := (rfl)
theorem te_ldW (ls : jx_L) (st : List jx_V) (M : jx_M) (cu su : Nat) (J : jx_J) (Q : jx_O → jx_M → Prop) (K : jx_K) : ti_ldW ls st M cu su J Q K = (match st with
  | .inl x :: .inr (.inr a) :: q => a = (48, some 0) ∧ vp_in x 29 ∧ K ls (.inl (jx_wid.getD x.toNatClampNeg 0) :: q) M cu su
  | _ => False) := (rfl)
theorem te_ldU (ls : jx_L) (st : List jx_V) (M : jx_M) (cu su : Nat) (J : jx_J) (Q : jx_O → jx_M → Prop) (K : jx_K) : ti_ldU ls st M cu su J Q K = (match st with
  | .inl x :: .inr (.inr a) :: q => a = (49, some 0) ∧ vp_in x 5 ∧ K ls (.inl (jx_uni.getD x.toNatClampNeg 0) :: q) M cu su
  | _ => False) := (rfl)
theorem te_lenW (ls : jx_L) (st : List jx_V) (M : jx_M) (cu su : Nat) (J : jx_J) (Q : jx_O → jx_M → Prop) (K : jx_K) : ti_lenW ls st M cu su J Q K = (match st with
  | .inr (.inr a) :: q => a = (48, some 0) ∧ K ls (.inl 29 :: q) M cu su
  | _ => False) := (rfl)
theorem te_lenU (ls : jx_L) (st : List jx_V) (M : jx_M) (cu su : Nat) (J : jx_J) (Q : jx_O → jx_M → Prop) (K : jx_K) : ti_lenU ls st M cu su J Q K = (match st with
  | .inr (.inr a) :: q => a = (49, some 0) ∧ K ls (.inl 5 :: q) M cu su
  | _ => False) := (rfl)
theorem te_ldX (f : Nat → Int32) (L : Nat) (ls : jx_L) (st : List jx_V) (M : jx_M) (cu su : Nat) (J : jx_J) (Q : jx_O → jx_M → Prop) (K : jx_K) : ti_ldX f L ls st M cu su J Q K = (match st with
  | .inl x :: .inr (.inr a) :: q => a = (50, some 0) ∧ vp_in x L ∧ K ls (.inl (f x.toNatClampNeg) :: q) M cu su
  | _ => False) := (rfl)
theorem te_lenX (L : Nat) (ls : jx_L) (st : List jx_V) (M : jx_M) (cu su : Nat) (J : jx_J) (Q : jx_O → jx_M → Prop) (K : jx_K) : ti_lenX L ls st M cu su J Q K = (match st with
  | .inr (.inr a) :: q => a = (50, some 0) ∧ K ls (.inl (nI L) :: q) M cu su
  | _ => False) := (rfl)
theorem te_iret (mc ms : Nat) (ls : jx_L) (st : List jx_V) (M : jx_M) (cu su : Nat) (J : jx_J) (Q : jx_O → jx_M → Prop) (K : jx_K) : ti_iret mc ms ls st M cu su J Q K = (match st with
  | [.inl x] => cu ≤ mc ∧ su ≤ ms ∧ Q (.inl (some (.inl x))) M
  | _ => False) := (rfl)
theorem te_zret (mc ms : Nat) (ls : jx_L) (st : List jx_V) (M : jx_M) (cu su : Nat) (J : jx_J) (Q : jx_O → jx_M → Prop) (K : jx_K) : ti_zret mc ms ls st M cu su J Q K = (match st with
  | [.inl x] => cu ≤ mc ∧ su ≤ ms ∧ (x = 0 ∨ x = 1) ∧ Q (.inl (some (.inl x))) M
  | _ => False) := (rfl)
theorem te_cret (mc ms : Nat) (ls : jx_L) (st : List jx_V) (M : jx_M) (cu su : Nat) (J : jx_J) (Q : jx_O → jx_M → Prop) (K : jx_K) : ti_cret mc ms ls st M cu su J Q K = (match st with
  | [.inl x] => cu ≤ mc ∧ su ≤ ms ∧ (x.toUInt32 % 65536).toInt32 = x ∧ Q (.inl (some (.inl x))) M
  | _ => False) := (rfl)
theorem te_aret (mc ms : Nat) (ls : jx_L) (st : List jx_V) (M : jx_M) (cu su : Nat) (J : jx_J) (Q : jx_O → jx_M → Prop) (K : jx_K) : ti_aret mc ms ls st M cu su J Q K = (match st with
  | [.inr (.inr a)] => cu ≤ mc ∧ su ≤ ms ∧ Q (.inl (some (.inr (.inr a)))) M
  | _ => False) := (rfl)
theorem te_vret (mc ms : Nat) (ls : jx_L) (st : List jx_V) (M : jx_M) (cu su : Nat) (J : jx_J) (Q : jx_O → jx_M → Prop) (K : jx_K) : ti_vret mc ms ls st M cu su J Q K = (match st with
  | [] => cu ≤ mc ∧ su ≤ ms ∧ Q (.inl none) M
  | _ => False) := (rfl)
theorem te_tsw (lo : Int) (ts : List Nat) (d : Nat) (ls : jx_L) (st : List jx_V) (M : jx_M) (cu su : Nat) (J : jx_J) (Q : jx_O → jx_M → Prop) (K : jx_K) : ti_tsw lo ts d ls st M cu su J Q K = (match st with
  | .inl x :: r => jsw x (fun t => J t ls r M cu su) d lo ts
  | _ => False) := (rfl)
theorem te_oinit (ls : jx_L) (st : List jx_V) (M : jx_M) (cu su : Nat) (J : jx_J) (Q : jx_O → jx_M → Prop) (K : jx_K) : ti_oinit ls st M cu su J Q K = (match st with
  | .inr (.inr a) :: r => ¬ a.2 = none ∧ r.length ≤ 4 ∧ K ls r M cu su
  | _ => False) := (rfl)
theorem te_throw (k mc ms : Nat) (ls : jx_L) (st : List jx_V) (M : jx_M) (cu su : Nat) (J : jx_J) (Q : jx_O → jx_M → Prop) (K : jx_K) : ti_throw k mc ms ls st M cu su J Q K = (cu + 1 ≤ mc ∧ su + 6 ≤ ms ∧ st = [] ∧ Q (.inr k) M) := (rfl)
theorem te_new (r mc ms : Nat) (ls : jx_L) (st : List jx_V) (M : jx_M) (cu su : Nat) (J : jx_J) (Q : jx_O → jx_M → Prop) (K : jx_K) : ti_new r mc ms ls st M cu su J Q K = (cu + 1 ≤ mc ∧ su + fN r ≤ ms ∧ K ls (.inr (.inr (r, some (qN M r))) :: st) (wNew M r) (cu + 1) (su + fN r)) := (rfl)
theorem te_newa (r mc ms : Nat) (ls : jx_L) (st : List jx_V) (M : jx_M) (cu su : Nat) (J : jx_J) (Q : jx_O → jx_M → Prop) (K : jx_K) : ti_newa r mc ms ls st M cu su J Q K = (match st with
  | .inl x :: q => x = nI (aL r) ∧ (r = 47 → qN M 47 = 0) ∧ cu + 1 ≤ mc ∧ su + aL r ≤ ms ∧ K ls (.inr (.inr (r, some (qN M r))) :: q) (wNew M r) (cu + 1) (su + aL r)
  | _ => False) := (rfl)
theorem te_lret (ls : jx_L) (st : List jx_V) (M : jx_M) (cu su : Nat) (J : jx_J) (Q : jx_O → jx_M → Prop) (K : jx_K) : ti_lret ls st M cu su J Q K = (match st with
  | [.inl x] => cu ≤ 635328 ∧ su ≤ 7195483 ∧ x = 1
  | _ => False) := (rfl)
theorem te_call (G : jx_G) (y : jx_Y) (n mc ms mc' ms' : Nat) (ls : jx_L) (st : List jx_V) (M : jx_M) (cu su : Nat) (J : jx_J) (Q : jx_O → jx_M → Prop) (K : jx_K) : ti_call G y n mc ms mc' ms' ls st M cu su J Q K = (cu + mc' ≤ mc ∧ su + ms' ≤ ms ∧ (st.take n).length = n ∧ (st.drop n).length ≤ 4 ∧ Mt G y (st.take n).reverse M (jret K ls (st.drop n) (cu + mc') (su + ms'))) := (rfl)
theorem te_callH (G : jx_G) (y : jx_Y) (hh : List (Nat × Nat × Nat × Nat)) (n mc ms mc' ms' : Nat) (ls : jx_L) (st : List jx_V) (M : jx_M) (cu su : Nat) (J : jx_J) (Q : jx_O → jx_M → Prop) (K : jx_K) : ti_callH G y hh n mc ms mc' ms' ls st M cu su J Q K = (cu + mc' ≤ mc ∧ su + ms' ≤ ms ∧ (st.take n).length = n ∧ (st.drop n).length ≤ 4 ∧ Mh G y hh (st.take n).reverse M (jret K ls (st.drop n) (cu + mc') (su + ms'))) := (rfl)
theorem te_callV (G : jx_G) (y : jx_Y) (r n mc ms mc' ms' : Nat) (ls : jx_L) (st : List jx_V) (M : jx_M) (cu su : Nat) (J : jx_J) (Q : jx_O → jx_M → Prop) (K : jx_K) : ti_callV G y r n mc ms mc' ms' ls st M cu su J Q K = (match st.drop n with
  | .inr (.inr a) :: q => cu + mc' ≤ mc ∧ su + ms' ≤ ms ∧ (st.take n).length = n ∧ q.length ≤ 4 ∧ ∃ i, a = (r, some i) ∧ Mt G y (.inr (.inr (r, some i)) :: (st.take n).reverse) M (jret K ls q (cu + mc') (su + ms'))
  | _ => False) := (rfl)
theorem te_callX (G : jx_G) (y : jx_Y) (r n mc ms mc' ms' ev : Nat) (hsL : List Nat) (ls : jx_L) (st : List jx_V) (M : jx_M) (cu su : Nat) (J : jx_J) (Q : jx_O → jx_M → Prop) (K : jx_K) : ti_callX G y r n mc ms mc' ms' ev hsL ls st M cu su J Q K = (match st.drop n with
  | .inr (.inr a) :: q => cu + mc' ≤ mc ∧ su + ms' ≤ ms ∧ (st.take n).length = n ∧ q.length ≤ 4 ∧ jget ls ev = none ∧ ∃ i, a = (r, some i) ∧ Mx G y (.inr (.inr (r, some i)) :: (st.take n).reverse) M (jretX K J hsL ls q (cu + mc') (su + ms'))
  | _ => False) := (rfl)
