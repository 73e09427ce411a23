/-! THE REFERENCE AS NUMBERS: S r k is place k of its row r (10: its fields) -/
theorem cs_0 : (0 : Int32) = nI 0 := rfl
theorem cs_1 : (1 : Int32) = nI 1 := rfl
theorem cs_2 : (2 : Int32) = nI 2 := rfl
theorem cs_3 : (3 : Int32) = nI 3 := rfl
theorem cs_4 : (4 : Int32) = nI 4 := rfl
theorem cs_5 : (5 : Int32) = nI 5 := rfl
theorem cs_6 : (6 : Int32) = nI 6 := rfl
theorem cs_7 : (7 : Int32) = nI 7 := rfl
theorem cs_8 : (8 : Int32) = nI 8 := rfl
theorem cs_9 : (9 : Int32) = nI 9 := rfl
theorem cs_10 : (10 : Int32) = nI 10 := rfl
theorem cs_11 : (11 : Int32) = nI 11 := rfl
theorem cs_12 : (12 : Int32) = nI 12 := rfl
theorem cs_20 : (20 : Int32) = nI 20 := rfl
theorem cs_25 : (25 : Int32) = nI 25 := rfl
theorem cs_26 : (26 : Int32) = nI 26 := rfl
theorem cs_27 : (27 : Int32) = nI 27 := rfl
theorem cs_28 : (28 : Int32) = nI 28 := rfl
theorem cs_29 : (29 : Int32) = nI 29 := rfl
theorem cs_32 : (32 : Int32) = nI 32 := rfl
theorem cs_40 : (40 : Int32) = nI 40 := rfl
theorem cs_44 : (44 : Int32) = nI 44 := rfl
theorem cs_45 : (45 : Int32) = nI 45 := rfl
theorem cs_46 : (46 : Int32) = nI 46 := rfl
theorem cs_58 : (58 : Int32) = nI 58 := rfl
theorem cs_60 : (60 : Int32) = nI 60 := rfl
theorem cs_63 : (63 : Int32) = nI 63 := rfl
theorem cs_64 : (64 : Int32) = nI 64 := rfl
theorem cs_97 : (97 : Int32) = nI 97 := rfl
theorem cs_100 : (100 : Int32) = nI 100 := rfl
theorem cs_122 : (122 : Int32) = nI 122 := rfl
theorem cs_200 : (200 : Int32) = nI 200 := rfl
theorem cs_300 : (300 : Int32) = nI 300 := rfl
theorem cs_448 : (448 : Int32) = nI 448 := rfl
theorem cs_1000 : (1000 : Int32) = nI 1000 := rfl
theorem cs_13 : (13 : Int32) = nI 13 := rfl
theorem cs_14 : (14 : Int32) = nI 14 := rfl
theorem cs_15 : (15 : Int32) = nI 15 := rfl
theorem cs_16 : (16 : Int32) = nI 16 := rfl
theorem cs_17 : (17 : Int32) = nI 17 := rfl
theorem cs_18 : (18 : Int32) = nI 18 := rfl
theorem cs_19 : (19 : Int32) = nI 19 := rfl
theorem cs_21 : (21 : Int32) = nI 21 := rfl
theorem cs_22 : (22 : Int32) = nI 22 := rfl
theorem cs_23 : (23 : Int32) = nI 23 := rfl
theorem cs_24 : (24 : Int32) = nI 24 := rfl
theorem cs_30 : (30 : Int32) = nI 30 := rfl
theorem cs_31 : (31 : Int32) = nI 31 := rfl
theorem cs_33 : (33 : Int32) = nI 33 := rfl
theorem cs_34 : (34 : Int32) = nI 34 := rfl
theorem cs_35 : (35 : Int32) = nI 35 := rfl
theorem cs_36 : (36 : Int32) = nI 36 := rfl
theorem cs_37 : (37 : Int32) = nI 37 := rfl
theorem cs_38 : (38 : Int32) = nI 38 := rfl
theorem cs_39 : (39 : Int32) = nI 39 := rfl
theorem cs_41 : (41 : Int32) = nI 41 := rfl
theorem cs_42 : (42 : Int32) = nI 42 := rfl
theorem cs_43 : (43 : Int32) = nI 43 := rfl
theorem cs_47 : (47 : Int32) = nI 47 := rfl
theorem cs_48 : (48 : Int32) = nI 48 := rfl
theorem cs_49 : (49 : Int32) = nI 49 := rfl
theorem cs_50 : (50 : Int32) = nI 50 := rfl
theorem cs_51 : (51 : Int32) = nI 51 := rfl
theorem cs_52 : (52 : Int32) = nI 52 := rfl
theorem cs_53 : (53 : Int32) = nI 53 := rfl
theorem cs_54 : (54 : Int32) = nI 54 := rfl
theorem cs_55 : (55 : Int32) = nI 55 := rfl
theorem cs_56 : (56 : Int32) = nI 56 := rfl
theorem cs_57 : (57 : Int32) = nI 57 := rfl
theorem cs_59 : (59 : Int32) = nI 59 := rfl
theorem cs_61 : (61 : Int32) = nI 61 := rfl
theorem cs_62 : (62 : Int32) = nI 62 := rfl
theorem al_11 : aL 11 = 58 := rfl
theorem al_12 : aL 12 = 300 := rfl
theorem al_13 : aL 13 = 12 := rfl
theorem al_14 : aL 14 = 4 := rfl
theorem al_15 : aL 15 = 29 := rfl
theorem al_16 : aL 16 = 60 := rfl
theorem al_17 : aL 17 = 60 := rfl
theorem al_18 : aL 18 = 60 := rfl
theorem al_19 : aL 19 = 61 := rfl
theorem al_20 : aL 20 = 5 := rfl
theorem al_21 : aL 21 = 60 := rfl
theorem al_22 : aL 22 = 300 := rfl
theorem al_23 : aL 23 = 720 := rfl
theorem al_24 : aL 24 = 5 := rfl
theorem al_25 : aL 25 = 300 := rfl
theorem al_26 : aL 26 = 300 := rfl
theorem al_27 : aL 27 = 300 := rfl
theorem al_28 : aL 28 = 300 := rfl
theorem al_29 : aL 29 = 17400 := rfl
theorem al_30 : aL 30 = 58 := rfl
theorem al_31 : aL 31 = 300 := rfl
theorem al_32 : aL 32 = 7 := rfl
theorem al_33 : aL 33 = 60 := rfl
theorem al_34 : aL 34 = 12 := rfl
theorem al_35 : aL 35 = 12 := rfl
theorem al_36 : aL 36 = 768 := rfl
theorem al_37 : aL 37 = 768 := rfl
theorem al_38 : aL 38 = 12 := rfl
theorem al_39 : aL 39 = 768 := rfl
theorem al_40 : aL 40 = 5376 := rfl
theorem al_41 : aL 41 = 12 := rfl
theorem al_42 : aL 42 = 12 := rfl
theorem al_43 : aL 43 = 4 := rfl
theorem al_44 : aL 44 = 4 := rfl
theorem al_45 : aL 45 = 1600 := rfl
theorem al_46 : aL 46 = 58 := rfl
theorem al_47 : aL 47 = 1 := rfl
abbrev jS : Type := Nat → Nat → Nat
def sw (S : jS) (r k v : Nat) : jS := fun a b => if a = r ∧ b = k then v else S a b
theorem sw_at (S : jS) (r k v a b : Nat) : sw S r k v a b = if a = r ∧ b = k then v else S a b := rfl
abbrev mR (r : Nat) : Prop := r = 10 ∨ (25 ≤ r ∧ r < 47)
def RMr (M : jx_M) : Prop := qP M 10 0 2 = some 0 ∧ qP M 10 0 3 = some 0 ∧ qP M 10 0 4 = some 0 ∧ qP M 10 0 5 = some 0 ∧ qP M 10 0 6 = some 0 ∧ qP M 10 0 7 = some 0 ∧ qP M 10 0 8 = some 0 ∧ qP M 10 0 10 = some 0 ∧ qP M 10 0 11 = some 0 ∧ qP M 10 0 15 = some 0 ∧ qP M 10 0 16 = some 0 ∧ qP M 10 0 17 = some 0 ∧ qP M 10 0 18 = some 0 ∧ qP M 10 0 19 = some 0 ∧ qP M 10 0 20 = some 0 ∧ qP M 10 0 21 = some 0 ∧ qP M 10 0 22 = some 0 ∧ qP M 10 0 23 = some 0 ∧ qP M 10 0 25 = some 0 ∧ qP M 10 0 26 = some 0 ∧ qP M 10 0 27 = some 0 ∧ qP M 10 0 32 = some 0
def RM (M : jx_M) (S : jS) : Prop := RMr M ∧ ∀ r k, mR r → qI M r 0 k = nI (S r k)
/-- the reference's part of M is S, all else is as in M0 -/
def RF (M0 M : jx_M) (S : jS) : Prop := RM M S ∧ (∀ r i k, ¬ mR r → qI M r i k = qI M0 r i k) ∧ (∀ r i k, qP M r i k = qP M0 r i k) ∧ (∀ k, qJ M k = qJ M0 k) ∧ ∀ r, qN M r = qN M0 r
theorem RF.rf {M : jx_M} {S : jS} (h : RM M S) : RF M M S := ⟨h, fun _ _ _ _ => rfl, fun _ _ _ => rfl, fun _ => rfl, fun _ => rfl⟩
abbrev vI (n : Nat) : jx_V := .inl (nI n)
abbrev rI (n : Nat) : jx_O := .inl (some (.inl (nI n)))
def jb (b : Prop) [Decidable b] : Nat := if b then 1 else 0
theorem jb_t {b : Prop} {hd : Decidable b} (h : b) : @jb b hd = 1 := if_pos h
theorem jb_f {b : Prop} {hd : Decidable b} (h : ¬ b) : @jb b hd = 0 := if_neg h
theorem rbT {Q : jx_O → jx_M → Prop} {M : jx_M} {b : Prop} {hd : Decidable b} (hQ : Q (rI (@jb b hd)) M) (h : b) : Q (rI 1) M := by rw [jb_t h] at hQ; exact hQ
theorem rbF {Q : jx_O → jx_M → Prop} {M : jx_M} {b : Prop} {hd : Decidable b} (hQ : Q (rI (@jb b hd)) M) (h : ¬ b) : Q (rI 0) M := by rw [jb_f h] at hQ; exact hQ
theorem ng_1 : -nI 1 = nI 4294967295 := by decide +kernel
theorem ng_10 : -nI 10 = nI 4294967286 := by decide +kernel
theorem nI_eq32 {a b : Nat} (ha : a < 2 ^ 32) (hb : b < 2 ^ 32) : nI a = nI b ↔ a = b := by
  refine ⟨fun h => ?_, fun h => by rw [h]⟩
  have h1 := pk_tn ha
  have h2 := pk_tn hb
  rw [h] at h1
  omega
abbrev jNo : Nat := 4294967295
/-- the reference's steps on numbers -/
def spPut (S : jS) (k s : Nat) : jS := sw (sw (sw (sw S 29 (300 * k + S 30 k) s) 30 k (S 30 k + 1)) 27 s 0) 28 s 0
def spTake (S : jS) (k : Nat) : jS := sw S 30 k (S 30 k - 1)
def spHome (S : jS) (s : Nat) : jS := if nI (S 26 s) < nI 12 then spPut (sw S 28 s 0) (S 25 s) s else sw (sw S 28 s 0) 27 s 3
def spToHeap (S : jS) (s : Nat) : jS := sw (sw (sw (sw S 31 (S 10 9) s) 10 9 (S 10 9 + 1)) 27 s 2) 28 s 0
def spOffHeap (S : jS) (place : Nat) : jS := fun a b => if a = 31 ∧ place ≤ b ∧ b + 1 < S 10 9 then S 31 (b + 1) else if a = 10 ∧ b = 9 then S 10 9 - 1 else S a b
theorem RF.eq {M0 M : jx_M} {S S' : jS} (h : RF M0 M S) (e : ∀ a b, S' a b = S a b) : RF M0 M S' := by
  have e2 : S' = S := by funext a b; exact e a b
  rw [e2]; exact h

def scan (p : Nat → Bool) : Nat → Nat → Nat
  | 0, k => k
  | d + 1, k => if p k then scan p d (k + 1) else k
theorem scan_go {p : Nat → Bool} {d k : Nat} (h : p k = true) : scan p (d + 1) k = scan p d (k + 1) := if_pos h
theorem scan_stop {p : Nat → Bool} {d k : Nat} (h : p k = false) : scan p d k = k := by
  cases d with
  | zero => rfl
  | succ d => exact if_neg (by rw [h]; exact Bool.false_ne_true)
/-- the sum of f over d places from a on -/
def sumr (f : Nat → Nat) (a : Nat) : Nat → Nat
  | 0 => 0
  | d + 1 => sumr f a d + f (a + d)
def spFw (f : Nat) : Nat := (if f % 29 = 8 ∨ f % 29 = 9 ∨ f % 29 = 11 ∨ 25 < f % 29 then 2 else if f % 29 = 17 ∨ f % 29 = 18 ∨ f % 29 = 19 ∨ f % 29 = 5 then 3 else if f % 29 = 12 ∨ f % 29 = 22 then 6 else 4) + f / 29
def spBox (c : Nat) : Nat := if c = 46 then 26 else if c = 44 then 27 else if c = 45 then 28 else c - 97
def spSign (f : Nat) : Nat := if f % 29 = 26 then 46 else if f % 29 = 27 then 44 else if f % 29 = 28 then 45 else 97 + f % 29
def spBlanks (S : jS) (k : Nat) : Nat := scan (fun k => decide (k < S 10 12 ∧ S 33 k = 32)) (S 10 12 - k) k
def spWord (S : jS) (k : Nat) : Nat := scan (fun k => decide (k < S 10 12 ∧ ¬ S 33 k = 32)) (S 10 12 - k) k
def spSigns (S : jS) (a b font : Nat) : Nat := sumr (fun k => spFw (29 * font + spBox (S 33 k))) a (b - a)
def spSorts (S : jS) (l : Nat) : Nat := sumr (fun k => spFw (S 25 (S 36 (64 * l + k)))) 0 (S 35 l)
def spUnits (S : jS) (l g : Nat) : Nat := sumr (fun u => u * S 40 (448 * l + 7 * g + u)) 1 6

