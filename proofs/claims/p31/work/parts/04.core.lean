/-! THE ABSTRACT WORLD: values, memory by role, number and place; how a heap holds it -/
def jx_WT : List Cond := lw_tbl.filter goodWord
theorem jx_WT_of {w : Cond} (i : Nat) (h : lw_tbl[i]? = some w) (hg : goodWord w = true) : w ∈ jx_WT := List.mem_filter.mpr ⟨List.mem_of_getElem? h, hg⟩
theorem jx_WT_good {ws : List Cond} (h : ∀ w ∈ ws, w ∈ jx_WT) {big : List Cond} (hb : ∀ w ∈ jx_WT, w ∈ big) : GoodIn big ws := fun w hw => ⟨hb w (h w hw), good_of_word (List.mem_filter.mp (h w hw)).2⟩
abbrev jx_V : Type := Int32 ⊕ (Int64 ⊕ (Nat × Option Nat))
abbrev jx_M : Type := (Nat → Nat → Nat → Int32) × (Nat → Nat → Nat → Option Nat) × (Nat → Int64) × (Nat → Nat)
def qI (M : jx_M) (r i k : Nat) : Int32 := M.1 r i k
def qP (M : jx_M) (r i k : Nat) : Option Nat := M.2.1 r i k
def qJ (M : jx_M) (k : Nat) : Int64 := M.2.2.1 k
def qN (M : jx_M) (r : Nat) : Nat := M.2.2.2 r
def wI (M : jx_M) (r i k : Nat) (v : Int32) : jx_M := (fun a b c => if a = r ∧ b = i ∧ c = k then v else M.1 a b c, M.2.1, M.2.2.1, M.2.2.2)
def wP (M : jx_M) (r i k : Nat) (v : Option Nat) : jx_M := (M.1, fun a b c => if a = r ∧ b = i ∧ c = k then v else M.2.1 a b c, M.2.2.1, M.2.2.2)
def wJ (M : jx_M) (k : Nat) (v : Int64) : jx_M := (M.1, M.2.1, fun c => if c = k then v else M.2.2.1 c, M.2.2.2)
def wNew (M : jx_M) (r : Nat) : jx_M := (fun a b c => if a = r ∧ b = M.2.2.2 r then 0 else M.1 a b c, fun a b c => if a = r ∧ b = M.2.2.2 r then none else M.2.1 a b c, if r = 47 then fun _ => 0 else M.2.2.1, fun a => if a = r then M.2.2.2 r + 1 else M.2.2.2 a)
theorem qI_wI (M : jx_M) (r i k a b c : Nat) (v : Int32) : qI (wI M r i k v) a b c = if a = r ∧ b = i ∧ c = k then v else qI M a b c := rfl
theorem qI_wP (M : jx_M) (r i k a b c : Nat) (v : Option Nat) : qI (wP M r i k v) a b c = qI M a b c := rfl
theorem qI_wJ (M : jx_M) (k a b c : Nat) (v : Int64) : qI (wJ M k v) a b c = qI M a b c := rfl
theorem qP_wI (M : jx_M) (r i k a b c : Nat) (v : Int32) : qP (wI M r i k v) a b c = qP M a b c := rfl
theorem qP_wP (M : jx_M) (r i k a b c : Nat) (v : Option Nat) : qP (wP M r i k v) a b c = if a = r ∧ b = i ∧ c = k then v else qP M a b c := rfl
theorem qP_wJ (M : jx_M) (k a b c : Nat) (v : Int64) : qP (wJ M k v) a b c = qP M a b c := rfl
theorem qJ_wI (M : jx_M) (r i k c : Nat) (v : Int32) : qJ (wI M r i k v) c = qJ M c := rfl
theorem qJ_wP (M : jx_M) (r i k c : Nat) (v : Option Nat) : qJ (wP M r i k v) c = qJ M c := rfl
theorem qJ_wJ (M : jx_M) (k c : Nat) (v : Int64) : qJ (wJ M k v) c = if c = k then v else qJ M c := rfl
theorem qN_wI (M : jx_M) (r i k a : Nat) (v : Int32) : qN (wI M r i k v) a = qN M a := rfl
theorem qN_wP (M : jx_M) (r i k a : Nat) (v : Option Nat) : qN (wP M r i k v) a = qN M a := rfl
theorem qN_wJ (M : jx_M) (k a : Nat) (v : Int64) : qN (wJ M k v) a = qN M a := rfl
theorem qI_wNew (M : jx_M) (r a b c : Nat) : qI (wNew M r) a b c = if a = r ∧ b = qN M r then 0 else qI M a b c := rfl
theorem qP_wNew (M : jx_M) (r a b c : Nat) : qP (wNew M r) a b c = if a = r ∧ b = qN M r then none else qP M a b c := rfl
theorem qN_wNew (M : jx_M) (r a : Nat) : qN (wNew M r) a = if a = r then qN M r + 1 else qN M a := rfl
theorem qJ_wNew (M : jx_M) (r c : Nat) : qJ (wNew M r) c = if r = 47 then 0 else qJ M c := by
  unfold qJ wNew
  by_cases h : r = 47 <;> simp [h]
/-- the fields of the objects of a role: 0 a number, q + 1 a reference to role q -/
def jx_fT : List (List Nat) := [[0,0,0,0],[0,0,0],[23,0],[17,18,19,20,21,0,0,0,0,2],[0,7,0,0],[24,0],[0,0,0,0,0,0,5,4,7],[25],[22,0],[12,13,0,8,9,1,0,14,0,15,0,3,6,16],[]]
def fT (r k : Nat) : Nat := (jx_fT.getD r []).getD k 0
def fN (r : Nat) : Nat := (jx_fT.getD r []).length
/-- the arrays of a role: what they hold (0 int, 1 char, 2 boolean, 3 long, q + 4 references to role q), how long they are -/
def jx_aT : List (Nat × Nat) := [(8,58),(10,300),(7,12),(5,4),(0,29),(10,60),(0,60),(0,60),(0,61),(0,5),(1,60),(10,300),(1,720),(0,5),(0,300),(0,300),(0,300),(0,300),(0,17400),(0,58),(0,300),(0,7),(1,60),(0,12),(0,12),(0,768),(0,768),(0,12),(0,768),(0,5376),(0,12),(0,12),(0,4),(0,4),(1,1600),(0,58),(0,1)]
def aE (r : Nat) : Nat := (jx_aT.getD (r - 11) (0, 0)).1
def aL (r : Nat) : Nat := (jx_aT.getD (r - 11) (0, 0)).2
def jx_RN : List String := [RX0, RX1, RX2, RX3, RX4, RX5, RX6, RX7, RX8, RX9, RX10]
def aTy (r : Nat) : FieldType := match aE r with
  | 0 => .int
  | 1 => .char
  | 2 => .boolean
  | 3 => .long
  | q + 4 => .object (jx_RN.getD q "")
def atys (dA : Nat → ClassId) : List (ClassId × FieldType) := (List.range 37).map (fun j => (dA (j + 11), aTy (j + 11)))
theorem atys_at (dA : Nat → ClassId) {r : Nat} (h1 : 11 ≤ r) (h2 : r < 48) : (atys dA)[r - 11]? = some (dA r, aTy r) := by
  have h3 : r - 11 < 37 := by omega
  have h4 : r - 11 + 11 = r := by omega
  simp [atys, h3, h4]
/-- the launch, the first cell of the law's own, classes, slots, classes of arrays, the cells of WIDTHS and UNITS, the script -/
abbrev jx_G : Type := Launch × Nat × (Nat → ClassId) × (Nat → Nat → Nat) × (Nat → ClassId) × Nat × Nat × Nat × Nat × (Nat → Int32)
abbrev gl (G : jx_G) : Launch := G.1
abbrev glo (G : jx_G) : Nat := G.2.1
abbrev gD (G : jx_G) : va_G := (G.2.2.1, G.2.2.2.1)
abbrev gA (G : jx_G) : Nat → ClassId := G.2.2.2.2.1
abbrev gW (G : jx_G) : Nat := G.2.2.2.2.2.1
abbrev gU (G : jx_G) : Nat := G.2.2.2.2.2.2.1
abbrev gB (G : jx_G) : Nat := G.2.2.2.2.2.2.2.1
abbrev gL (G : jx_G) : Nat := G.2.2.2.2.2.2.2.2.1
abbrev gX (G : jx_G) : Nat → Int32 := G.2.2.2.2.2.2.2.2.2
def gF (G : jx_G) : Nat → Prop := fun q => glo G ≤ q
def cv (ad : Nat → Nat → Nat) (v : jx_V) : Value := match v with
  | .inl x => .int x
  | .inr (.inl y) => .long y
  | .inr (.inr q) => va_rf (q.2.map (ad q.1))
def fv (ad : Nat → Nat → Nat) (M : jx_M) (r i k : Nat) : Value := match fT r k with
  | 0 => .int (qI M r i k)
  | q + 1 => va_rf ((qP M r i k).map (ad q))
def aC (ad : Nat → Nat → Nat) (M : jx_M) (r i : Nat) : (Nat → Int32) ⊕ (Nat → Int64) ⊕ (Nat → UInt32) ⊕ (Nat → UInt64) ⊕ (Nat → Option Nat) := match aE r with
  | 0 => .inl (fun k => qI M r i k)
  | 1 => .inl (fun k => qI M r i k)
  | 2 => .inl (fun k => qI M r i k)
  | 3 => .inr (.inl (fun k => qJ M k))
  | q + 4 => .inr (.inr (.inr (.inr (fun k => (qP M r i k).map (ad q)))))
def cE (G : jx_G) (ad : Nat → Nat → Nat) (M : jx_M) (r i : Nat) : va_E := if r < 11 then .inr (r, (List.range (fN r)).map (fv ad M r i)) else .inl (gA G r, aL r, aC ad M r i)
def isR (r k : Nat) : Prop := if r < 11 then 0 < fT r k else 4 ≤ aE r
def tgR (r k : Nat) : Nat := if r < 11 then fT r k - 1 else aE r - 4
def HR (G : jx_G) (ad : Nat → Nat → Nat) (M : jx_M) (H : Heap) : Prop := ∃ ws : va_W, va_P (gD G) vwCl ws H ∧ va_D (gF G) ws ∧ ∀ r i, r < 48 → i < qN M r → ∃ k : Nat, ws[k]? = some (ad r i, cE G ad M r i)
def jInj (ad : Nat → Nat → Nat) (M : jx_M) : Prop := ∀ r i r' i', r < 48 → r' < 48 → i < qN M r → i' < qN M r' → ad r i = ad r' i' → r = r' ∧ i = i'
def jDng (M : jx_M) : Prop := ∀ r i k j, r < 48 → i < qN M r → isR r k → qP M r i k = some j → j < qN M (tgR r k)
def jSta (G : jx_G) (ad : Nat → Nat → Nat) (M : jx_M) : Prop := ad 48 0 = gW G ∧ ad 49 0 = gU G ∧ ad 50 0 = gB G ∧ qN M 48 = 1 ∧ qN M 49 = 1 ∧ qN M 50 = 1
def Rel (G : jx_G) (ad : Nat → Nat → Nat) (M : jx_M) (H : Heap) : Prop := HR G ad M H ∧ jInj ad M ∧ jDng M ∧ jSta G ad M
def okA (M : jx_M) (v : jx_V) : Prop := match v with
  | .inr (.inr (r, some i)) => i < qN M r
  | _ => True
abbrev jx_L : Type := List (Option jx_V)
def okL (M : jx_M) (ls : jx_L) : Prop := ∀ v, some v ∈ ls → okA M v
def okS (M : jx_M) (st : List jx_V) : Prop := ∀ v ∈ st, okA M v
def jc1 (v : jx_V) : Bool := match v with
  | .inr (.inl _) => false
  | _ => true
/-- the places of long locals, by the length of a method's code -/
def lgOf (n : Nat) : List Nat := if n = 444 then [7, 9] else if n = 376 then [6, 8, 10, 12, 13, 14] else if n = 296 then [2, 6, 9, 13] else if n = 1013 then [11, 12, 13, 14, 16] else []
def jfr (n : Nat) : Nat → Bool
  | 0 => true
  | j + 1 => !((lgOf n).contains j)
theorem jfr_at {n i j : Nat} (h : jfr n i = true) (e : j + 1 = i) : ¬ j ∈ lgOf n := by
  subst e
  have h1 : (!((lgOf n).contains j)) = true := h
  intro q
  rw [List.contains_iff_mem.mpr q] at h1
  cases h1
def LH (ad : Nat → Nat → Nat) (lsA : Array Slot) (nL : Nat) (cz : Nat) (ls : jx_L) : Prop := lsA.size = nL ∧ lv_wf lsA ∧ ∀ (i : Nat) (v : jx_V), ls[i]? = some (some v) → lsA[i]? = some (.val (cv ad v)) ∧ (jc1 v = true ∨ i ∈ lgOf cz)
theorem cv_cat (ad ad' : Nat → Nat → Nat) (v : jx_V) : (cv ad v).category = (cv ad' v).category := by
  rcases v with x | x | ⟨r, o⟩
  · rfl
  · rfl
  · cases o <;> rfl
theorem map_set {N k : Nat} {f g : Nat → Value} {v : Value} (hk : g k = v) (ho : ∀ j, j ≠ k → g j = f j) : ((List.range N).map f).set k v = (List.range N).map g := by
  apply List.ext_getElem?
  intro j
  by_cases hj : j < N
  · by_cases e : k = j
    · subst e; simp [List.getElem?_set, hj, hk]
    · have h1 : g j = f j := ho j (Ne.symm e)
      simp [List.getElem?_set, e, hj, h1]
  · have h1 : N ≤ j := Nat.le_of_not_lt hj
    by_cases e : k = j
    · subst e; simp [List.getElem?_set, h1]
    · simp [List.getElem?_set, e, h1]
/-- after a write at (r, i) -/
theorem HR.put {G : jx_G} {ad : Nat → Nat → Nat} {M M' : jx_M} {H1 : Heap} {ws : va_W} {k r i : Nat} {e : va_E} (hI : jInj ad M) (hc : ∀ r i, r < 48 → i < qN M r → ∃ k : Nat, ws[k]? = some (ad r i, cE G ad M r i)) (hr : r < 48) (hi : i < qN M r) (hk : ws[k]? = some (ad r i, cE G ad M r i))
    (hP : va_P (gD G) vwCl (ws.set k (ad r i, e)) H1) (hD : va_D (gF G) (ws.set k (ad r i, e))) (he : cE G ad M' r i = e) (ho : ∀ r' i', ¬ (r' = r ∧ i' = i) → cE G ad M' r' i' = cE G ad M r' i') (hn : ∀ r, qN M' r = qN M r) : HR G ad M' H1 := by
  refine ⟨_, hP, hD, fun r' i' hr' hi' => ?_⟩
  rw [hn] at hi'
  by_cases h : r' = r ∧ i' = i
  · obtain ⟨rfl, rfl⟩ := h
    refine ⟨k, ?_⟩
    rw [he, List.getElem?_set_self (List.getElem?_eq_some_iff.mp hk).1]
  · obtain ⟨k', hk'⟩ := hc r' i' hr' hi'
    refine ⟨k', ?_⟩
    have hne : k ≠ k' := by
      intro q
      subst q
      rw [hk] at hk'
      have e1 : ad r i = ad r' i' := congrArg Prod.fst (Option.some.inj hk')
      obtain ⟨q1, q2⟩ := hI r i r' i' hr hr' hi hi' e1
      exact h ⟨q1.symm, q2.symm⟩
    rw [List.getElem?_set_ne hne, hk', ho r' i' h]
theorem cE_wI_ne {G : jx_G} {ad : Nat → Nat → Nat} {M : jx_M} {r i k : Nat} {v : Int32} (r' i' : Nat) (h : ¬ (r' = r ∧ i' = i)) : cE G ad (wI M r i k v) r' i' = cE G ad M r' i' := by
  have e : ∀ c, qI (wI M r i k v) r' i' c = qI M r' i' c := fun c => by rw [qI_wI, if_neg]; exact fun q => h ⟨q.1, q.2.1⟩
  unfold cE fv aC
  simp only [e, qP_wI, qJ_wI]
theorem cE_wP_ne {G : jx_G} {ad : Nat → Nat → Nat} {M : jx_M} {r i k : Nat} {v : Option Nat} (r' i' : Nat) (h : ¬ (r' = r ∧ i' = i)) : cE G ad (wP M r i k v) r' i' = cE G ad M r' i' := by
  have e : ∀ c, qP (wP M r i k v) r' i' c = qP M r' i' c := fun c => by rw [qP_wP, if_neg]; exact fun q => h ⟨q.1, q.2.1⟩
  unfold cE fv aC
  simp only [e, qI_wP, qJ_wP]
theorem cE_obj {G : jx_G} {ad : Nat → Nat → Nat} {M : jx_M} {r i : Nat} (h : r < 11) : cE G ad M r i = .inr (r, (List.range (fN r)).map (fv ad M r i)) := by unfold cE; rw [if_pos h]
theorem cE_arr {G : jx_G} {ad : Nat → Nat → Nat} {M : jx_M} {r i : Nat} (h : 11 ≤ r) : cE G ad M r i = .inl (gA G r, aL r, aC ad M r i) := by unfold cE; rw [if_neg (by omega)]
theorem Rel.put {G : jx_G} {ad : Nat → Nat → Nat} {M M' : jx_M} {H H1 : Heap} (h : Rel G ad M H) (h1 : HR G ad M' H1) (hn : ∀ r, qN M' r = qN M r) (hd : jDng M') : Rel G ad M' H1 := by
  obtain ⟨-, hI, -, hs⟩ := h
  refine ⟨h1, fun r i r' i' a b c d e => ?_, hd, ?_⟩
  · rw [hn] at c d
    exact hI r i r' i' a b c d e
  · unfold jSta at hs ⊢
    simp only [hn]
    exact hs
theorem jDng.wI {M : jx_M} {r i k : Nat} {v : Int32} (h : jDng M) : jDng (wI M r i k v) := fun a b c d h1 h2 h3 h4 => h a b c d h1 h2 h3 h4
theorem jDng.wJ {M : jx_M} {k : Nat} {v : Int64} (h : jDng M) : jDng (wJ M k v) := fun a b c d h1 h2 h3 h4 => h a b c d h1 h2 h3 h4
theorem jDng.wP {M : jx_M} {r i k : Nat} {v : Option Nat} (h : jDng M) (hv : ∀ j, v = some j → j < qN M (tgR r k)) : jDng (wP M r i k v) := by
  intro a b c d h1 h2 h3 h4
  rw [qP_wP] at h4
  by_cases e : a = r ∧ b = i ∧ c = k
  · rw [if_pos e] at h4
    obtain ⟨rfl, rfl, rfl⟩ := e
    exact hv d h4
  · rw [if_neg e] at h4
    exact h a b c d h1 h2 h3 h4
