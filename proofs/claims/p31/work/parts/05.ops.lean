/-! THE JUDGEMENT Wm AND THE ABSTRACT INSTRUCTIONS (by wip/whole/gen2.py) -/
def jx_nestM : List (String × Nat × MethodName × String) := [("LeadCases", 27, ⟨"LeadCases$Spaces", "<init>", "()V"⟩, "LeadCases"), ("LeadCases", 34, ⟨"LeadCases$Text", "<init>", "()V"⟩, "LeadCases"), ("LeadCases", 41, ⟨"LeadCases$Cut", "<init>", "()V"⟩, "LeadCases"), ("LeadCases", 69, ⟨"LeadCases$Heap", "<init>", "()V"⟩, "LeadCases"), ("LeadCases", 76, ⟨"LeadCases$Sheet", "<init>", "()V"⟩, "LeadCases"), ("LeadCases", 88, ⟨"LeadCases$Line", "<init>", "()V"⟩, "LeadCases"), ("LeadCases$Text", 25, ⟨"LeadCases", "boxFor", "(C)I"⟩, "LeadCases"), ("LeadCases$Text", 33, ⟨"LeadCases", "widthOf", "(II)I"⟩, "LeadCases"), ("LeadCases$Line", 81, ⟨"LeadCases", "widthOf", "(II)I"⟩, "LeadCases"), ("LeadCases$Line", 85, ⟨"LeadCases", "unitsOf", "(I)I"⟩, "LeadCases"), ("LeadCases$Sort", 43, ⟨"LeadCases", "signFor", "(I)C"⟩, "LeadCases")]
def jx_nestF : List (String × Nat × String × String × String × String) := [("LeadCases$Spaces", 7, "LeadCases", "UNITS", "[I", "LeadCases"), ("LeadCases$Line", 27, "LeadCases", "UNITS", "[I", "LeadCases")]
def jx_str : List (String × Nat × String) := [("LeadCases", 96, "no such case or box"), ("LeadCases", 103, "1 to 40 sorts are cast"), ("LeadCases", 108, "more than 300 sorts"), ("LeadCases", 119, "no such spaces"), ("LeadCases", 124, "more than 1000 spaces in a box"), ("LeadCases", 134, "no such sign"), ("LeadCases", 140, "the text has 60 signs"), ("LeadCases", 149, "the measure is 20 to 200"), ("LeadCases", 151, "there are lines"), ("LeadCases", 157, "no such case"), ("LeadCases", 170, "no word, or 12 lines"), ("LeadCases", 205, "no such line or place"), ("LeadCases", 220, "not wrong, or not possible"), ("LeadCases", 243, "no such line"), ("LeadCases", 245, "it is of a form"), ("LeadCases", 250, "the same box"), ("LeadCases", 256, "the box is empty"), ("LeadCases", 262, "1 to 300 sorts of the pie"), ("LeadCases", 273, "the last one is ahead of the first one"), ("LeadCases", 279, "a line is of a form, or there were 4 forms"), ("LeadCases", 286, "no such form"), ("LeadCases", 288, "the form is broken"), ("LeadCases", 362, "no such thing of a line"), ("LeadCases", 321, "no such sort"), ("LeadCases", 342, "no such thing of a sort"), ("LeadCases", 364, "no such line or gap"), ("LeadCases", 369, "no such thing of a form"), ("LeadCases", 298, "the form is not sound")]
def jx_wid : List Int32 := [4, 4, 4, 4, 4, 3, 4, 4, 2, 2, 4, 2, 6, 4, 4, 4, 4, 3, 3, 3, 4, 4, 6, 4, 4, 4, 2, 2, 2]
def jx_uni : List Int32 := [6, 4, 3, 2, 1]
def jx_fW : Nat → Value := fun j => .int (jx_wid.getD j 0)
def jx_fU : Nat → Value := fun j => .int (jx_uni.getD j 0)
def jx_exs : List String := ["java/lang/IndexOutOfBoundsException", "java/lang/IllegalArgumentException", "java/lang/IllegalStateException"]
def jx_decl : List String := ["java/lang/RuntimeException", "java/lang/Exception", "java/lang/Throwable"]
def jx_over : List String := [RX1, RX3, RX4, RX6]
def Gs (G : jx_G) (U : State) : Prop :=
  va_K (gD G) vwCl (atys (gA G)) U ∧ va_Z "LeadCases" "WIDTHS" "[I" (.ref (gW G)) (gF G) U U.heap ∧ va_Z "LeadCases" "UNITS" "[I" (.ref (gU G)) (gF G) U U.heap ∧
  va_T .int (gW G) 29 jx_fW (gF G) U U.heap ∧ va_T .int (gU G) 5 jx_fU (gF G) U U.heap ∧ va_X (gB G) (gL G) (gX G) U U.heap ∧ gB G < glo G ∧ glo G ≤ U.heap.size ∧
  vx_Zq Bundle.tN "UNASSIGNED_STACK" Bundle.steD (gF G) U U.heap ∧ vx_Zq Bundle.tN "SUPPRESSED_SENTINEL" Bundle.listD (gF G) U U.heap ∧
  (∀ q ∈ jx_str, ∃ sa, vk_R q.1 q.2.1 q.2.2 sa U) ∧ (∀ q ∈ jx_nestM, va_Nw (.methodLinkNest q.1 q.2.1 q.2.2.1 q.2.2.2) U) ∧ (∀ q ∈ jx_nestF, va_Nw (.fieldLinkNest q.1 q.2.1 q.2.2.1 q.2.2.2.1 q.2.2.2.2.1 q.2.2.2.2.2) U) ∧
  (∀ q ∈ jx_exs, va_Nw (.castable q q) U) ∧ (∀ q ∈ jx_exs, ∀ q' ∈ jx_exs, q ≠ q' → va_Nc q q' U) ∧
  (∀ q ∈ jx_decl, va_Nw (.declares ⟨q, "<init>", "(Ljava/lang/String;)V"⟩) U) ∧ (∀ q ∈ jx_over, va_AO q U)
theorem Gs.warm {G : jx_G} {s U : State} (h : Gs G s) (hW : s.WarmedH U.vm) (hz : s.heap.size ≤ U.heap.size) (hk : ∀ a : Nat, a < s.heap.size → ¬ gF G a → U.heap[a]? = s.heap[a]?) : Gs G U := by
  obtain ⟨h1, h2, h3, h4, h5, h6, h7, h8, h9, h10, h11, h12, h13, h14, h15, h17, h16⟩ := h
  refine ⟨va_K.moved hW.alike h1, (h2.moved hW.alike).kept hk, (h3.moved hW.alike).kept hk, (h4.moved hW.alike).kept hk, (h5.moved hW.alike).kept hk, (h6.moved hW.alike).kept ?_, h7, Nat.le_trans h8 hz, vx_Zq.moved hW.alike (h9.kept hk), vx_Zq.moved hW.alike (h10.kept hk), fun q hq => ?_, fun q hq => va_Nw.warmM hW (h12 q hq), fun q hq => va_Nw.warmF hW (h13 q hq), fun q hq => va_Nw.warmC hW (h14 q hq), fun q hq q' hq' hne => va_Nc.moved hW.alike (h15 q hq q' hq' hne), fun q hq => va_Nw.warmD hW (h17 q hq), fun q hq => va_AO.moved hW.alike (h16 q hq)⟩
  · exact hk _ (Nat.lt_of_lt_of_le h7 h8) (Nat.not_le.mpr h7)
  · obtain ⟨sa, ha⟩ := h11 q hq
    exact ⟨sa, vk_R.warm hW ha⟩
def jExt (ad0 : Nat → Nat → Nat) (n0 : Nat → Nat) (ad : Nat → Nat → Nat) (M : jx_M) : Prop := ∀ r, n0 r ≤ qN M r ∧ ∀ i, i < n0 r → ad r i = ad0 r i
abbrev jx_O : Type := Option jx_V ⊕ Nat
def jx_exN (k : Nat) : String := match k with
  | 1 => "java/lang/IndexOutOfBoundsException"
  | 2 => "java/lang/IllegalArgumentException"
  | _ => "java/lang/IllegalStateException"
def QcR (G : jx_G) (ad0 : Nat → Nat → Nat) (n0 : Nat → Nat) (Q : jx_O → jx_M → Prop) : Array Value → State → Outcome → State → Prop := fun _ st o t =>
  ∃ (ad : Nat → Nat → Nat) (M : jx_M) (v : Option jx_V), o = .returned (v.map (cv ad)) ∧ Rel G ad M t.heap ∧ jExt ad0 n0 ad M ∧ (∀ x, v = some x → okA M x) ∧ Q (.inl v) M ∧ va_F (gF G) st t
def QcX (G : jx_G) (ad0 : Nat → Nat → Nat) (n0 : Nat → Nat) (Q : jx_O → jx_M → Prop) : String → State → State → Prop := fun E st t =>
  ∃ (ad : Nat → Nat → Nat) (M : jx_M) (k : Nat), E = jx_exN k ∧ (k = 1 ∨ k = 2 ∨ k = 3) ∧ Rel G ad M t.heap ∧ jExt ad0 n0 ad M ∧ Q (.inr k) M ∧ va_F (gF G) st t
/-- a method: its name, code, locals, what it returns, how deep it goes, how many cells and slots it makes -/
abbrev jx_Y : Type := MethodName × ByteArray × Nat × Option FieldType × Nat × Nat × Nat
abbrev yNm (y : jx_Y) : MethodName := y.1
abbrev yB (y : jx_Y) : ByteArray := y.2.1
abbrev yL (y : jx_Y) : Nat := y.2.2.1
abbrev yRt (y : jx_Y) : Option FieldType := y.2.2.2.1
abbrev yLv (y : jx_Y) : Nat := y.2.2.2.2.1
abbrev yMc (y : jx_Y) : Nat := y.2.2.2.2.2.1
abbrev yMs (y : jx_Y) : Nat := y.2.2.2.2.2.2
def rmm (y : jx_Y) : Room := { frames := yLv y, cells := yMc y, slots := yMs y, locals := 32 * yLv y }
def Mt (G : jx_G) (y : jx_Y) (as : List jx_V) (M : jx_M) (Q : jx_O → jx_M → Prop) : Prop := ∀ ad : Nat → Nat → Nat,
  Met (gl G) (yNm y) (Cond.code (yNm y) (yB y) (yL y) (yRt y) :: jx_WT) (rmm y) (va_Pc (as.map (cv ad)) (fun U => Gs G U ∧ Rel G ad M U.heap ∧ okS M as)) (QcR G ad (qN M) Q) (yMc y) (yMs y) (gF G)
def Mx (G : jx_G) (y : jx_Y) (as : List jx_V) (M : jx_M) (Q : jx_O → jx_M → Prop) : Prop := ∀ ad : Nat → Nat → Nat,
  vx_Met (gl G) (yNm y) (Cond.code (yNm y) (yB y) (yL y) (yRt y) :: jx_WT) (rmm y) (va_Pc (as.map (cv ad)) (fun U => Gs G U ∧ Rel G ad M U.heap ∧ okS M as)) (QcR G ad (qN M) Q) (QcX G ad (qN M) Q) (yMc y) (yMs y) (gF G)
def Wm (G : jx_G) (p : Program) (e : Env) (R : Room) (s : State) (m : MethodId) (args : Array Value) (below : List Frame) (meth : Method) (c : Code) (Qf : State → Prop) (ad0 : Nat → Nat → Nat) (n0 : Nat → Nat) (nL : Nat) (pc : Nat) (ls : jx_L) (st : List jx_V) (M : jx_M) (cu su : Nat) : Prop :=
  ∀ (ad : Nat → Nat → Nat) (H : Heap) (locs : List Loc) (lsA : Array Slot), Rel G ad M H → jExt ad0 n0 ad M → okL M ls → okS M st → va_S (gF G) s.heap H locs → LH ad lsA nL c.code.size ls →
    W p (gl G) e R s m args below meth c H locs cu su Qf (F0 m pc lsA (st.map (cv ad)))
abbrev jx_J : Type := Nat → jx_L → List jx_V → jx_M → Nat → Nat → Prop
abbrev jx_K : Type := jx_L → List jx_V → jx_M → Nat → Nat → Prop
abbrev jx_Tr : Type := jx_L → List jx_V → jx_M → Nat → Nat → jx_J → (jx_O → jx_M → Prop) → jx_K → Prop
def Snd (G : jx_G) (p : Program) (e : Env) (R : Room) (s : State) (m : MethodId) (args : Array Value) (below : List Frame) (meth : Method) (c : Code) (Qf : State → Prop) (ad0 : Nat → Nat → Nat) (n0 : Nat → Nat) (nL : Nat) (Q : jx_O → jx_M → Prop) (pc pc1 : Nat) (t : jx_Tr) : Prop := ∀ (J : jx_J) (K : jx_K), (∀ pc ls st M cu su, J pc ls st M cu su → Wm G p e R s m args below meth c Qf ad0 n0 nL pc ls st M cu su) → (∀ ls st M cu su, K ls st M cu su → Wm G p e R s m args below meth c Qf ad0 n0 nL pc1 ls st M cu su) → ∀ ls st M cu su, t ls st M cu su J Q K → Wm G p e R s m args below meth c Qf ad0 n0 nL pc ls st M cu su
theorem okS_cons {M : jx_M} {v : jx_V} {st : List jx_V} (h : okA M v) (hs : okS M st) : okS M (v :: st) := fun x hx => (List.mem_cons.mp hx).elim (fun q => q ▸ h) (hs x)
theorem okS_hd {M : jx_M} {v : jx_V} {st : List jx_V} (h : okS M (v :: st)) : okA M v := h v List.mem_cons_self
theorem okS_tl {M : jx_M} {v : jx_V} {st : List jx_V} (h : okS M (v :: st)) : okS M st := fun x hx => h x (List.mem_cons_of_mem _ hx)
theorem okA_i {M : jx_M} {x : Int32} : okA M (.inl x) := trivial
theorem okA_l {M : jx_M} {x : Int64} : okA M (.inr (.inl x)) := trivial
theorem okA_p {M : jx_M} {r : Nat} {o : Option Nat} (h : ∀ i, o = some i → i < qN M r) : okA M (.inr (.inr (r, o))) := by
  cases o with
  | none => trivial
  | some i => exact h i rfl
def jget : jx_L → Nat → Option jx_V
  | [], _ => none
  | a :: _, 0 => a
  | _ :: l, n + 1 => jget l n
def jset : jx_L → Nat → jx_V → jx_L
  | [], _, _ => []
  | _ :: l, 0, v => some v :: l
  | a :: l, n + 1, v => a :: jset l n v
theorem jget_at : ∀ {ls : jx_L} {i : Nat} {v : jx_V}, jget ls i = some v → ls[i]? = some (some v)
  | [], _, _, h => by cases h
  | a :: l, 0, v, h => by
    have h1 : a = some v := h
    simp [h1]
  | a :: l, n + 1, v, h => by
    have h1 : jget l n = some v := h
    simpa using jget_at h1
theorem jset_at : ∀ (ls : jx_L) (i : Nat) (v : jx_V) (j : Nat) (x : jx_V), (jset ls i v)[j]? = some (some x) → (j = i ∧ x = v) ∨ (j ≠ i ∧ ls[j]? = some (some x))
  | [], _, _, _, _, h => by simp [jset] at h
  | a :: l, 0, v, j, x, h => by
    cases j with
    | zero =>
      simp [jset] at h
      exact Or.inl ⟨rfl, h.symm⟩
    | succ j =>
      simp [jset] at h
      exact Or.inr ⟨by omega, by simpa using h⟩
  | a :: l, n + 1, v, j, x, h => by
    cases j with
    | zero =>
      simp [jset] at h
      exact Or.inr ⟨by omega, by simpa using h⟩
    | succ j =>
      simp [jset] at h
      rcases jset_at l n v j x h with ⟨q1, q2⟩ | ⟨q1, q2⟩
      · exact Or.inl ⟨by omega, q2⟩
      · exact Or.inr ⟨by omega, by simpa using q2⟩
def jpr (ad : Nat → Nat → Nat) : jx_L → Nat → List (Nat × Value)
  | [], _ => []
  | none :: l, n => jpr ad l (n + 1)
  | some v :: l, n => (n, cv ad v) :: jpr ad l (n + 1)
theorem jpr_in (ad : Nat → Nat → Nat) : ∀ (ls : jx_L) (n : Nat) (q : Nat × Value), q ∈ jpr ad ls n → ∃ (j : Nat) (v : jx_V), q = (n + j, cv ad v) ∧ ls[j]? = some (some v)
  | [], _, _, h => by simp [jpr] at h
  | none :: l, n, q, h => by
    obtain ⟨j, v, e1, e2⟩ := jpr_in ad l (n + 1) q h
    exact ⟨j + 1, v, by rw [e1]; congr 1; omega, by simpa using e2⟩
  | some v :: l, n, q, h => by
    simp only [jpr, List.mem_cons] at h
    rcases h with h | h
    · exact ⟨0, v, by simpa using h, by simp⟩
    · obtain ⟨j, v', e1, e2⟩ := jpr_in ad l (n + 1) q h
      exact ⟨j + 1, v', by rw [e1]; congr 1; omega, by simpa using e2⟩
theorem jpr_mem (ad : Nat → Nat → Nat) : ∀ (ls : jx_L) (n j : Nat) (v : jx_V), ls[j]? = some (some v) → (n + j, cv ad v) ∈ jpr ad ls n
  | [], _, _, _, h => by simp at h
  | none :: l, n, 0, v, h => by simp at h
  | none :: l, n, j + 1, v, h => by
    have h1 := jpr_mem ad l (n + 1) j v (by simpa using h)
    simp only [jpr]
    rw [show n + (j + 1) = n + 1 + j by omega]
    exact h1
  | some a :: l, n, 0, v, h => by
    simp at h
    subst h
    simp [jpr]
  | some a :: l, n, j + 1, v, h => by
    have h1 := jpr_mem ad l (n + 1) j v (by simpa using h)
    simp only [jpr, List.mem_cons]
    rw [show n + (j + 1) = n + 1 + j by omega]
    exact Or.inr h1
theorem LH.has {ad : Nat → Nat → Nat} {lsA : Array Slot} {nL cz : Nat} {ls : jx_L} (h : LH ad lsA nL cz ls) : lv_has lsA nL (jpr ad ls 0) := by
  refine ⟨h.1, h.2.1, fun q hq => ?_⟩
  obtain ⟨j, v, rfl, e⟩ := jpr_in ad ls 0 q hq
  simpa using (h.2.2 j v e).1
theorem jc1_cat {v : jx_V} (h : jc1 v = true) (ad : Nat → Nat → Nat) : (cv ad v).category = 1 := by
  rcases v with x | x | ⟨r, o⟩
  · rfl
  · cases h
  · cases o <;> rfl
theorem LH.set {ad : Nat → Nat → Nat} {lsA lsA' : Array Slot} {nL cz i : Nat} {ls : jx_L} {v : jx_V} (h0 : LH ad lsA nL cz ls) (hg : jfr cz i = true) (hv : jc1 v = true) (h : lv_has lsA' nL ((i, cv ad v) :: (jpr ad ls 0).filter (fun q => !(q.1 == i) && !(q.1 + 1 == i && q.2.category == 2)))) : LH ad lsA' nL cz (jset ls i v) := by
  refine ⟨h.1, h.2.1, fun j x hj => ?_⟩
  rcases jset_at ls i v j x hj with ⟨rfl, rfl⟩ | ⟨hne, hx⟩
  · exact ⟨h.2.2 (j, cv ad x) List.mem_cons_self, Or.inl hv⟩
  · have hm := jpr_mem ad ls 0 j x hx
    have hc := (h0.2.2 j x hx).2
    have hk : (!(j == i) && !(j + 1 == i && (cv ad x).category == 2)) = true := by
      by_cases e : j + 1 = i
      · have hc1 : (cv ad x).category = 1 := jc1_cat (hc.resolve_right (jfr_at hg e)) ad
        simp [hne, hc1]
      · simp [hne, e]
    have := h.2.2 (j, cv ad x) (List.mem_cons_of_mem _ (List.mem_filter.mpr ⟨by simpa using hm, hk⟩))
    exact ⟨this, hc⟩
def jclp : jx_L → Nat → jx_L
  | [], _ => []
  | _ :: l, 0 => none :: l
  | a :: l, n + 1 => a :: jclp l n
def jkp : Option jx_V → Option jx_V
  | none => none
  | some (.inl x) => some (.inl x)
  | some (.inr (.inl _)) => none
  | some (.inr (.inr q)) => some (.inr (.inr q))
def jcll : jx_L → Nat → jx_L
  | [], _ => []
  | a :: l, 0 => jkp a :: l
  | a :: l, n + 1 => a :: jcll l n
theorem jkp_at : ∀ (a : Option jx_V) (x : jx_V), jkp a = some x → jc1 x = true ∧ a = some x
  | none, _, h => by cases h
  | some (.inl _), _, h => by cases h; exact ⟨rfl, rfl⟩
  | some (.inr (.inl _)), _, h => by cases h
  | some (.inr (.inr _)), _, h => by cases h; exact ⟨rfl, rfl⟩
/-- what a store at place i leaves of the places ahead of it -/
def jdst (ls : jx_L) : Nat → jx_L
  | 0 => ls
  | j + 1 => jcll ls j
theorem jclp_at : ∀ (ls : jx_L) (i j : Nat) (x : jx_V), (jclp ls i)[j]? = some (some x) → j ≠ i ∧ ls[j]? = some (some x)
  | [], _, _, _, h => by simp [jclp] at h
  | a :: l, 0, 0, x, h => by simp [jclp] at h
  | a :: l, 0, j + 1, x, h => by simp [jclp] at h; exact ⟨by omega, by simpa using h⟩
  | a :: l, n + 1, 0, x, h => by simp [jclp] at h; exact ⟨by omega, by simp [h]⟩
  | a :: l, n + 1, j + 1, x, h => by
    simp [jclp] at h
    obtain ⟨q1, q2⟩ := jclp_at l n j x h
    exact ⟨by omega, by simpa using q2⟩
theorem jcll_at : ∀ (ls : jx_L) (i j : Nat) (x : jx_V), (jcll ls i)[j]? = some (some x) → (j = i → jc1 x = true) ∧ ls[j]? = some (some x)
  | [], _, _, _, h => by simp [jcll] at h
  | a :: l, 0, 0, x, h => by
    have h1 : jkp a = some x := by simpa [jcll] using h
    obtain ⟨q1, q2⟩ := jkp_at a x h1
    exact ⟨fun _ => q1, by simp [q2]⟩
  | a :: l, 0, j + 1, x, h => by simp [jcll] at h; exact ⟨fun q => by omega, by simpa using h⟩
  | a :: l, n + 1, 0, x, h => by simp [jcll] at h; exact ⟨fun q => by omega, by simp [h]⟩
  | a :: l, n + 1, j + 1, x, h => by
    simp [jcll] at h
    obtain ⟨q1, q2⟩ := jcll_at l n j x h
    exact ⟨fun q => q1 (by omega), by simpa using q2⟩
theorem jdst_at {ls : jx_L} {i j : Nat} {x : jx_V} (h : (jdst ls i)[j]? = some (some x)) : (j + 1 = i → jc1 x = true) ∧ ls[j]? = some (some x) := by
  cases i with
  | zero => exact ⟨fun q => by omega, h⟩
  | succ i =>
    obtain ⟨q1, q2⟩ := jcll_at ls i j x h
    exact ⟨fun q => q1 (by omega), q2⟩
theorem LH.setD {ad : Nat → Nat → Nat} {lsA lsA' : Array Slot} {nL cz i : Nat} {ls : jx_L} {v : jx_V} (h0 : LH ad lsA nL cz ls) (hv : jc1 v = true) (h : lv_has lsA' nL ((i, cv ad v) :: (jpr ad ls 0).filter (fun q => !(q.1 == i) && !(q.1 + 1 == i && q.2.category == 2)))) : LH ad lsA' nL cz (jset (jdst ls i) i v) := by
  refine ⟨h.1, h.2.1, fun j x hj => ?_⟩
  rcases jset_at (jdst ls i) i v j x hj with ⟨rfl, rfl⟩ | ⟨hne, hx0⟩
  · exact ⟨h.2.2 (j, cv ad x) List.mem_cons_self, Or.inl hv⟩
  · obtain ⟨hd, hx⟩ := jdst_at hx0
    have hm := jpr_mem ad ls 0 j x hx
    have hk : (!(j == i) && !(j + 1 == i && (cv ad x).category == 2)) = true := by
      by_cases e : j + 1 = i
      · have hc1 : (cv ad x).category = 1 := jc1_cat (hd e) ad
        simp [hne, hc1]
      · simp [hne, e]
    have := h.2.2 (j, cv ad x) (List.mem_cons_of_mem _ (List.mem_filter.mpr ⟨by simpa using hm, hk⟩))
    exact ⟨this, (h0.2.2 j x hx).2⟩
theorem LH.setL {ad : Nat → Nat → Nat} {lsA lsA' : Array Slot} {nL cz i : Nat} {ls : jx_L} {y : Int64} (h0 : LH ad lsA nL cz ls) (hg : i ∈ lgOf cz) (h : lv_has lsA' nL ((i, Value.long y) :: (jpr ad ls 0).filter (fun q => !(q.1 == i) && (!(q.1 == i + 1) && !(q.1 + 1 == i && q.2.category == 2))))) : LH ad lsA' nL cz (jset (jclp (jdst ls i) (i + 1)) i (.inr (.inl y))) := by
  refine ⟨h.1, h.2.1, fun j x hj => ?_⟩
  rcases jset_at (jclp (jdst ls i) (i + 1)) i _ j x hj with ⟨rfl, rfl⟩ | ⟨hne, hx1⟩
  · exact ⟨h.2.2 (j, Value.long y) List.mem_cons_self, Or.inr hg⟩
  · obtain ⟨hn1, hx0⟩ := jclp_at _ _ _ _ hx1
    obtain ⟨hd, hx⟩ := jdst_at hx0
    have hm := jpr_mem ad ls 0 j x hx
    have hk : (!(j == i) && (!(j == i + 1) && !(j + 1 == i && (cv ad x).category == 2))) = true := by
      by_cases e : j + 1 = i
      · have hc1 : (cv ad x).category = 1 := jc1_cat (hd e) ad
        simp [hne, hn1, hc1]
      · simp [hne, hn1, e]
    have := h.2.2 (j, cv ad x) (List.mem_cons_of_mem _ (List.mem_filter.mpr ⟨by simpa using hm, hk⟩))
    exact ⟨this, (h0.2.2 j x hx).2⟩
theorem okL_set {M : jx_M} {ls : jx_L} {i : Nat} {v : jx_V} (h : okL M ls) (hv : okA M v) : okL M (jset ls i v) := by
  intro x hx
  obtain ⟨j, hj⟩ := List.getElem?_of_mem hx
  rcases jset_at ls i v j x hj with ⟨-, rfl⟩ | ⟨-, q⟩
  · exact hv
  · exact h x (List.mem_of_getElem? q)
theorem okL_dst {M : jx_M} {ls : jx_L} {i : Nat} (h : okL M ls) : okL M (jdst ls i) := by
  intro x hx
  obtain ⟨j, hj⟩ := List.getElem?_of_mem hx
  exact h x (List.mem_of_getElem? (jdst_at hj).2)
theorem okL_clp {M : jx_M} {ls : jx_L} {i : Nat} (h : okL M ls) : okL M (jclp ls i) := by
  intro x hx
  obtain ⟨j, hj⟩ := List.getElem?_of_mem hx
  exact h x (List.mem_of_getElem? (jclp_at _ _ _ _ hj).2)
theorem cv_p_cat (ad : Nat → Nat → Nat) (q : Nat × Option Nat) : (cv ad (.inr (.inr q))).category = 1 := by
  obtain ⟨r, o⟩ := q
  cases o <;> rfl
theorem vx_jn {x : Int32} {n : Nat} (h : vp_in x n) : x.toNatClampNeg < n := Nat.not_le.mp fun q => h (Or.inr q)
def ti_const (v : Int32) : jx_Tr := fun ls st M cu su _ _ K => K ls (.inl v :: st) M cu su
def ti_null (r : Nat) : jx_Tr := fun ls st M cu su _ _ K => K ls (.inr (.inr (r, none)) :: st) M cu su
def ti_iload (i : Nat) : jx_Tr := fun ls st M cu su _ _ K => match jget ls i with
  | some (.inl x) => K ls (.inl x :: st) M cu su
  | _ => False
def ti_aload (i : Nat) : jx_Tr := fun ls st M cu su _ _ K => match jget ls i with
  | some (.inr (.inr q)) => K ls (.inr (.inr q) :: st) M cu su
  | _ => False
def ti_istore (i : Nat) : jx_Tr := fun ls st M cu su _ _ K => match st with
  | .inl x :: r => K (jset ls i (.inl x)) r M cu su
  | _ => False
def ti_astore (i : Nat) : jx_Tr := fun ls st M cu su _ _ K => match st with
  | .inr (.inr q) :: r => K (jset ls i (.inr (.inr q))) r M cu su
  | _ => False
def ti_lconst (v : Int64) : jx_Tr := fun ls st M cu su _ _ K => K ls (.inr (.inl v) :: st) M cu su
def ti_lload (i : Nat) : jx_Tr := fun ls st M cu su _ _ K => match jget ls i with
  | some (.inr (.inl x)) => K ls (.inr (.inl x) :: st) M cu su
  | _ => False
def ti_lstore (i : Nat) : jx_Tr := fun ls st M cu su _ _ K => match st with
  | .inr (.inl x) :: r => K (jset (jclp (jdst ls i) (i + 1)) i (.inr (.inl x))) r M cu su
  | _ => False
def ti_istoreD (i : Nat) : jx_Tr := fun ls st M cu su _ _ K => match st with
  | .inl x :: r => K (jset (jdst ls i) i (.inl x)) r M cu su
  | _ => False
def ti_iincD (i : Nat) (v : Int32) : jx_Tr := fun ls st M cu su _ _ K => match jget ls i with
  | some (.inl x) => K (jset (jdst ls i) i (.inl (x + v))) st M cu su
  | _ => False
def ti_lbin (f : Int64 → Int64 → Int64) : jx_Tr := fun ls st M cu su _ _ K => match st with
  | .inr (.inl y) :: .inr (.inl x) :: r => K ls (.inr (.inl (f x y)) :: r) M cu su
  | _ => False
def ti_l2i : jx_Tr := fun ls st M cu su _ _ K => match st with
  | .inr (.inl x) :: r => K ls (.inl x.toInt32 :: r) M cu su
  | _ => False
def ti_jret (mc ms : Nat) : jx_Tr := fun _ st M cu su _ Q _ => match st with
  | [.inr (.inl x)] => cu ≤ mc ∧ su ≤ ms ∧ Q (.inl (some (.inr (.inl x)))) M
  | _ => False
def ti_iinc (i : Nat) (v : Int32) : jx_Tr := fun ls st M cu su _ _ K => match jget ls i with
  | some (.inl x) => K (jset ls i (.inl (x + v))) st M cu su
  | _ => False
def ti_bin (f : Int32 → Int32 → Int32) : jx_Tr := fun ls st M cu su _ _ K => match st with
  | .inl y :: .inl x :: r => K ls (.inl (f x y) :: r) M cu su
  | _ => False
def ti_div : jx_Tr := fun ls st M cu su _ _ K => match st with
  | .inl y :: .inl x :: r => ¬ y = 0 ∧ K ls (.inl (x / y) :: r) M cu su
  | _ => False
def ti_rem : jx_Tr := fun ls st M cu su _ _ K => match st with
  | .inl y :: .inl x :: r => ¬ y = 0 ∧ K ls (.inl (x - x / y * y) :: r) M cu su
  | _ => False
def ti_i2c : jx_Tr := fun ls st M cu su _ _ K => match st with
  | .inl x :: r => K ls (.inl (x.toUInt32 % 65536).toInt32 :: r) M cu su
  | _ => False
def ti_i2l : jx_Tr := fun ls st M cu su _ _ K => match st with
  | .inl x :: r => K ls (.inr (.inl x.toInt64) :: r) M cu su
  | _ => False
def ti_lcmp : jx_Tr := fun ls st M cu su _ _ K => match st with
  | .inr (.inl y) :: .inr (.inl x) :: r => K ls (.inl (lg_cmp x y) :: r) M cu su
  | _ => False
def ti_dup : jx_Tr := fun ls st M cu su _ _ K => match st with
  | v :: r => jc1 v = true ∧ K ls (v :: v :: r) M cu su
  | _ => False
def ti_pop : jx_Tr := fun ls st M cu su _ _ K => match st with
  | v :: r => jc1 v = true ∧ K ls r M cu su
  | _ => False
def ti_dup2 : jx_Tr := fun ls st M cu su _ _ K => match st with
  | v :: w :: r => jc1 v = true ∧ jc1 w = true ∧ K ls (v :: w :: v :: w :: r) M cu su
  | _ => False
def ti_if (P : Int32 → Prop) (tgt : Nat) : jx_Tr := fun ls st M cu su J _ K => match st with
  | .inl x :: r => (P x → J tgt ls r M cu su) ∧ (¬ P x → K ls r M cu su)
  | _ => False
def ti_icmp (P : Int32 → Int32 → Prop) (tgt : Nat) : jx_Tr := fun ls st M cu su J _ K => match st with
  | .inl y :: .inl x :: r => (P x y → J tgt ls r M cu su) ∧ (¬ P x y → K ls r M cu su)
  | _ => False
def ti_acmpEq (tgt : Nat) : jx_Tr := fun ls st M cu su J _ K => match st with
  | .inr (.inr b) :: .inr (.inr a) :: r => a.1 = b.1 ∧ a.1 < 48 ∧ (a.2 = b.2 → J tgt ls r M cu su) ∧ (¬ a.2 = b.2 → K ls r M cu su)
  | _ => False
def ti_acmpNe (tgt : Nat) : jx_Tr := fun ls st M cu su J _ K => match st with
  | .inr (.inr b) :: .inr (.inr a) :: r => a.1 = b.1 ∧ a.1 < 48 ∧ (¬ a.2 = b.2 → J tgt ls r M cu su) ∧ (a.2 = b.2 → K ls r M cu su)
  | _ => False
def ti_ifnull (tgt : Nat) : jx_Tr := fun ls st M cu su J _ K => match st with
  | .inr (.inr a) :: r => (a.2 = none → J tgt ls r M cu su) ∧ (¬ a.2 = none → K ls r M cu su)
  | _ => False
def ti_ifnonnull (tgt : Nat) : jx_Tr := fun ls st M cu su J _ K => match st with
  | .inr (.inr a) :: r => (¬ a.2 = none → J tgt ls r M cu su) ∧ (a.2 = none → K ls r M cu su)
  | _ => False
def ti_goto (tgt : Nat) : jx_Tr := fun ls st M cu su J _ _ => J tgt ls st M cu su
def ti_getI (r k : Nat) : jx_Tr := fun ls st M cu su _ _ K => match st with
  | .inr (.inr a) :: q => ∃ i, a = (r, some i) ∧ K ls (.inl (qI M r i k) :: q) M cu su
  | _ => False
def ti_getP (r k z : Nat) : jx_Tr := fun ls st M cu su _ _ K => match st with
  | .inr (.inr a) :: q => ∃ i, a = (r, some i) ∧ K ls (.inr (.inr (z, qP M r i k)) :: q) M cu su
  | _ => False
def ti_putI (r k : Nat) : jx_Tr := fun ls st M cu su _ _ K => match st with
  | .inl x :: .inr (.inr a) :: q => ∃ i, a = (r, some i) ∧ K ls q (wI M r i k x) cu su
  | _ => False
def ti_putZ (r k : Nat) : jx_Tr := fun ls st M cu su _ _ K => match st with
  | .inl x :: .inr (.inr a) :: q => ∃ i, a = (r, some i) ∧ (x = 0 ∨ x = 1) ∧ K ls q (wI M r i k x) cu su
  | _ => False
def ti_putP (r k z : Nat) : jx_Tr := fun ls st M cu su _ _ K => match st with
  | .inr (.inr b) :: .inr (.inr a) :: q => b.1 = z ∧ ∃ i, a = (r, some i) ∧ K ls q (wP M r i k b.2) cu su
  | _ => False
def ti_alen (r : Nat) : jx_Tr := fun ls st M cu su _ _ K => match st with
  | .inr (.inr a) :: q => ∃ i, a = (r, some i) ∧ K ls (.inl (nI (aL r)) :: q) M cu su
  | _ => False
def ti_ald (r : Nat) : jx_Tr := fun ls st M cu su _ _ K => match st with
  | .inl x :: .inr (.inr a) :: q => ∃ i, a = (r, some i) ∧ vp_in x (aL r) ∧ K ls (.inl (qI M r i x.toNatClampNeg) :: q) M cu su
  | _ => False
def ti_aldP (r z : Nat) : jx_Tr := fun ls st M cu su _ _ K => match st with
  | .inl x :: .inr (.inr a) :: q => ∃ i, a = (r, some i) ∧ vp_in x (aL r) ∧ K ls (.inr (.inr (z, qP M r i x.toNatClampNeg)) :: q) M cu su
  | _ => False
def ti_aldJ : jx_Tr := fun ls st M cu su _ _ K => match st with
  | .inl x :: .inr (.inr a) :: q => ∃ i, a = (47, some i) ∧ vp_in x 1 ∧ K ls (.inr (.inl (qJ M x.toNatClampNeg)) :: q) M cu su
  | _ => False
def ti_ast (r : Nat) : jx_Tr := fun ls st M cu su _ _ K => match st with
  | .inl v :: .inl x :: .inr (.inr a) :: q => ∃ i, a = (r, some i) ∧ vp_in x (aL r) ∧ K ls q (wI M r i x.toNatClampNeg v) cu su
  | _ => False
def ti_astC (r : Nat) : jx_Tr := fun ls st M cu su _ _ K => match st with
  | .inl v :: .inl x :: .inr (.inr a) :: q => ∃ i, a = (r, some i) ∧ vp_in x (aL r) ∧ (v.toUInt32 % 65536).toInt32 = v ∧ K ls q (wI M r i x.toNatClampNeg v) cu su
  | _ => False
def ti_astZ (r : Nat) : jx_Tr := fun ls st M cu su _ _ K => match st with
  | .inl v :: .inl x :: .inr (.inr a) :: q => ∃ i, a = (r, some i) ∧ vp_in x (aL r) ∧ (v = 0 ∨ v = 1) ∧ K ls q (wI M r i x.toNatClampNeg v) cu su
  | _ => False
def ti_astJ : jx_Tr := fun ls st M cu su _ _ K => match st with
  | .inr (.inl v) :: .inl x :: .inr (.inr a) :: q => ∃ i, a = (47, some i) ∧ vp_in x 1 ∧ qN M 47 ≤ 1 ∧ K ls q (wJ M x.toNatClampNeg v) cu su
  | _ => False
def ti_astP (r z : Nat) : jx_Tr := fun ls st M cu su _ _ K => match st with
  | .inr (.inr b) :: .inl x :: .inr (.inr a) :: q => b.1 = z ∧ ∃ i, a = (r, some i) ∧ vp_in x (aL r) ∧ K ls q (wP M r i x.toNatClampNeg b.2) cu su
  | _ => False
def ti_getst (r : Nat) : jx_Tr := fun ls st M cu su _ _ K => K ls (.inr (.inr (r, some 0)) :: st) M cu su
def ti_ldW : jx_Tr := fun ls st M cu su _ _ K => match st with
  | .inl x :: .inr (.inr a) :: q => a = (48, some 0) ∧ vp_in x 29 ∧ K ls (.inl (jx_wid.getD x.toNatClampNeg 0) :: q) M cu su
  | _ => False
def ti_ldU : jx_Tr := fun ls st M cu su _ _ K => match st with
  | .inl x :: .inr (.inr a) :: q => a = (49, some 0) ∧ vp_in x 5 ∧ K ls (.inl (jx_uni.getD x.toNatClampNeg 0) :: q) M cu su
  | _ => False
def ti_lenW : jx_Tr := fun ls st M cu su _ _ K => match st with
  | .inr (.inr a) :: q => a = (48, some 0) ∧ K ls (.inl 29 :: q) M cu su
  | _ => False
def ti_lenU : jx_Tr := fun ls st M cu su _ _ K => match st with
  | .inr (.inr a) :: q => a = (49, some 0) ∧ K ls (.inl 5 :: q) M cu su
  | _ => False
def ti_ldX (f : Nat → Int32) (L : Nat) : jx_Tr := fun ls st M cu su _ _ K => match st with
  | .inl x :: .inr (.inr a) :: q => a = (50, some 0) ∧ vp_in x L ∧ K ls (.inl (f x.toNatClampNeg) :: q) M cu su
  | _ => False
def ti_lenX (L : Nat) : jx_Tr := fun ls st M cu su _ _ K => match st with
  | .inr (.inr a) :: q => a = (50, some 0) ∧ K ls (.inl (nI L) :: q) M cu su
  | _ => False
def ti_iret (mc ms : Nat) : jx_Tr := fun _ st M cu su _ Q _ => match st with
  | [.inl x] => cu ≤ mc ∧ su ≤ ms ∧ Q (.inl (some (.inl x))) M
  | _ => False
def ti_zret (mc ms : Nat) : jx_Tr := fun _ st M cu su _ Q _ => match st with
  | [.inl x] => cu ≤ mc ∧ su ≤ ms ∧ (x = 0 ∨ x = 1) ∧ Q (.inl (some (.inl x))) M
  | _ => False
def ti_cret (mc ms : Nat) : jx_Tr := fun _ st M cu su _ Q _ => match st with
  | [.inl x] => cu ≤ mc ∧ su ≤ ms ∧ (x.toUInt32 % 65536).toInt32 = x ∧ Q (.inl (some (.inl x))) M
  | _ => False
def ti_aret (mc ms : Nat) : jx_Tr := fun _ st M cu su _ Q _ => match st with
  | [.inr (.inr a)] => cu ≤ mc ∧ su ≤ ms ∧ Q (.inl (some (.inr (.inr a)))) M
  | _ => False
def ti_vret (mc ms : Nat) : jx_Tr := fun _ st M cu su _ Q _ => match st with
  | [] => cu ≤ mc ∧ su ≤ ms ∧ Q (.inl none) M
  | _ => False
def jsw (x : Int32) (J : Nat → Prop) (d : Nat) : Int → List Nat → Prop
  | _, [] => J d
  | lo, t :: ts => (x.toInt = lo → J t) ∧ (¬ x.toInt = lo → jsw x J d (lo + 1) ts)
def ti_tsw (lo : Int) (ts : List Nat) (d : Nat) : jx_Tr := fun ls st M cu su J _ _ => match st with
  | .inl x :: r => jsw x (fun t => J t ls r M cu su) d lo ts
  | _ => False
def ti_oinit : jx_Tr := fun ls st M cu su _ _ K => match st with
  | .inr (.inr a) :: r => ¬ a.2 = none ∧ r.length ≤ 4 ∧ K ls r M cu su
  | _ => False
def ti_call (G : jx_G) (y : jx_Y) (n mc ms mc' ms' : Nat) : jx_Tr := fun ls st M cu su _ _ K => cu + mc' ≤ mc ∧ su + ms' ≤ ms ∧ (st.take n).length = n ∧ (st.drop n).length ≤ 4 ∧ Mt G y (st.take n).reverse M (fun o M' => match o with
  | .inl (some v) => K ls (v :: st.drop n) M' (cu + mc') (su + ms')
  | .inl none => K ls (st.drop n) M' (cu + mc') (su + ms')
  | .inr _ => False)
def ti_callV (G : jx_G) (y : jx_Y) (r n mc ms mc' ms' : Nat) : jx_Tr := fun ls st M cu su _ _ K => match st.drop n with
  | .inr (.inr a) :: q => cu + mc' ≤ mc ∧ su + ms' ≤ ms ∧ (st.take n).length = n ∧ q.length ≤ 4 ∧ ∃ i, a = (r, some i) ∧ Mt G y (.inr (.inr (r, some i)) :: (st.take n).reverse) M (fun o M' => match o with
    | .inl (some v) => K ls (v :: q) M' (cu + mc') (su + ms')
    | .inl none => K ls q M' (cu + mc') (su + ms')
    | .inr _ => False)
  | _ => False
def ti_throw (k mc ms : Nat) : jx_Tr := fun _ st M cu su _ Q _ => cu + 1 ≤ mc ∧ su + 6 ≤ ms ∧ st = [] ∧ Q (.inr k) M
def ti_new (r mc ms : Nat) : jx_Tr := fun ls st M cu su _ _ K => cu + 1 ≤ mc ∧ su + fN r ≤ ms ∧ K ls (.inr (.inr (r, some (qN M r))) :: st) (wNew M r) (cu + 1) (su + fN r)
def ti_newa (r mc ms : Nat) : jx_Tr := fun ls st M cu su _ _ K => match st with
  | .inl x :: q => x = nI (aL r) ∧ (r = 47 → qN M 47 = 0) ∧ cu + 1 ≤ mc ∧ su + aL r ≤ ms ∧ K ls (.inr (.inr (r, some (qN M r))) :: q) (wNew M r) (cu + 1) (su + aL r)
  | _ => False
theorem sd_iconst {G : jx_G} {p : Program} {e : Env} {R : Room} {s : State} {m : MethodId} {args : Array Value} {below : List Frame} {meth : Method} {c : Code} {Qf : State → Prop} {ad0 : Nat → Nat → Nat} {n0 : Nat → Nat} {nL : Nat} {Q : jx_O → jx_M → Prop} {cc : ByteArray} {pc : Nat} (hx : p.tables.exec = Jvm.exec) (hb : c.code = cc) {n : Int} {v : Int32} (hd : decode cc pc = .ok (.iconst n, 1)) (hv : Int32.ofInt n = v) : Snd G p e R s m args below meth c Qf ad0 n0 nL Q pc (pc + 1) (ti_const v) := by
  intro J K hJ hK ls st M cu su h
  intro ad H locs lsA hR hE hl hs hS hL
  exact lv_iconst hx hb hd hv (hK _ _ _ _ _ h ad H locs lsA hR hE hl (okS_cons okA_i hs) hS hL)
theorem sd_bipush {G : jx_G} {p : Program} {e : Env} {R : Room} {s : State} {m : MethodId} {args : Array Value} {below : List Frame} {meth : Method} {c : Code} {Qf : State → Prop} {ad0 : Nat → Nat → Nat} {n0 : Nat → Nat} {nL : Nat} {Q : jx_O → jx_M → Prop} {cc : ByteArray} {pc : Nat} (hx : p.tables.exec = Jvm.exec) (hb : c.code = cc) {n : Int} {v : Int32} (hd : decode cc pc = .ok (.bipush n, 2)) (hv : (Int8.ofInt n).toInt32 = v) : Snd G p e R s m args below meth c Qf ad0 n0 nL Q pc (pc + 2) (ti_const v) := by
  intro J K hJ hK ls st M cu su h
  intro ad H locs lsA hR hE hl hs hS hL
  exact lv_bipush hx hb hd hv (hK _ _ _ _ _ h ad H locs lsA hR hE hl (okS_cons okA_i hs) hS hL)
theorem sd_sipush {G : jx_G} {p : Program} {e : Env} {R : Room} {s : State} {m : MethodId} {args : Array Value} {below : List Frame} {meth : Method} {c : Code} {Qf : State → Prop} {ad0 : Nat → Nat → Nat} {n0 : Nat → Nat} {nL : Nat} {Q : jx_O → jx_M → Prop} {cc : ByteArray} {pc : Nat} (hx : p.tables.exec = Jvm.exec) (hb : c.code = cc) {n : Int} {v : Int32} (hd : decode cc pc = .ok (.sipush n, 3)) (hv : (Int16.ofInt n).toInt32 = v) : Snd G p e R s m args below meth c Qf ad0 n0 nL Q pc (pc + 3) (ti_const v) := by
  intro J K hJ hK ls st M cu su h
  intro ad H locs lsA hR hE hl hs hS hL
  exact lv_sipush hx hb hd hv (hK _ _ _ _ _ h ad H locs lsA hR hE hl (okS_cons okA_i hs) hS hL)
theorem sd_null {G : jx_G} {p : Program} {e : Env} {R : Room} {s : State} {m : MethodId} {args : Array Value} {below : List Frame} {meth : Method} {c : Code} {Qf : State → Prop} {ad0 : Nat → Nat → Nat} {n0 : Nat → Nat} {nL : Nat} {Q : jx_O → jx_M → Prop} {cc : ByteArray} {pc : Nat} (hx : p.tables.exec = Jvm.exec) (hb : c.code = cc) {r : Nat} (hd : decode cc pc = .ok (.aconst_null, 1)) : Snd G p e R s m args below meth c Qf ad0 n0 nL Q pc (pc + 1) (ti_null r) := by
  intro J K hJ hK ls st M cu su h
  intro ad H locs lsA hR hE hl hs hS hL
  exact lv_null hx hb hd (hK _ _ _ _ _ h ad H locs lsA hR hE hl (okS_cons (okA_p (fun _ q => by cases q)) hs) hS hL)
theorem sd_iload_n {G : jx_G} {p : Program} {e : Env} {R : Room} {s : State} {m : MethodId} {args : Array Value} {below : List Frame} {meth : Method} {c : Code} {Qf : State → Prop} {ad0 : Nat → Nat → Nat} {n0 : Nat → Nat} {nL : Nat} {Q : jx_O → jx_M → Prop} {cc : ByteArray} {pc : Nat} (hx : p.tables.exec = Jvm.exec) (hb : c.code = cc) {k : Fin 4} {i : Nat} (hd : decode cc pc = .ok (.iload_n k, 1)) (hi : (k : Nat) = i) : Snd G p e R s m args below meth c Qf ad0 n0 nL Q pc (pc + 1) (ti_iload i) := by
  intro J K hJ hK ls st M cu su h
  unfold ti_iload at h
  split at h
  · rename_i x hg
    intro ad H locs lsA hR hE hl hs hS hL
    exact lv_iload_n hx hb hd hi (hL.2.2 i _ (jget_at hg)).1 (hK _ _ _ _ _ h ad H locs lsA hR hE hl (okS_cons okA_i hs) hS hL)
  · exact h.elim
theorem sd_iload {G : jx_G} {p : Program} {e : Env} {R : Room} {s : State} {m : MethodId} {args : Array Value} {below : List Frame} {meth : Method} {c : Code} {Qf : State → Prop} {ad0 : Nat → Nat → Nat} {n0 : Nat → Nat} {nL : Nat} {Q : jx_O → jx_M → Prop} {cc : ByteArray} {pc : Nat} (hx : p.tables.exec = Jvm.exec) (hb : c.code = cc) {i : Nat} (hd : decode cc pc = .ok (.iload i, 2)) : Snd G p e R s m args below meth c Qf ad0 n0 nL Q pc (pc + 2) (ti_iload i) := by
  intro J K hJ hK ls st M cu su h
  unfold ti_iload at h
  split at h
  · rename_i x hg
    intro ad H locs lsA hR hE hl hs hS hL
    exact lv_iload hx hb hd (hL.2.2 i _ (jget_at hg)).1 (hK _ _ _ _ _ h ad H locs lsA hR hE hl (okS_cons okA_i hs) hS hL)
  · exact h.elim
theorem sd_aload_n {G : jx_G} {p : Program} {e : Env} {R : Room} {s : State} {m : MethodId} {args : Array Value} {below : List Frame} {meth : Method} {c : Code} {Qf : State → Prop} {ad0 : Nat → Nat → Nat} {n0 : Nat → Nat} {nL : Nat} {Q : jx_O → jx_M → Prop} {cc : ByteArray} {pc : Nat} (hx : p.tables.exec = Jvm.exec) (hb : c.code = cc) {k : Fin 4} {i : Nat} (hd : decode cc pc = .ok (.aload_n k, 1)) (hi : (k : Nat) = i) : Snd G p e R s m args below meth c Qf ad0 n0 nL Q pc (pc + 1) (ti_aload i) := by
  intro J K hJ hK ls st M cu su h
  unfold ti_aload at h
  split at h
  · rename_i q hg
    intro ad H locs lsA hR hE hl hs hS hL
    have hv := (hL.2.2 i _ (jget_at hg)).1
    have hk := hK _ _ _ _ _ h ad H locs lsA hR hE hl (okS_cons (hl _ (List.mem_of_getElem? (jget_at hg))) hs) hS hL
    obtain ⟨r, o⟩ := q
    cases o with
    | none => exact lv_aload_nN hx hb hd hi hv hk
    | some a => exact lv_aload_n hx hb hd hi hv hk
  · exact h.elim
theorem sd_aload {G : jx_G} {p : Program} {e : Env} {R : Room} {s : State} {m : MethodId} {args : Array Value} {below : List Frame} {meth : Method} {c : Code} {Qf : State → Prop} {ad0 : Nat → Nat → Nat} {n0 : Nat → Nat} {nL : Nat} {Q : jx_O → jx_M → Prop} {cc : ByteArray} {pc : Nat} (hx : p.tables.exec = Jvm.exec) (hb : c.code = cc) {i : Nat} (hd : decode cc pc = .ok (.aload i, 2)) : Snd G p e R s m args below meth c Qf ad0 n0 nL Q pc (pc + 2) (ti_aload i) := by
  intro J K hJ hK ls st M cu su h
  unfold ti_aload at h
  split at h
  · rename_i q hg
    intro ad H locs lsA hR hE hl hs hS hL
    have hv := (hL.2.2 i _ (jget_at hg)).1
    have hk := hK _ _ _ _ _ h ad H locs lsA hR hE hl (okS_cons (hl _ (List.mem_of_getElem? (jget_at hg))) hs) hS hL
    obtain ⟨r, o⟩ := q
    cases o with
    | none => exact lv_aloadN hx hb hd hv hk
    | some a => exact lv_aload hx hb hd hv hk
  · exact h.elim
theorem sd_istore_n {G : jx_G} {p : Program} {e : Env} {R : Room} {s : State} {m : MethodId} {args : Array Value} {below : List Frame} {meth : Method} {c : Code} {Qf : State → Prop} {ad0 : Nat → Nat → Nat} {n0 : Nat → Nat} {nL : Nat} {Q : jx_O → jx_M → Prop} {cc : ByteArray} {pc : Nat} (hx : p.tables.exec = Jvm.exec) (hb : c.code = cc) {k : Fin 4} {i : Nat} (hd : decode cc pc = .ok (.istore_n k, 1)) (hi : (k : Nat) = i) (hn : i < nL) (hgf : jfr cc.size i = true) : Snd G p e R s m args below meth c Qf ad0 n0 nL Q pc (pc + 1) (ti_istore i) := by
  intro J K hJ hK ls st M cu su h
  unfold ti_istore at h
  split at h
  · rename_i x r
    intro ad H locs lsA hR hE hl hs hS hL
    exact lv_istore_n hx hb hd hi hL.has hn rfl (fun ls' h' => hK _ _ _ _ _ h ad H locs ls' hR hE (okL_set hl okA_i) (okS_tl hs) hS (LH.set (v := .inl x) hL (by rw [hb]; exact hgf) rfl h'))
  · exact h.elim
theorem sd_istore {G : jx_G} {p : Program} {e : Env} {R : Room} {s : State} {m : MethodId} {args : Array Value} {below : List Frame} {meth : Method} {c : Code} {Qf : State → Prop} {ad0 : Nat → Nat → Nat} {n0 : Nat → Nat} {nL : Nat} {Q : jx_O → jx_M → Prop} {cc : ByteArray} {pc : Nat} (hx : p.tables.exec = Jvm.exec) (hb : c.code = cc) {i : Nat} (hd : decode cc pc = .ok (.istore i, 2)) (hn : i < nL) (hgf : jfr cc.size i = true) : Snd G p e R s m args below meth c Qf ad0 n0 nL Q pc (pc + 2) (ti_istore i) := by
  intro J K hJ hK ls st M cu su h
  unfold ti_istore at h
  split at h
  · rename_i x r
    intro ad H locs lsA hR hE hl hs hS hL
    exact lv_istore hx hb hd hL.has hn rfl (fun ls' h' => hK _ _ _ _ _ h ad H locs ls' hR hE (okL_set hl okA_i) (okS_tl hs) hS (LH.set (v := .inl x) hL (by rw [hb]; exact hgf) rfl h'))
  · exact h.elim
theorem sd_astore_n {G : jx_G} {p : Program} {e : Env} {R : Room} {s : State} {m : MethodId} {args : Array Value} {below : List Frame} {meth : Method} {c : Code} {Qf : State → Prop} {ad0 : Nat → Nat → Nat} {n0 : Nat → Nat} {nL : Nat} {Q : jx_O → jx_M → Prop} {cc : ByteArray} {pc : Nat} (hx : p.tables.exec = Jvm.exec) (hb : c.code = cc) {k : Fin 4} {i : Nat} (hd : decode cc pc = .ok (.astore_n k, 1)) (hi : (k : Nat) = i) (hn : i < nL) (hgf : jfr cc.size i = true) : Snd G p e R s m args below meth c Qf ad0 n0 nL Q pc (pc + 1) (ti_astore i) := by
  intro J K hJ hK ls st M cu su h
  unfold ti_astore at h
  split at h
  · rename_i q r
    intro ad H locs lsA hR hE hl hs hS hL
    obtain ⟨z, o⟩ := q
    have hk : ∀ ls', lv_has ls' nL ((i, cv ad (.inr (.inr (z, o)))) :: (jpr ad ls 0).filter (fun q => !(q.1 == i) && !(q.1 + 1 == i && q.2.category == 2))) → _ := fun ls' h' => hK _ _ _ _ _ h ad H locs ls' hR hE (okL_set hl (okS_hd hs)) (okS_tl hs) hS (LH.set hL (by rw [hb]; exact hgf) rfl h')
    cases o with
    | none => exact lv_astore_nN hx hb hd hi hL.has hn rfl hk
    | some a => exact lv_astore_n hx hb hd hi hL.has hn rfl hk
  · exact h.elim
theorem sd_astore {G : jx_G} {p : Program} {e : Env} {R : Room} {s : State} {m : MethodId} {args : Array Value} {below : List Frame} {meth : Method} {c : Code} {Qf : State → Prop} {ad0 : Nat → Nat → Nat} {n0 : Nat → Nat} {nL : Nat} {Q : jx_O → jx_M → Prop} {cc : ByteArray} {pc : Nat} (hx : p.tables.exec = Jvm.exec) (hb : c.code = cc) {i : Nat} (hd : decode cc pc = .ok (.astore i, 2)) (hn : i < nL) (hgf : jfr cc.size i = true) : Snd G p e R s m args below meth c Qf ad0 n0 nL Q pc (pc + 2) (ti_astore i) := by
  intro J K hJ hK ls st M cu su h
  unfold ti_astore at h
  split at h
  · rename_i q r
    intro ad H locs lsA hR hE hl hs hS hL
    obtain ⟨z, o⟩ := q
    have hk : ∀ ls', lv_has ls' nL ((i, cv ad (.inr (.inr (z, o)))) :: (jpr ad ls 0).filter (fun q => !(q.1 == i) && !(q.1 + 1 == i && q.2.category == 2))) → _ := fun ls' h' => hK _ _ _ _ _ h ad H locs ls' hR hE (okL_set hl (okS_hd hs)) (okS_tl hs) hS (LH.set hL (by rw [hb]; exact hgf) rfl h')
    cases o with
    | none => exact lv_astoreN hx hb hd hL.has hn rfl hk
    | some a => exact lv_astore hx hb hd hL.has hn rfl hk
  · exact h.elim
theorem sd_iinc {G : jx_G} {p : Program} {e : Env} {R : Room} {s : State} {m : MethodId} {args : Array Value} {below : List Frame} {meth : Method} {c : Code} {Qf : State → Prop} {ad0 : Nat → Nat → Nat} {n0 : Nat → Nat} {nL : Nat} {Q : jx_O → jx_M → Prop} {cc : ByteArray} {pc : Nat} (hx : p.tables.exec = Jvm.exec) (hb : c.code = cc) {i : Nat} {n : Int} {v : Int32} (hd : decode cc pc = .ok (.iinc i n, 3)) (hv : Int32.ofInt n = v) (hn : i < nL) (hgf : jfr cc.size i = true) : Snd G p e R s m args below meth c Qf ad0 n0 nL Q pc (pc + 3) (ti_iinc i v) := by
  intro J K hJ hK ls st M cu su h
  unfold ti_iinc at h
  split at h
  · rename_i x hg
    intro ad H locs lsA hR hE hl hs hS hL
    obtain ⟨k, hk⟩ := List.getElem?_of_mem (jpr_mem ad ls 0 i _ (jget_at hg))
    rw [Nat.zero_add] at hk
    exact lv_iinc hx hb hd hL.has hk (by rw [hv]) hn rfl (fun ls' h' => hK _ _ _ _ _ h ad H locs ls' hR hE (okL_set hl okA_i) hs hS (LH.set (v := .inl (x + v)) hL (by rw [hb]; exact hgf) rfl h'))
  · exact h.elim
theorem sd_iincD {G : jx_G} {p : Program} {e : Env} {R : Room} {s : State} {m : MethodId} {args : Array Value} {below : List Frame} {meth : Method} {c : Code} {Qf : State → Prop} {ad0 : Nat → Nat → Nat} {n0 : Nat → Nat} {nL : Nat} {Q : jx_O → jx_M → Prop} {cc : ByteArray} {pc : Nat} (hx : p.tables.exec = Jvm.exec) (hb : c.code = cc) {i : Nat} {n : Int} {v : Int32} (hd : decode cc pc = .ok (.iinc i n, 3)) (hv : Int32.ofInt n = v) (hn : i < nL) : Snd G p e R s m args below meth c Qf ad0 n0 nL Q pc (pc + 3) (ti_iincD i v) := by
  intro J K hJ hK ls st M cu su h
  unfold ti_iincD at h
  split at h
  · rename_i x hg
    intro ad H locs lsA hR hE hl hs hS hL
    obtain ⟨k, hk⟩ := List.getElem?_of_mem (jpr_mem ad ls 0 i _ (jget_at hg))
    rw [Nat.zero_add] at hk
    exact lv_iinc hx hb hd hL.has hk (by rw [hv]) hn rfl (fun ls' h' => hK _ _ _ _ _ h ad H locs ls' hR hE (okL_set (okL_dst hl) okA_i) hs hS (LH.setD (v := .inl (x + v)) hL rfl h'))
  · exact h.elim
theorem sd_istore_nD {G : jx_G} {p : Program} {e : Env} {R : Room} {s : State} {m : MethodId} {args : Array Value} {below : List Frame} {meth : Method} {c : Code} {Qf : State → Prop} {ad0 : Nat → Nat → Nat} {n0 : Nat → Nat} {nL : Nat} {Q : jx_O → jx_M → Prop} {cc : ByteArray} {pc : Nat} (hx : p.tables.exec = Jvm.exec) (hb : c.code = cc) {k : Fin 4} {i : Nat} (hd : decode cc pc = .ok (.istore_n k, 1)) (hi : (k : Nat) = i) (hn : i < nL) : Snd G p e R s m args below meth c Qf ad0 n0 nL Q pc (pc + 1) (ti_istoreD i) := by
  intro J K hJ hK ls st M cu su h
  unfold ti_istoreD at h
  split at h
  · rename_i x r
    intro ad H locs lsA hR hE hl hs hS hL
    exact lv_istore_n hx hb hd hi hL.has hn rfl (fun ls' h' => hK _ _ _ _ _ h ad H locs ls' hR hE (okL_set (okL_dst hl) okA_i) (okS_tl hs) hS (LH.setD (v := .inl x) hL rfl h'))
  · exact h.elim
theorem sd_istoreD {G : jx_G} {p : Program} {e : Env} {R : Room} {s : State} {m : MethodId} {args : Array Value} {below : List Frame} {meth : Method} {c : Code} {Qf : State → Prop} {ad0 : Nat → Nat → Nat} {n0 : Nat → Nat} {nL : Nat} {Q : jx_O → jx_M → Prop} {cc : ByteArray} {pc : Nat} (hx : p.tables.exec = Jvm.exec) (hb : c.code = cc) {i : Nat} (hd : decode cc pc = .ok (.istore i, 2)) (hn : i < nL) : Snd G p e R s m args below meth c Qf ad0 n0 nL Q pc (pc + 2) (ti_istoreD i) := by
  intro J K hJ hK ls st M cu su h
  unfold ti_istoreD at h
  split at h
  · rename_i x r
    intro ad H locs lsA hR hE hl hs hS hL
    exact lv_istore hx hb hd hL.has hn rfl (fun ls' h' => hK _ _ _ _ _ h ad H locs ls' hR hE (okL_set (okL_dst hl) okA_i) (okS_tl hs) hS (LH.setD (v := .inl x) hL rfl h'))
  · exact h.elim
theorem sd_lstore_n {G : jx_G} {p : Program} {e : Env} {R : Room} {s : State} {m : MethodId} {args : Array Value} {below : List Frame} {meth : Method} {c : Code} {Qf : State → Prop} {ad0 : Nat → Nat → Nat} {n0 : Nat → Nat} {nL : Nat} {Q : jx_O → jx_M → Prop} {cc : ByteArray} {pc : Nat} (hx : p.tables.exec = Jvm.exec) (hb : c.code = cc) {k : Fin 4} {i : Nat} (hd : decode cc pc = .ok (.lstore_n k, 1)) (hi : (k : Nat) = i) (hn : i + 1 < nL) (hgf : i ∈ lgOf cc.size) : Snd G p e R s m args below meth c Qf ad0 n0 nL Q pc (pc + 1) (ti_lstore i) := by
  intro J K hJ hK ls st M cu su h
  unfold ti_lstore at h
  split at h
  · rename_i x r
    intro ad H locs lsA hR hE hl hs hS hL
    exact lv_lstore_n hx hb hd hi hL.has hn rfl (fun ls' h' => hK _ _ _ _ _ h ad H locs ls' hR hE (okL_set (okL_clp (okL_dst hl)) okA_l) (okS_tl hs) hS (LH.setL hL (by rw [hb]; exact hgf) h'))
  · exact h.elim
theorem sd_lstore {G : jx_G} {p : Program} {e : Env} {R : Room} {s : State} {m : MethodId} {args : Array Value} {below : List Frame} {meth : Method} {c : Code} {Qf : State → Prop} {ad0 : Nat → Nat → Nat} {n0 : Nat → Nat} {nL : Nat} {Q : jx_O → jx_M → Prop} {cc : ByteArray} {pc : Nat} (hx : p.tables.exec = Jvm.exec) (hb : c.code = cc) {i : Nat} (hd : decode cc pc = .ok (.lstore i, 2)) (hn : i + 1 < nL) (hgf : i ∈ lgOf cc.size) : Snd G p e R s m args below meth c Qf ad0 n0 nL Q pc (pc + 2) (ti_lstore i) := by
  intro J K hJ hK ls st M cu su h
  unfold ti_lstore at h
  split at h
  · rename_i x r
    intro ad H locs lsA hR hE hl hs hS hL
    exact lv_lstore hx hb hd hL.has hn rfl (fun ls' h' => hK _ _ _ _ _ h ad H locs ls' hR hE (okL_set (okL_clp (okL_dst hl)) okA_l) (okS_tl hs) hS (LH.setL hL (by rw [hb]; exact hgf) h'))
  · exact h.elim
theorem sd_lload_n {G : jx_G} {p : Program} {e : Env} {R : Room} {s : State} {m : MethodId} {args : Array Value} {below : List Frame} {meth : Method} {c : Code} {Qf : State → Prop} {ad0 : Nat → Nat → Nat} {n0 : Nat → Nat} {nL : Nat} {Q : jx_O → jx_M → Prop} {cc : ByteArray} {pc : Nat} (hx : p.tables.exec = Jvm.exec) (hb : c.code = cc) {k : Fin 4} {i : Nat} (hd : decode cc pc = .ok (.lload_n k, 1)) (hi : (k : Nat) = i) : Snd G p e R s m args below meth c Qf ad0 n0 nL Q pc (pc + 1) (ti_lload i) := by
  intro J K hJ hK ls st M cu su h
  unfold ti_lload at h
  split at h
  · rename_i x hg
    intro ad H locs lsA hR hE hl hs hS hL
    exact lv_lload_n hx hb hd hi (hL.2.2 i _ (jget_at hg)).1 (hK _ _ _ _ _ h ad H locs lsA hR hE hl (okS_cons okA_l hs) hS hL)
  · exact h.elim
theorem sd_lload {G : jx_G} {p : Program} {e : Env} {R : Room} {s : State} {m : MethodId} {args : Array Value} {below : List Frame} {meth : Method} {c : Code} {Qf : State → Prop} {ad0 : Nat → Nat → Nat} {n0 : Nat → Nat} {nL : Nat} {Q : jx_O → jx_M → Prop} {cc : ByteArray} {pc : Nat} (hx : p.tables.exec = Jvm.exec) (hb : c.code = cc) {i : Nat} (hd : decode cc pc = .ok (.lload i, 2)) : Snd G p e R s m args below meth c Qf ad0 n0 nL Q pc (pc + 2) (ti_lload i) := by
  intro J K hJ hK ls st M cu su h
  unfold ti_lload at h
  split at h
  · rename_i x hg
    intro ad H locs lsA hR hE hl hs hS hL
    exact lv_lload hx hb hd (hL.2.2 i _ (jget_at hg)).1 (hK _ _ _ _ _ h ad H locs lsA hR hE hl (okS_cons okA_l hs) hS hL)
  · exact h.elim
theorem sd_lconst {G : jx_G} {p : Program} {e : Env} {R : Room} {s : State} {m : MethodId} {args : Array Value} {below : List Frame} {meth : Method} {c : Code} {Qf : State → Prop} {ad0 : Nat → Nat → Nat} {n0 : Nat → Nat} {nL : Nat} {Q : jx_O → jx_M → Prop} {cc : ByteArray} {pc : Nat} (hx : p.tables.exec = Jvm.exec) (hb : c.code = cc) {n : Fin 2} {v : Int64} (hd : decode cc pc = .ok (.lconst n, 1)) (hv : Int64.ofNat (n : Nat) = v) : Snd G p e R s m args below meth c Qf ad0 n0 nL Q pc (pc + 1) (ti_lconst v) := by
  intro J K hJ hK ls st M cu su h
  intro ad H locs lsA hR hE hl hs hS hL
  exact lv_lconst hx hb hd hv (hK _ _ _ _ _ h ad H locs lsA hR hE hl (okS_cons okA_l hs) hS hL)
theorem sd_ldc {G : jx_G} {p : Program} {e : Env} {R : Room} {s : State} {m : MethodId} {args : Array Value} {below : List Frame} {meth : Method} {c : Code} {Qf : State → Prop} {ad0 : Nat → Nat → Nat} {n0 : Nat → Nat} {nL : Nat} {Q : jx_O → jx_M → Prop} {cc : ByteArray} {pc : Nat} (hx : p.tables.exec = Jvm.exec) (hb : c.code = cc) {own : String} (hown : s.vm.findClass own = some m.cls) (hts : ∀ w ∈ jx_WT, w.before args s = true) {idx : Nat} {v : Int32} (hlk : Cond.constant own idx v ∈ jx_WT) (hd : decode cc pc = .ok (.ldc idx, 2)) : Snd G p e R s m args below meth c Qf ad0 n0 nL Q pc (pc + 2) (ti_const v) := by
  intro J K hJ hK ls st M cu su h
  intro ad H locs lsA hR hE hl hs hS hL
  exact lv_ldc hx hb hown (hts _ hlk) hd (hK _ _ _ _ _ h ad H locs lsA hR hE hl (okS_cons okA_i hs) hS hL)
theorem sd_ldc2 {G : jx_G} {p : Program} {e : Env} {R : Room} {s : State} {m : MethodId} {args : Array Value} {below : List Frame} {meth : Method} {c : Code} {Qf : State → Prop} {ad0 : Nat → Nat → Nat} {n0 : Nat → Nat} {nL : Nat} {Q : jx_O → jx_M → Prop} {cc : ByteArray} {pc : Nat} (hx : p.tables.exec = Jvm.exec) (hb : c.code = cc) {own : String} (hown : s.vm.findClass own = some m.cls) (hts : ∀ w ∈ jx_WT, w.before args s = true) {idx : Nat} {v : Int64} (hlk : Cond.constantLong own idx v ∈ jx_WT) (hd : decode cc pc = .ok (.ldc2_w idx, 3)) : Snd G p e R s m args below meth c Qf ad0 n0 nL Q pc (pc + 3) (ti_lconst v) := by
  intro J K hJ hK ls st M cu su h
  intro ad H locs lsA hR hE hl hs hS hL
  exact lv_ldc2 hx hb hown (hts _ hlk) hd (hK _ _ _ _ _ h ad H locs lsA hR hE hl (okS_cons okA_l hs) hS hL)
theorem sd_ladd {G : jx_G} {p : Program} {e : Env} {R : Room} {s : State} {m : MethodId} {args : Array Value} {below : List Frame} {meth : Method} {c : Code} {Qf : State → Prop} {ad0 : Nat → Nat → Nat} {n0 : Nat → Nat} {nL : Nat} {Q : jx_O → jx_M → Prop} {cc : ByteArray} {pc : Nat} (hx : p.tables.exec = Jvm.exec) (hb : c.code = cc) (hd : decode cc pc = .ok (.ladd, 1)) : Snd G p e R s m args below meth c Qf ad0 n0 nL Q pc (pc + 1) (ti_lbin (fun x y => x + y)) := by
  intro J K hJ hK ls st M cu su h
  unfold ti_lbin at h
  split at h
  · intro ad H locs lsA hR hE hl hs hS hL
    exact lv_ladd hx hb hd (hK _ _ _ _ _ h ad H locs lsA hR hE hl (okS_cons okA_l (okS_tl (okS_tl hs))) hS hL)
  · exact h.elim
theorem sd_lsub {G : jx_G} {p : Program} {e : Env} {R : Room} {s : State} {m : MethodId} {args : Array Value} {below : List Frame} {meth : Method} {c : Code} {Qf : State → Prop} {ad0 : Nat → Nat → Nat} {n0 : Nat → Nat} {nL : Nat} {Q : jx_O → jx_M → Prop} {cc : ByteArray} {pc : Nat} (hx : p.tables.exec = Jvm.exec) (hb : c.code = cc) (hd : decode cc pc = .ok (.lsub, 1)) : Snd G p e R s m args below meth c Qf ad0 n0 nL Q pc (pc + 1) (ti_lbin (fun x y => x - y)) := by
  intro J K hJ hK ls st M cu su h
  unfold ti_lbin at h
  split at h
  · intro ad H locs lsA hR hE hl hs hS hL
    exact lv_lsub hx hb hd (hK _ _ _ _ _ h ad H locs lsA hR hE hl (okS_cons okA_l (okS_tl (okS_tl hs))) hS hL)
  · exact h.elim
theorem sd_l2i {G : jx_G} {p : Program} {e : Env} {R : Room} {s : State} {m : MethodId} {args : Array Value} {below : List Frame} {meth : Method} {c : Code} {Qf : State → Prop} {ad0 : Nat → Nat → Nat} {n0 : Nat → Nat} {nL : Nat} {Q : jx_O → jx_M → Prop} {cc : ByteArray} {pc : Nat} (hx : p.tables.exec = Jvm.exec) (hb : c.code = cc) (hd : decode cc pc = .ok (.l2i, 1)) : Snd G p e R s m args below meth c Qf ad0 n0 nL Q pc (pc + 1) ti_l2i := by
  intro J K hJ hK ls st M cu su h
  unfold ti_l2i at h
  split at h
  · intro ad H locs lsA hR hE hl hs hS hL
    exact lv_l2i hx hb hd rfl (hK _ _ _ _ _ h ad H locs lsA hR hE hl (okS_cons okA_i (okS_tl hs)) hS hL)
  · exact h.elim
theorem sd_ishr {G : jx_G} {p : Program} {e : Env} {R : Room} {s : State} {m : MethodId} {args : Array Value} {below : List Frame} {meth : Method} {c : Code} {Qf : State → Prop} {ad0 : Nat → Nat → Nat} {n0 : Nat → Nat} {nL : Nat} {Q : jx_O → jx_M → Prop} {cc : ByteArray} {pc : Nat} (hx : p.tables.exec = Jvm.exec) (hb : c.code = cc) (hd : decode cc pc = .ok (.ishr, 1)) : Snd G p e R s m args below meth c Qf ad0 n0 nL Q pc (pc + 1) (ti_bin (fun x y => x >>> (y &&& 31))) := by
  intro J K hJ hK ls st M cu su h
  unfold ti_bin at h
  split at h
  · intro ad H locs lsA hR hE hl hs hS hL
    exact lv_ishr hx hb hd (hK _ _ _ _ _ h ad H locs lsA hR hE hl (okS_cons okA_i (okS_tl (okS_tl hs))) hS hL)
  · exact h.elim
theorem sd_iadd {G : jx_G} {p : Program} {e : Env} {R : Room} {s : State} {m : MethodId} {args : Array Value} {below : List Frame} {meth : Method} {c : Code} {Qf : State → Prop} {ad0 : Nat → Nat → Nat} {n0 : Nat → Nat} {nL : Nat} {Q : jx_O → jx_M → Prop} {cc : ByteArray} {pc : Nat} (hx : p.tables.exec = Jvm.exec) (hb : c.code = cc) (hd : decode cc pc = .ok (.iadd, 1)) : Snd G p e R s m args below meth c Qf ad0 n0 nL Q pc (pc + 1) (ti_bin (fun x y => x + y)) := by
  intro J K hJ hK ls st M cu su h
  unfold ti_bin at h
  split at h
  · intro ad H locs lsA hR hE hl hs hS hL
    exact lv_iadd hx hb hd (hK _ _ _ _ _ h ad H locs lsA hR hE hl (okS_cons okA_i (okS_tl (okS_tl hs))) hS hL)
  · exact h.elim
theorem sd_isub {G : jx_G} {p : Program} {e : Env} {R : Room} {s : State} {m : MethodId} {args : Array Value} {below : List Frame} {meth : Method} {c : Code} {Qf : State → Prop} {ad0 : Nat → Nat → Nat} {n0 : Nat → Nat} {nL : Nat} {Q : jx_O → jx_M → Prop} {cc : ByteArray} {pc : Nat} (hx : p.tables.exec = Jvm.exec) (hb : c.code = cc) (hd : decode cc pc = .ok (.isub, 1)) : Snd G p e R s m args below meth c Qf ad0 n0 nL Q pc (pc + 1) (ti_bin (fun x y => x - y)) := by
  intro J K hJ hK ls st M cu su h
  unfold ti_bin at h
  split at h
  · intro ad H locs lsA hR hE hl hs hS hL
    exact lv_isub hx hb hd (hK _ _ _ _ _ h ad H locs lsA hR hE hl (okS_cons okA_i (okS_tl (okS_tl hs))) hS hL)
  · exact h.elim
theorem sd_imul {G : jx_G} {p : Program} {e : Env} {R : Room} {s : State} {m : MethodId} {args : Array Value} {below : List Frame} {meth : Method} {c : Code} {Qf : State → Prop} {ad0 : Nat → Nat → Nat} {n0 : Nat → Nat} {nL : Nat} {Q : jx_O → jx_M → Prop} {cc : ByteArray} {pc : Nat} (hx : p.tables.exec = Jvm.exec) (hb : c.code = cc) (hd : decode cc pc = .ok (.imul, 1)) : Snd G p e R s m args below meth c Qf ad0 n0 nL Q pc (pc + 1) (ti_bin (fun x y => x * y)) := by
  intro J K hJ hK ls st M cu su h
  unfold ti_bin at h
  split at h
  · intro ad H locs lsA hR hE hl hs hS hL
    exact lv_imul hx hb hd (hK _ _ _ _ _ h ad H locs lsA hR hE hl (okS_cons okA_i (okS_tl (okS_tl hs))) hS hL)
  · exact h.elim
theorem sd_iand {G : jx_G} {p : Program} {e : Env} {R : Room} {s : State} {m : MethodId} {args : Array Value} {below : List Frame} {meth : Method} {c : Code} {Qf : State → Prop} {ad0 : Nat → Nat → Nat} {n0 : Nat → Nat} {nL : Nat} {Q : jx_O → jx_M → Prop} {cc : ByteArray} {pc : Nat} (hx : p.tables.exec = Jvm.exec) (hb : c.code = cc) (hd : decode cc pc = .ok (.iand, 1)) : Snd G p e R s m args below meth c Qf ad0 n0 nL Q pc (pc + 1) (ti_bin (fun x y => x &&& y)) := by
  intro J K hJ hK ls st M cu su h
  unfold ti_bin at h
  split at h
  · intro ad H locs lsA hR hE hl hs hS hL
    exact lv_iand hx hb hd (hK _ _ _ _ _ h ad H locs lsA hR hE hl (okS_cons okA_i (okS_tl (okS_tl hs))) hS hL)
  · exact h.elim
theorem sd_idiv {G : jx_G} {p : Program} {e : Env} {R : Room} {s : State} {m : MethodId} {args : Array Value} {below : List Frame} {meth : Method} {c : Code} {Qf : State → Prop} {ad0 : Nat → Nat → Nat} {n0 : Nat → Nat} {nL : Nat} {Q : jx_O → jx_M → Prop} {cc : ByteArray} {pc : Nat} (hx : p.tables.exec = Jvm.exec) (hb : c.code = cc) (hd : decode cc pc = .ok (.idiv, 1)) : Snd G p e R s m args below meth c Qf ad0 n0 nL Q pc (pc + 1) ti_div := by
  intro J K hJ hK ls st M cu su h
  unfold ti_div at h
  split at h
  · intro ad H locs lsA hR hE hl hs hS hL
    exact lv_idiv hx hb hd h.1 (hK _ _ _ _ _ h.2 ad H locs lsA hR hE hl (okS_cons okA_i (okS_tl (okS_tl hs))) hS hL)
  · exact h.elim
theorem sd_irem {G : jx_G} {p : Program} {e : Env} {R : Room} {s : State} {m : MethodId} {args : Array Value} {below : List Frame} {meth : Method} {c : Code} {Qf : State → Prop} {ad0 : Nat → Nat → Nat} {n0 : Nat → Nat} {nL : Nat} {Q : jx_O → jx_M → Prop} {cc : ByteArray} {pc : Nat} (hx : p.tables.exec = Jvm.exec) (hb : c.code = cc) (hd : decode cc pc = .ok (.irem, 1)) : Snd G p e R s m args below meth c Qf ad0 n0 nL Q pc (pc + 1) ti_rem := by
  intro J K hJ hK ls st M cu su h
  unfold ti_rem at h
  split at h
  · intro ad H locs lsA hR hE hl hs hS hL
    exact lv_irem hx hb hd h.1 (hK _ _ _ _ _ h.2 ad H locs lsA hR hE hl (okS_cons okA_i (okS_tl (okS_tl hs))) hS hL)
  · exact h.elim
theorem sd_i2c {G : jx_G} {p : Program} {e : Env} {R : Room} {s : State} {m : MethodId} {args : Array Value} {below : List Frame} {meth : Method} {c : Code} {Qf : State → Prop} {ad0 : Nat → Nat → Nat} {n0 : Nat → Nat} {nL : Nat} {Q : jx_O → jx_M → Prop} {cc : ByteArray} {pc : Nat} (hx : p.tables.exec = Jvm.exec) (hb : c.code = cc) (hd : decode cc pc = .ok (.i2c, 1)) : Snd G p e R s m args below meth c Qf ad0 n0 nL Q pc (pc + 1) ti_i2c := by
  intro J K hJ hK ls st M cu su h
  unfold ti_i2c at h
  split at h
  · intro ad H locs lsA hR hE hl hs hS hL
    exact lv_i2c hx hb hd rfl (hK _ _ _ _ _ h ad H locs lsA hR hE hl (okS_cons okA_i (okS_tl hs)) hS hL)
  · exact h.elim
theorem sd_i2l {G : jx_G} {p : Program} {e : Env} {R : Room} {s : State} {m : MethodId} {args : Array Value} {below : List Frame} {meth : Method} {c : Code} {Qf : State → Prop} {ad0 : Nat → Nat → Nat} {n0 : Nat → Nat} {nL : Nat} {Q : jx_O → jx_M → Prop} {cc : ByteArray} {pc : Nat} (hx : p.tables.exec = Jvm.exec) (hb : c.code = cc) (hd : decode cc pc = .ok (.i2l, 1)) : Snd G p e R s m args below meth c Qf ad0 n0 nL Q pc (pc + 1) ti_i2l := by
  intro J K hJ hK ls st M cu su h
  unfold ti_i2l at h
  split at h
  · intro ad H locs lsA hR hE hl hs hS hL
    exact lv_i2l hx hb hd rfl (hK _ _ _ _ _ h ad H locs lsA hR hE hl (okS_cons okA_l (okS_tl hs)) hS hL)
  · exact h.elim
theorem sd_lcmp {G : jx_G} {p : Program} {e : Env} {R : Room} {s : State} {m : MethodId} {args : Array Value} {below : List Frame} {meth : Method} {c : Code} {Qf : State → Prop} {ad0 : Nat → Nat → Nat} {n0 : Nat → Nat} {nL : Nat} {Q : jx_O → jx_M → Prop} {cc : ByteArray} {pc : Nat} (hx : p.tables.exec = Jvm.exec) (hb : c.code = cc) (hd : decode cc pc = .ok (.lcmp, 1)) : Snd G p e R s m args below meth c Qf ad0 n0 nL Q pc (pc + 1) ti_lcmp := by
  intro J K hJ hK ls st M cu su h
  unfold ti_lcmp at h
  split at h
  · intro ad H locs lsA hR hE hl hs hS hL
    exact W.lcmp hx hb hd (hK _ _ _ _ _ h ad H locs lsA hR hE hl (okS_cons okA_i (okS_tl (okS_tl hs))) hS hL)
  · exact h.elim
theorem sd_dup {G : jx_G} {p : Program} {e : Env} {R : Room} {s : State} {m : MethodId} {args : Array Value} {below : List Frame} {meth : Method} {c : Code} {Qf : State → Prop} {ad0 : Nat → Nat → Nat} {n0 : Nat → Nat} {nL : Nat} {Q : jx_O → jx_M → Prop} {cc : ByteArray} {pc : Nat} (hx : p.tables.exec = Jvm.exec) (hb : c.code = cc) (hd : decode cc pc = .ok (.dup, 1)) : Snd G p e R s m args below meth c Qf ad0 n0 nL Q pc (pc + 1) ti_dup := by
  intro J K hJ hK ls st M cu su h
  unfold ti_dup at h
  split at h
  · intro ad H locs lsA hR hE hl hs hS hL
    exact lv_dup hx hb hd (jc1_cat h.1 ad) (hK _ _ _ _ _ h.2 ad H locs lsA hR hE hl (okS_cons (okS_hd hs) hs) hS hL)
  · exact h.elim
theorem sd_pop {G : jx_G} {p : Program} {e : Env} {R : Room} {s : State} {m : MethodId} {args : Array Value} {below : List Frame} {meth : Method} {c : Code} {Qf : State → Prop} {ad0 : Nat → Nat → Nat} {n0 : Nat → Nat} {nL : Nat} {Q : jx_O → jx_M → Prop} {cc : ByteArray} {pc : Nat} (hx : p.tables.exec = Jvm.exec) (hb : c.code = cc) (hd : decode cc pc = .ok (.pop, 1)) : Snd G p e R s m args below meth c Qf ad0 n0 nL Q pc (pc + 1) ti_pop := by
  intro J K hJ hK ls st M cu su h
  unfold ti_pop at h
  split at h
  · intro ad H locs lsA hR hE hl hs hS hL
    exact lv_pop hx hb hd (jc1_cat h.1 ad) (hK _ _ _ _ _ h.2 ad H locs lsA hR hE hl (okS_tl hs) hS hL)
  · exact h.elim
theorem sd_dup2 {G : jx_G} {p : Program} {e : Env} {R : Room} {s : State} {m : MethodId} {args : Array Value} {below : List Frame} {meth : Method} {c : Code} {Qf : State → Prop} {ad0 : Nat → Nat → Nat} {n0 : Nat → Nat} {nL : Nat} {Q : jx_O → jx_M → Prop} {cc : ByteArray} {pc : Nat} (hx : p.tables.exec = Jvm.exec) (hb : c.code = cc) (hd : decode cc pc = .ok (.dup2, 1)) : Snd G p e R s m args below meth c Qf ad0 n0 nL Q pc (pc + 1) ti_dup2 := by
  intro J K hJ hK ls st M cu su h
  unfold ti_dup2 at h
  split at h
  · intro ad H locs lsA hR hE hl hs hS hL
    exact lv_dup2_11 hx hb hd (jc1_cat h.1 ad) (jc1_cat h.2.1 ad) (hK _ _ _ _ _ h.2.2 ad H locs lsA hR hE hl (okS_cons (okS_hd hs) (okS_cons (okS_hd (okS_tl hs)) hs)) hS hL)
  · exact h.elim
theorem sd_if_eq {G : jx_G} {p : Program} {e : Env} {R : Room} {s : State} {m : MethodId} {args : Array Value} {below : List Frame} {meth : Method} {c : Code} {Qf : State → Prop} {ad0 : Nat → Nat → Nat} {n0 : Nat → Nat} {nL : Nat} {Q : jx_O → jx_M → Prop} {cc : ByteArray} {pc : Nat} (hx : p.tables.exec = Jvm.exec) (hb : c.code = cc) {off : Int} {tgt : Nat} (hd : decode cc pc = .ok (.ifCond .eq off, 3)) (ht : (pc : Int) + off = (tgt : Int)) : Snd G p e R s m args below meth c Qf ad0 n0 nL Q pc (pc + 3) (ti_if (fun x => x = 0) tgt) := by
  intro J K hJ hK ls st M cu su h
  unfold ti_if at h
  split at h
  · intro ad H locs lsA hR hE hl hs hS hL
    refine lv_if_eq hx hb hd ht (fun q => ?_) (fun q => ?_)
    · first | exact hJ _ _ _ _ _ _ (h.1 q) ad H locs lsA hR hE hl (okS_tl hs) hS hL | (refine hJ _ _ _ _ _ _ (h.1 ?_) ad H locs lsA hR hE hl (okS_tl hs) hS hL; simpa using q)
    · first | exact hK _ _ _ _ _ (h.2 q) ad H locs lsA hR hE hl (okS_tl hs) hS hL | (refine hK _ _ _ _ _ (h.2 ?_) ad H locs lsA hR hE hl (okS_tl hs) hS hL; simpa using q)
  · exact h.elim
theorem sd_icmp_eq {G : jx_G} {p : Program} {e : Env} {R : Room} {s : State} {m : MethodId} {args : Array Value} {below : List Frame} {meth : Method} {c : Code} {Qf : State → Prop} {ad0 : Nat → Nat → Nat} {n0 : Nat → Nat} {nL : Nat} {Q : jx_O → jx_M → Prop} {cc : ByteArray} {pc : Nat} (hx : p.tables.exec = Jvm.exec) (hb : c.code = cc) {off : Int} {tgt : Nat} (hd : decode cc pc = .ok (.if_icmp .eq off, 3)) (ht : (pc : Int) + off = (tgt : Int)) : Snd G p e R s m args below meth c Qf ad0 n0 nL Q pc (pc + 3) (ti_icmp (fun x y => x = y) tgt) := by
  intro J K hJ hK ls st M cu su h
  unfold ti_icmp at h
  split at h
  · intro ad H locs lsA hR hE hl hs hS hL
    refine lv_icmp_eq hx hb hd ht (fun q => ?_) (fun q => ?_)
    · first | exact hJ _ _ _ _ _ _ (h.1 q) ad H locs lsA hR hE hl (okS_tl (okS_tl hs)) hS hL | (refine hJ _ _ _ _ _ _ (h.1 ?_) ad H locs lsA hR hE hl (okS_tl (okS_tl hs)) hS hL; simpa using q)
    · first | exact hK _ _ _ _ _ (h.2 q) ad H locs lsA hR hE hl (okS_tl (okS_tl hs)) hS hL | (refine hK _ _ _ _ _ (h.2 ?_) ad H locs lsA hR hE hl (okS_tl (okS_tl hs)) hS hL; simpa using q)
  · exact h.elim
theorem sd_if_ne {G : jx_G} {p : Program} {e : Env} {R : Room} {s : State} {m : MethodId} {args : Array Value} {below : List Frame} {meth : Method} {c : Code} {Qf : State → Prop} {ad0 : Nat → Nat → Nat} {n0 : Nat → Nat} {nL : Nat} {Q : jx_O → jx_M → Prop} {cc : ByteArray} {pc : Nat} (hx : p.tables.exec = Jvm.exec) (hb : c.code = cc) {off : Int} {tgt : Nat} (hd : decode cc pc = .ok (.ifCond .ne off, 3)) (ht : (pc : Int) + off = (tgt : Int)) : Snd G p e R s m args below meth c Qf ad0 n0 nL Q pc (pc + 3) (ti_if (fun x => ¬ x = 0) tgt) := by
  intro J K hJ hK ls st M cu su h
  unfold ti_if at h
  split at h
  · intro ad H locs lsA hR hE hl hs hS hL
    refine lv_if_ne hx hb hd ht (fun q => ?_) (fun q => ?_)
    · first | exact hJ _ _ _ _ _ _ (h.1 q) ad H locs lsA hR hE hl (okS_tl hs) hS hL | (refine hJ _ _ _ _ _ _ (h.1 ?_) ad H locs lsA hR hE hl (okS_tl hs) hS hL; simpa using q)
    · first | exact hK _ _ _ _ _ (h.2 q) ad H locs lsA hR hE hl (okS_tl hs) hS hL | (refine hK _ _ _ _ _ (h.2 ?_) ad H locs lsA hR hE hl (okS_tl hs) hS hL; simpa using q)
  · exact h.elim
theorem sd_icmp_ne {G : jx_G} {p : Program} {e : Env} {R : Room} {s : State} {m : MethodId} {args : Array Value} {below : List Frame} {meth : Method} {c : Code} {Qf : State → Prop} {ad0 : Nat → Nat → Nat} {n0 : Nat → Nat} {nL : Nat} {Q : jx_O → jx_M → Prop} {cc : ByteArray} {pc : Nat} (hx : p.tables.exec = Jvm.exec) (hb : c.code = cc) {off : Int} {tgt : Nat} (hd : decode cc pc = .ok (.if_icmp .ne off, 3)) (ht : (pc : Int) + off = (tgt : Int)) : Snd G p e R s m args below meth c Qf ad0 n0 nL Q pc (pc + 3) (ti_icmp (fun x y => ¬ x = y) tgt) := by
  intro J K hJ hK ls st M cu su h
  unfold ti_icmp at h
  split at h
  · intro ad H locs lsA hR hE hl hs hS hL
    refine lv_icmp_ne hx hb hd ht (fun q => ?_) (fun q => ?_)
    · first | exact hJ _ _ _ _ _ _ (h.1 q) ad H locs lsA hR hE hl (okS_tl (okS_tl hs)) hS hL | (refine hJ _ _ _ _ _ _ (h.1 ?_) ad H locs lsA hR hE hl (okS_tl (okS_tl hs)) hS hL; simpa using q)
    · first | exact hK _ _ _ _ _ (h.2 q) ad H locs lsA hR hE hl (okS_tl (okS_tl hs)) hS hL | (refine hK _ _ _ _ _ (h.2 ?_) ad H locs lsA hR hE hl (okS_tl (okS_tl hs)) hS hL; simpa using q)
  · exact h.elim
theorem sd_if_lt {G : jx_G} {p : Program} {e : Env} {R : Room} {s : State} {m : MethodId} {args : Array Value} {below : List Frame} {meth : Method} {c : Code} {Qf : State → Prop} {ad0 : Nat → Nat → Nat} {n0 : Nat → Nat} {nL : Nat} {Q : jx_O → jx_M → Prop} {cc : ByteArray} {pc : Nat} (hx : p.tables.exec = Jvm.exec) (hb : c.code = cc) {off : Int} {tgt : Nat} (hd : decode cc pc = .ok (.ifCond .lt off, 3)) (ht : (pc : Int) + off = (tgt : Int)) : Snd G p e R s m args below meth c Qf ad0 n0 nL Q pc (pc + 3) (ti_if (fun x => x < 0) tgt) := by
  intro J K hJ hK ls st M cu su h
  unfold ti_if at h
  split at h
  · intro ad H locs lsA hR hE hl hs hS hL
    refine lv_if_lt hx hb hd ht (fun q => ?_) (fun q => ?_)
    · first | exact hJ _ _ _ _ _ _ (h.1 q) ad H locs lsA hR hE hl (okS_tl hs) hS hL | (refine hJ _ _ _ _ _ _ (h.1 ?_) ad H locs lsA hR hE hl (okS_tl hs) hS hL; simpa using q)
    · first | exact hK _ _ _ _ _ (h.2 q) ad H locs lsA hR hE hl (okS_tl hs) hS hL | (refine hK _ _ _ _ _ (h.2 ?_) ad H locs lsA hR hE hl (okS_tl hs) hS hL; simpa using q)
  · exact h.elim
theorem sd_icmp_lt {G : jx_G} {p : Program} {e : Env} {R : Room} {s : State} {m : MethodId} {args : Array Value} {below : List Frame} {meth : Method} {c : Code} {Qf : State → Prop} {ad0 : Nat → Nat → Nat} {n0 : Nat → Nat} {nL : Nat} {Q : jx_O → jx_M → Prop} {cc : ByteArray} {pc : Nat} (hx : p.tables.exec = Jvm.exec) (hb : c.code = cc) {off : Int} {tgt : Nat} (hd : decode cc pc = .ok (.if_icmp .lt off, 3)) (ht : (pc : Int) + off = (tgt : Int)) : Snd G p e R s m args below meth c Qf ad0 n0 nL Q pc (pc + 3) (ti_icmp (fun x y => x < y) tgt) := by
  intro J K hJ hK ls st M cu su h
  unfold ti_icmp at h
  split at h
  · intro ad H locs lsA hR hE hl hs hS hL
    refine lv_icmp_lt hx hb hd ht (fun q => ?_) (fun q => ?_)
    · first | exact hJ _ _ _ _ _ _ (h.1 q) ad H locs lsA hR hE hl (okS_tl (okS_tl hs)) hS hL | (refine hJ _ _ _ _ _ _ (h.1 ?_) ad H locs lsA hR hE hl (okS_tl (okS_tl hs)) hS hL; simpa using q)
    · first | exact hK _ _ _ _ _ (h.2 q) ad H locs lsA hR hE hl (okS_tl (okS_tl hs)) hS hL | (refine hK _ _ _ _ _ (h.2 ?_) ad H locs lsA hR hE hl (okS_tl (okS_tl hs)) hS hL; simpa using q)
  · exact h.elim
theorem sd_if_ge {G : jx_G} {p : Program} {e : Env} {R : Room} {s : State} {m : MethodId} {args : Array Value} {below : List Frame} {meth : Method} {c : Code} {Qf : State → Prop} {ad0 : Nat → Nat → Nat} {n0 : Nat → Nat} {nL : Nat} {Q : jx_O → jx_M → Prop} {cc : ByteArray} {pc : Nat} (hx : p.tables.exec = Jvm.exec) (hb : c.code = cc) {off : Int} {tgt : Nat} (hd : decode cc pc = .ok (.ifCond .ge off, 3)) (ht : (pc : Int) + off = (tgt : Int)) : Snd G p e R s m args below meth c Qf ad0 n0 nL Q pc (pc + 3) (ti_if (fun x => 0 ≤ x) tgt) := by
  intro J K hJ hK ls st M cu su h
  unfold ti_if at h
  split at h
  · intro ad H locs lsA hR hE hl hs hS hL
    refine lv_if_ge hx hb hd ht (fun q => ?_) (fun q => ?_)
    · first | exact hJ _ _ _ _ _ _ (h.1 q) ad H locs lsA hR hE hl (okS_tl hs) hS hL | (refine hJ _ _ _ _ _ _ (h.1 ?_) ad H locs lsA hR hE hl (okS_tl hs) hS hL; simpa using q)
    · first | exact hK _ _ _ _ _ (h.2 q) ad H locs lsA hR hE hl (okS_tl hs) hS hL | (refine hK _ _ _ _ _ (h.2 ?_) ad H locs lsA hR hE hl (okS_tl hs) hS hL; simpa using q)
  · exact h.elim
theorem sd_icmp_ge {G : jx_G} {p : Program} {e : Env} {R : Room} {s : State} {m : MethodId} {args : Array Value} {below : List Frame} {meth : Method} {c : Code} {Qf : State → Prop} {ad0 : Nat → Nat → Nat} {n0 : Nat → Nat} {nL : Nat} {Q : jx_O → jx_M → Prop} {cc : ByteArray} {pc : Nat} (hx : p.tables.exec = Jvm.exec) (hb : c.code = cc) {off : Int} {tgt : Nat} (hd : decode cc pc = .ok (.if_icmp .ge off, 3)) (ht : (pc : Int) + off = (tgt : Int)) : Snd G p e R s m args below meth c Qf ad0 n0 nL Q pc (pc + 3) (ti_icmp (fun x y => y ≤ x) tgt) := by
  intro J K hJ hK ls st M cu su h
  unfold ti_icmp at h
  split at h
  · intro ad H locs lsA hR hE hl hs hS hL
    refine lv_icmp_ge hx hb hd ht (fun q => ?_) (fun q => ?_)
    · first | exact hJ _ _ _ _ _ _ (h.1 q) ad H locs lsA hR hE hl (okS_tl (okS_tl hs)) hS hL | (refine hJ _ _ _ _ _ _ (h.1 ?_) ad H locs lsA hR hE hl (okS_tl (okS_tl hs)) hS hL; simpa using q)
    · first | exact hK _ _ _ _ _ (h.2 q) ad H locs lsA hR hE hl (okS_tl (okS_tl hs)) hS hL | (refine hK _ _ _ _ _ (h.2 ?_) ad H locs lsA hR hE hl (okS_tl (okS_tl hs)) hS hL; simpa using q)
  · exact h.elim
theorem sd_if_gt {G : jx_G} {p : Program} {e : Env} {R : Room} {s : State} {m : MethodId} {args : Array Value} {below : List Frame} {meth : Method} {c : Code} {Qf : State → Prop} {ad0 : Nat → Nat → Nat} {n0 : Nat → Nat} {nL : Nat} {Q : jx_O → jx_M → Prop} {cc : ByteArray} {pc : Nat} (hx : p.tables.exec = Jvm.exec) (hb : c.code = cc) {off : Int} {tgt : Nat} (hd : decode cc pc = .ok (.ifCond .gt off, 3)) (ht : (pc : Int) + off = (tgt : Int)) : Snd G p e R s m args below meth c Qf ad0 n0 nL Q pc (pc + 3) (ti_if (fun x => 0 < x) tgt) := by
  intro J K hJ hK ls st M cu su h
  unfold ti_if at h
  split at h
  · intro ad H locs lsA hR hE hl hs hS hL
    refine lv_if_gt hx hb hd ht (fun q => ?_) (fun q => ?_)
    · first | exact hJ _ _ _ _ _ _ (h.1 q) ad H locs lsA hR hE hl (okS_tl hs) hS hL | (refine hJ _ _ _ _ _ _ (h.1 ?_) ad H locs lsA hR hE hl (okS_tl hs) hS hL; simpa using q)
    · first | exact hK _ _ _ _ _ (h.2 q) ad H locs lsA hR hE hl (okS_tl hs) hS hL | (refine hK _ _ _ _ _ (h.2 ?_) ad H locs lsA hR hE hl (okS_tl hs) hS hL; simpa using q)
  · exact h.elim
theorem sd_icmp_gt {G : jx_G} {p : Program} {e : Env} {R : Room} {s : State} {m : MethodId} {args : Array Value} {below : List Frame} {meth : Method} {c : Code} {Qf : State → Prop} {ad0 : Nat → Nat → Nat} {n0 : Nat → Nat} {nL : Nat} {Q : jx_O → jx_M → Prop} {cc : ByteArray} {pc : Nat} (hx : p.tables.exec = Jvm.exec) (hb : c.code = cc) {off : Int} {tgt : Nat} (hd : decode cc pc = .ok (.if_icmp .gt off, 3)) (ht : (pc : Int) + off = (tgt : Int)) : Snd G p e R s m args below meth c Qf ad0 n0 nL Q pc (pc + 3) (ti_icmp (fun x y => y < x) tgt) := by
  intro J K hJ hK ls st M cu su h
  unfold ti_icmp at h
  split at h
  · intro ad H locs lsA hR hE hl hs hS hL
    refine lv_icmp_gt hx hb hd ht (fun q => ?_) (fun q => ?_)
    · first | exact hJ _ _ _ _ _ _ (h.1 q) ad H locs lsA hR hE hl (okS_tl (okS_tl hs)) hS hL | (refine hJ _ _ _ _ _ _ (h.1 ?_) ad H locs lsA hR hE hl (okS_tl (okS_tl hs)) hS hL; simpa using q)
    · first | exact hK _ _ _ _ _ (h.2 q) ad H locs lsA hR hE hl (okS_tl (okS_tl hs)) hS hL | (refine hK _ _ _ _ _ (h.2 ?_) ad H locs lsA hR hE hl (okS_tl (okS_tl hs)) hS hL; simpa using q)
  · exact h.elim
theorem sd_if_le {G : jx_G} {p : Program} {e : Env} {R : Room} {s : State} {m : MethodId} {args : Array Value} {below : List Frame} {meth : Method} {c : Code} {Qf : State → Prop} {ad0 : Nat → Nat → Nat} {n0 : Nat → Nat} {nL : Nat} {Q : jx_O → jx_M → Prop} {cc : ByteArray} {pc : Nat} (hx : p.tables.exec = Jvm.exec) (hb : c.code = cc) {off : Int} {tgt : Nat} (hd : decode cc pc = .ok (.ifCond .le off, 3)) (ht : (pc : Int) + off = (tgt : Int)) : Snd G p e R s m args below meth c Qf ad0 n0 nL Q pc (pc + 3) (ti_if (fun x => x ≤ 0) tgt) := by
  intro J K hJ hK ls st M cu su h
  unfold ti_if at h
  split at h
  · intro ad H locs lsA hR hE hl hs hS hL
    refine lv_if_le hx hb hd ht (fun q => ?_) (fun q => ?_)
    · first | exact hJ _ _ _ _ _ _ (h.1 q) ad H locs lsA hR hE hl (okS_tl hs) hS hL | (refine hJ _ _ _ _ _ _ (h.1 ?_) ad H locs lsA hR hE hl (okS_tl hs) hS hL; simpa using q)
    · first | exact hK _ _ _ _ _ (h.2 q) ad H locs lsA hR hE hl (okS_tl hs) hS hL | (refine hK _ _ _ _ _ (h.2 ?_) ad H locs lsA hR hE hl (okS_tl hs) hS hL; simpa using q)
  · exact h.elim
theorem sd_icmp_le {G : jx_G} {p : Program} {e : Env} {R : Room} {s : State} {m : MethodId} {args : Array Value} {below : List Frame} {meth : Method} {c : Code} {Qf : State → Prop} {ad0 : Nat → Nat → Nat} {n0 : Nat → Nat} {nL : Nat} {Q : jx_O → jx_M → Prop} {cc : ByteArray} {pc : Nat} (hx : p.tables.exec = Jvm.exec) (hb : c.code = cc) {off : Int} {tgt : Nat} (hd : decode cc pc = .ok (.if_icmp .le off, 3)) (ht : (pc : Int) + off = (tgt : Int)) : Snd G p e R s m args below meth c Qf ad0 n0 nL Q pc (pc + 3) (ti_icmp (fun x y => x ≤ y) tgt) := by
  intro J K hJ hK ls st M cu su h
  unfold ti_icmp at h
  split at h
  · intro ad H locs lsA hR hE hl hs hS hL
    refine lv_icmp_le hx hb hd ht (fun q => ?_) (fun q => ?_)
    · first | exact hJ _ _ _ _ _ _ (h.1 q) ad H locs lsA hR hE hl (okS_tl (okS_tl hs)) hS hL | (refine hJ _ _ _ _ _ _ (h.1 ?_) ad H locs lsA hR hE hl (okS_tl (okS_tl hs)) hS hL; simpa using q)
    · first | exact hK _ _ _ _ _ (h.2 q) ad H locs lsA hR hE hl (okS_tl (okS_tl hs)) hS hL | (refine hK _ _ _ _ _ (h.2 ?_) ad H locs lsA hR hE hl (okS_tl (okS_tl hs)) hS hL; simpa using q)
  · exact h.elim
theorem map_inj2 {ad : Nat → Nat → Nat} {M : jx_M} (hI : jInj ad M) {r : Nat} (hr : r < 48) {x y : Option Nat} (hx : okA M (.inr (.inr (r, x)))) (hy : okA M (.inr (.inr (r, y)))) : x.map (ad r) = y.map (ad r) ↔ x = y := by
  cases x with
  | none => cases y with
    | none => simp
    | some j => simp
  | some i => cases y with
    | none => simp
    | some j =>
      simp only [Option.map_some, Option.some.injEq]
      exact ⟨fun q => (hI r i r j hr hr hx hy q).2, fun q => by rw [q]⟩
theorem sd_acmp_eq {G : jx_G} {p : Program} {e : Env} {R : Room} {s : State} {m : MethodId} {args : Array Value} {below : List Frame} {meth : Method} {c : Code} {Qf : State → Prop} {ad0 : Nat → Nat → Nat} {n0 : Nat → Nat} {nL : Nat} {Q : jx_O → jx_M → Prop} {cc : ByteArray} {pc : Nat} (hx : p.tables.exec = Jvm.exec) (hb : c.code = cc) {off : Int} {tgt : Nat} (hd : decode cc pc = .ok (.if_acmp .eq off, 3)) (ht : (pc : Int) + off = (tgt : Int)) : Snd G p e R s m args below meth c Qf ad0 n0 nL Q pc (pc + 3) (ti_acmpEq tgt) := by
  intro J K hJ hK ls st M cu su h
  unfold ti_acmpEq at h
  split at h
  · rename_i b a r
    obtain ⟨br, bo⟩ := b
    obtain ⟨ar, ao⟩ := a
    obtain ⟨h0, h1, h2⟩ := h
    dsimp only at h0 h1
    subst h0
    have h : ar = ar ∧ ar < 48 ∧ _ := ⟨rfl, h1, h2⟩
    intro ad H locs lsA hR hE hl hs hS hL
    have hI := map_inj2 hR.2.1 h1 (okS_hd (okS_tl hs)) (okS_hd hs)
    exact lv_acmp_eq hx hb hd ht (fun q => hJ _ _ _ _ _ _ (h.2.2.1 (hI.mp q)) ad H locs lsA hR hE hl (okS_tl (okS_tl hs)) hS hL) (fun q => hK _ _ _ _ _ (h.2.2.2 (fun z => q (hI.mpr z))) ad H locs lsA hR hE hl (okS_tl (okS_tl hs)) hS hL)
  · exact h.elim
theorem sd_acmp_ne {G : jx_G} {p : Program} {e : Env} {R : Room} {s : State} {m : MethodId} {args : Array Value} {below : List Frame} {meth : Method} {c : Code} {Qf : State → Prop} {ad0 : Nat → Nat → Nat} {n0 : Nat → Nat} {nL : Nat} {Q : jx_O → jx_M → Prop} {cc : ByteArray} {pc : Nat} (hx : p.tables.exec = Jvm.exec) (hb : c.code = cc) {off : Int} {tgt : Nat} (hd : decode cc pc = .ok (.if_acmp .ne off, 3)) (ht : (pc : Int) + off = (tgt : Int)) : Snd G p e R s m args below meth c Qf ad0 n0 nL Q pc (pc + 3) (ti_acmpNe tgt) := by
  intro J K hJ hK ls st M cu su h
  unfold ti_acmpNe at h
  split at h
  · rename_i b a r
    obtain ⟨br, bo⟩ := b
    obtain ⟨ar, ao⟩ := a
    obtain ⟨h0, h1, h2⟩ := h
    dsimp only at h0 h1
    subst h0
    have h : ar = ar ∧ ar < 48 ∧ _ := ⟨rfl, h1, h2⟩
    intro ad H locs lsA hR hE hl hs hS hL
    have hI := map_inj2 hR.2.1 h1 (okS_hd (okS_tl hs)) (okS_hd hs)
    exact lv_acmp_ne hx hb hd ht (fun q => hJ _ _ _ _ _ _ (h.2.2.1 (fun z => q (hI.mpr z))) ad H locs lsA hR hE hl (okS_tl (okS_tl hs)) hS hL) (fun q => hK _ _ _ _ _ (h.2.2.2 (hI.mp q)) ad H locs lsA hR hE hl (okS_tl (okS_tl hs)) hS hL)
  · exact h.elim
theorem sd_ifnull {G : jx_G} {p : Program} {e : Env} {R : Room} {s : State} {m : MethodId} {args : Array Value} {below : List Frame} {meth : Method} {c : Code} {Qf : State → Prop} {ad0 : Nat → Nat → Nat} {n0 : Nat → Nat} {nL : Nat} {Q : jx_O → jx_M → Prop} {cc : ByteArray} {pc : Nat} (hx : p.tables.exec = Jvm.exec) (hb : c.code = cc) {off : Int} {tgt : Nat} (hd : decode cc pc = .ok (.ifnull off, 3)) (ht : (pc : Int) + off = (tgt : Int)) : Snd G p e R s m args below meth c Qf ad0 n0 nL Q pc (pc + 3) (ti_ifnull tgt) := by
  intro J K hJ hK ls st M cu su h
  unfold ti_ifnull at h
  split at h
  · rename_i a r
    intro ad H locs lsA hR hE hl hs hS hL
    obtain ⟨ar, ao⟩ := a
    cases ao with
    | none => exact lv_ifnullN hx hb hd ht (hJ _ _ _ _ _ _ (h.1 rfl) ad H locs lsA hR hE hl (okS_tl hs) hS hL)
    | some i => exact lv_ifnull hx hb hd (hK _ _ _ _ _ (h.2 (fun q => by cases q)) ad H locs lsA hR hE hl (okS_tl hs) hS hL)
  · exact h.elim
theorem sd_ifnonnull {G : jx_G} {p : Program} {e : Env} {R : Room} {s : State} {m : MethodId} {args : Array Value} {below : List Frame} {meth : Method} {c : Code} {Qf : State → Prop} {ad0 : Nat → Nat → Nat} {n0 : Nat → Nat} {nL : Nat} {Q : jx_O → jx_M → Prop} {cc : ByteArray} {pc : Nat} (hx : p.tables.exec = Jvm.exec) (hb : c.code = cc) {off : Int} {tgt : Nat} (hd : decode cc pc = .ok (.ifnonnull off, 3)) (ht : (pc : Int) + off = (tgt : Int)) : Snd G p e R s m args below meth c Qf ad0 n0 nL Q pc (pc + 3) (ti_ifnonnull tgt) := by
  intro J K hJ hK ls st M cu su h
  unfold ti_ifnonnull at h
  split at h
  · rename_i a r
    intro ad H locs lsA hR hE hl hs hS hL
    obtain ⟨ar, ao⟩ := a
    cases ao with
    | none => exact lv_ifnonnullN hx hb hd (hK _ _ _ _ _ (h.2 rfl) ad H locs lsA hR hE hl (okS_tl hs) hS hL)
    | some i => exact lv_ifnonnull hx hb hd ht (hJ _ _ _ _ _ _ (h.1 (fun q => by cases q)) ad H locs lsA hR hE hl (okS_tl hs) hS hL)
  · exact h.elim
theorem sd_goto {G : jx_G} {p : Program} {e : Env} {R : Room} {s : State} {m : MethodId} {args : Array Value} {below : List Frame} {meth : Method} {c : Code} {Qf : State → Prop} {ad0 : Nat → Nat → Nat} {n0 : Nat → Nat} {nL : Nat} {Q : jx_O → jx_M → Prop} {cc : ByteArray} {pc : Nat} (hx : p.tables.exec = Jvm.exec) (hb : c.code = cc) {off : Int} {tgt : Nat} (hd : decode cc pc = .ok (.goto off, 3)) (ht : (pc : Int) + off = (tgt : Int)) : Snd G p e R s m args below meth c Qf ad0 n0 nL Q pc pc (ti_goto tgt) := by
  intro J K hJ hK ls st M cu su h
  intro ad H locs lsA hR hE hl hs hS hL
  exact lv_goto hx hb hd ht (hJ _ _ _ _ _ _ h ad H locs lsA hR hE hl hs hS hL)
