/-! THE ENTRY: the world of the law out of the tables' words -/
def jx_flat : List Cond := flatC (Jvm.Cond.and given_1 narrow_1)
theorem ws_prim {ws : List Cond} {s : State} {args : Array Value} {ty : FieldType} (hp : ∀ C, ty ≠ .object C) (hts : ∀ w ∈ ws, w.before args s = true) (h : Cond.arrayClass ty ∈ ws) : ∃ cA : ClassId, ArrOfT s cA ty ∧ s.vm.findClass ("[" ++ ty.toString) = some cA := by
  obtain ⟨cA, kA, comp, h1, h2, h3⟩ := Cond.arrayClass_spec (hts _ h)
  exact ⟨cA, fun n z => ⟨fun k hk => (by cases hk), kA, h2, comp, h3⟩, h1⟩
theorem ws_obj {ws : List Cond} {s : State} {args : Array Value} {C : String} (hts : ∀ w ∈ ws, w.before args s = true) (h : Cond.arrayOver (.object C) ∈ ws) : ∃ cA : ClassId, ArrOfT s cA (.object C) ∧ va_RA s cA (.object C) := by
  obtain ⟨comp, cA, kA, h1, -, h3, h4, h5⟩ := Cond.arrayOver_spec (hts _ h)
  exact ⟨cA, fun n z => ⟨fun k hk => (by cases hk), kA, h3, comp, h4⟩, kA, comp, h3, h4, h1, h5⟩
theorem ws_ty : ∀ r : Nat, r < 48 → 11 ≤ r → aTy r ∈ [FieldType.int, .char, .object RX1, .object RX3, .object RX4, .object RX6] := by decide +kernel
theorem ws_over : ∀ q ∈ jx_over, Cond.arrayOver (.object q) ∈ lw_tbl := by decide +kernel
theorem ws_arr {s : State} {args : Array Value} (hts : ∀ w ∈ lw_tbl, w.before args s = true) : ∃ dA : Nat → ClassId, ∀ (k : Nat) (q : ClassId × FieldType), (atys dA)[k]? = some q → ArrOfT s q.1 q.2 ∧ va_RA s q.1 q.2 := by
  have h : ∀ r : Nat, ∃ cA : ClassId, r < 48 → 11 ≤ r → ArrOfT s cA (aTy r) ∧ va_RA s cA (aTy r) := by
    intro r
    by_cases hr : r < 48 ∧ 11 ≤ r
    · have hm := ws_ty r hr.1 hr.2
      generalize aTy r = ty at hm ⊢
      simp only [List.mem_cons, List.not_mem_nil, or_false] at hm
      rcases hm with rfl | rfl | rfl | rfl | rfl | rfl
      · obtain ⟨cA, h1, h2⟩ := ws_prim (ty := .int) (fun C h => by cases h) hts (by decide +kernel)
        exact ⟨cA, fun _ _ => ⟨h1, h2⟩⟩
      · obtain ⟨cA, h1, h2⟩ := ws_prim (ty := .char) (fun C h => by cases h) hts (by decide +kernel)
        exact ⟨cA, fun _ _ => ⟨h1, h2⟩⟩
      · obtain ⟨cA, h1⟩ := ws_obj (C := RX1) hts (ws_over _ (by decide))
        exact ⟨cA, fun _ _ => h1⟩
      · obtain ⟨cA, h1⟩ := ws_obj (C := RX3) hts (ws_over _ (by decide))
        exact ⟨cA, fun _ _ => h1⟩
      · obtain ⟨cA, h1⟩ := ws_obj (C := RX4) hts (ws_over _ (by decide))
        exact ⟨cA, fun _ _ => h1⟩
      · obtain ⟨cA, h1⟩ := ws_obj (C := RX6) hts (ws_over _ (by decide))
        exact ⟨cA, fun _ _ => h1⟩
    · exact ⟨0, fun h1 h2 => absurd ⟨h1, h2⟩ hr⟩
  refine ⟨fun r => Classical.choose (h r), fun k q hq => ?_⟩
  unfold atys at hq
  rw [List.getElem?_map] at hq
  obtain ⟨j, hj, rfl⟩ := Option.map_eq_some_iff.mp hq
  have hj1 : j < 37 := List.mem_range.mp (List.mem_of_getElem? hj)
  exact Classical.choose_spec (h (j + 11)) (by omega) (by omega)
theorem ws_cls {s : State} {args : Array Value} (hts : ∀ w ∈ lw_tbl, w.before args s = true) : ∃ (dC : Nat → ClassId) (dI : Nat → Nat → Nat), ∀ (c : Nat) (q : vw_C), vwCl[c]? = some q → u_Kn s q.1 q.2.1 q.2.2 (dC c) (dI c) := by
  have h9 : ∀ w ∈ jx_WT, w.before args s = true := fun w hw => hts w (List.mem_filter.mp hw).1
  have h : ∀ c : Nat, ∃ (cC : ClassId) (iS : Nat → Nat), ∀ q : vw_C, vwCl[c]? = some q → u_Kn s q.1 q.2.1 q.2.2 cC iS := by
    intro c
    match c with
    | 0 =>
      obtain ⟨cC, iS, h⟩ := u_known (C := RX0) (T := TX0) (N := 4) (n := 4) h9 inX0 (hts _ (by decide +kernel))
      exact ⟨cC, iS, fun q hq => by cases hq; exact h⟩
    | 1 =>
      obtain ⟨cC, iS, h⟩ := u_known (C := RX1) (T := TX1) (N := 3) (n := 3) h9 inX1 (hts _ (by decide +kernel))
      exact ⟨cC, iS, fun q hq => by cases hq; exact h⟩
    | 2 =>
      obtain ⟨cC, iS, h⟩ := u_known (C := RX2) (T := TX2) (N := 2) (n := 2) h9 inX2 (hts _ (by decide +kernel))
      exact ⟨cC, iS, fun q hq => by cases hq; exact h⟩
    | 3 =>
      obtain ⟨cC, iS, h⟩ := u_known (C := RX3) (T := TX3) (N := 10) (n := 10) h9 inX3 (hts _ (by decide +kernel))
      exact ⟨cC, iS, fun q hq => by cases hq; exact h⟩
    | 4 =>
      obtain ⟨cC, iS, h⟩ := u_known (C := RX4) (T := TX4) (N := 4) (n := 4) h9 inX4 (hts _ (by decide +kernel))
      exact ⟨cC, iS, fun q hq => by cases hq; exact h⟩
    | 5 =>
      obtain ⟨cC, iS, h⟩ := u_known (C := RX5) (T := TX5) (N := 2) (n := 2) h9 inX5 (hts _ (by decide +kernel))
      exact ⟨cC, iS, fun q hq => by cases hq; exact h⟩
    | 6 =>
      obtain ⟨cC, iS, h⟩ := u_known (C := RX6) (T := TX6) (N := 9) (n := 9) h9 inX6 (hts _ (by decide +kernel))
      exact ⟨cC, iS, fun q hq => by cases hq; exact h⟩
    | 7 =>
      obtain ⟨cC, iS, h⟩ := u_known (C := RX7) (T := TX7) (N := 1) (n := 1) h9 inX7 (hts _ (by decide +kernel))
      exact ⟨cC, iS, fun q hq => by cases hq; exact h⟩
    | 8 =>
      obtain ⟨cC, iS, h⟩ := u_known (C := RX8) (T := TX8) (N := 2) (n := 2) h9 inX8 (hts _ (by decide +kernel))
      exact ⟨cC, iS, fun q hq => by cases hq; exact h⟩
    | 9 =>
      obtain ⟨cC, iS, h⟩ := u_known (C := RX9) (T := TX9) (N := 14) (n := 14) h9 inX9 (hts _ (by decide +kernel))
      exact ⟨cC, iS, fun q hq => by cases hq; exact h⟩
    | c + 10 => exact ⟨0, fun _ => 0, fun q hq => by simp [vwCl] at hq⟩
  exact ⟨fun c => Classical.choose (h c), fun c => Classical.choose (Classical.choose_spec (h c)), fun c => Classical.choose_spec (Classical.choose_spec (h c))⟩
theorem ws_wid : ∀ j : Nat, j < 29 → Cond.eq (.elem (.static "LeadCases" "WIDTHS" "[I") (.int (Int32.ofNat j))) (.int (jx_wid.getD j 0)) ∈ jx_flat := by decide +kernel
theorem ws_uni : ∀ j : Nat, j < 5 → Cond.eq (.elem (.static "LeadCases" "UNITS" "[I") (.int (Int32.ofNat j))) (.int (jx_uni.getD j 0)) ∈ jx_flat := by decide +kernel
theorem ws_str : ∀ q ∈ jx_str, Cond.exactly (.string q.1 q.2.1) "java/lang/String" ∈ jx_flat := by decide +kernel
theorem ws_str1 : ∀ q ∈ jx_str, Cond.stringRef q.1 q.2.1 q.2.2 ∈ lw_tbl := by decide +kernel
theorem ws_nM : ∀ q ∈ jx_nestM, Cond.methodLinkNest q.1 q.2.1 q.2.2.1 q.2.2.2 ∈ lw_tbl := by decide +kernel
theorem ws_nF : ∀ q ∈ jx_nestF, Cond.fieldLinkNest q.1 q.2.1 q.2.2.1 q.2.2.2.1 q.2.2.2.2.1 q.2.2.2.2.2 ∈ lw_tbl := by decide +kernel
theorem ws_exs : ∀ q ∈ jx_exs, Cond.castable q q ∈ lw_tbl := by decide +kernel
theorem ws_nc : ∀ q ∈ jx_exs, ∀ q' ∈ jx_exs, q ≠ q' → Cond.not (.castable q q') ∈ jx_flat := by decide +kernel
theorem ws_decl : ∀ q ∈ jx_decl, Cond.declares ⟨q, "<init>", "(Ljava/lang/String;)V"⟩ ∈ lw_tbl := by decide +kernel
theorem ws_sw : Cond.laysStatic "LeadCases" "WIDTHS" "[I" ∈ lw_tbl ∧ Cond.laysStatic "LeadCases" "UNITS" "[I" ∈ lw_tbl ∧ Cond.laysStatic Bundle.tN "UNASSIGNED_STACK" Bundle.steD ∈ lw_tbl ∧ Cond.laysStatic Bundle.tN "SUPPRESSED_SENTINEL" Bundle.listD ∈ lw_tbl ∧ Cond.initialized "LeadCases" ∈ lw_tbl ∧ Cond.initialized Bundle.tN ∈ lw_tbl := by decide +kernel
theorem ws_sf : Cond.arrayOf (.static "LeadCases" "WIDTHS" "[I") .int ∈ jx_flat ∧ Cond.arrayOf (.static "LeadCases" "UNITS" "[I") .int ∈ jx_flat ∧ Cond.eq (.length (.static "LeadCases" "WIDTHS" "[I")) (.int 29) ∈ jx_flat ∧ Cond.eq (.length (.static "LeadCases" "UNITS" "[I")) (.int 5) ∈ jx_flat ∧ Cond.isRef (.static Bundle.tN "UNASSIGNED_STACK" Bundle.steD) ∈ jx_flat ∧ Cond.isRef (.static Bundle.tN "SUPPRESSED_SENTINEL" Bundle.listD) ∈ jx_flat := by decide +kernel
theorem ws_Gs {l : Launch} {s : State} {b L : Nat} {xs : Nat → Int32} (hts : ∀ w ∈ lw_tbl, w.before #[Value.ref b] s = true) (hfl : ∀ w ∈ jx_flat, w.before #[Value.ref b] s = true) (hX : va_X b L xs s s.heap) (hbl : b < s.heap.size) :
    ∃ G : jx_G, gl G = l ∧ glo G = s.heap.size ∧ gB G = b ∧ gL G = L ∧ gX G = xs ∧ Gs G s := by
  obtain ⟨dC, dI, hC⟩ := ws_cls hts
  obtain ⟨dA, hA⟩ := ws_arr hts
  have hn : ∀ a : Nat, a < s.heap.size → ¬ (fun q : Nat => s.heap.size ≤ q) a := fun a h => Nat.not_le.mpr h
  obtain ⟨w1, w2, w3, w4, w5, w6⟩ := ws_sw
  obtain ⟨f1, f2, f3, f4, f5, f6⟩ := ws_sf
  obtain ⟨tW, eW, hW⟩ := va_Tof (A := fun q : Nat => s.heap.size ≤ q) (N := 29) (f := jx_fW) (by decide) (hfl _ f1) (va_eqt (hfl _ f3)) (fun j hj => va_eqt (hfl _ (ws_wid j hj))) hn
  obtain ⟨tU, eU, hU⟩ := va_Tof (A := fun q : Nat => s.heap.size ≤ q) (N := 5) (f := jx_fU) (by decide) (hfl _ f2) (va_eqt (hfl _ f4)) (fun j hj => va_eqt (hfl _ (ws_uni j hj))) hn
  refine ⟨(l, s.heap.size, dC, dI, dA, tW, tU, b, L, xs), rfl, rfl, rfl, rfl, rfl, ⟨hC, hA⟩, va_Zof (hts _ w1) (hts _ w5) eW hn, va_Zof (hts _ w2) (hts _ w5) eU hn, hW, hU, hX, hbl, Nat.le_refl _, vx_Zqof (hts _ w3) (hts _ w6) (hfl _ f5) hn, vx_Zqof (hts _ w4) (hts _ w6) (hfl _ f6) hn, fun q hq => ?_, fun q hq => va_Nw.of rfl (hts _ (ws_nM q hq)), fun q hq => va_Nw.of rfl (hts _ (ws_nF q hq)), fun q hq => va_Nw.of rfl (hts _ (ws_exs q hq)), fun q hq q' hq' hne => va_Nc.of (hfl _ (ws_nc q hq q' hq' hne)), fun q hq => va_Nw.of rfl (hts _ (ws_decl q hq)), fun q hq => va_AO.of (hts _ (ws_over q hq))⟩
  obtain ⟨a, -, -, -, h1, -⟩ := Cond.exactly_spec (hfl _ (ws_str q hq))
  exact ⟨a, vk_R.of (hts _ (ws_str1 q hq)) h1⟩
/-- THE LAW, from its entry -/
theorem whole_start {p : Program} {e : Env} {s : State} {m : MethodId} {below : List Frame} {meth : Method} {c : Code} (l : Launch) (hflags : l.flags = flags0) {b L : Nat} {xs : Nat → Int32} (hL : L ≤ 260) (C0 : lw_At p s m meth c b L xs) : W p l e room_1 s m #[Value.ref b] below meth c s.heap [] 0 0 (lw_Z below #[Value.ref b] s) (entryFrame m ([Value.ref b] : List Value).toArray 18) := by
  obtain ⟨hx, hb, hr, hml, hown, hts, hX, hbl, hlocks, hgv⟩ := C0
  have hfl : ∀ w ∈ jx_flat, w.before #[Value.ref b] s = true := flat_of_before _ hgv
  obtain ⟨G, g1, g2, g3, g4, g5, hG⟩ := ws_Gs (l := l) hts hfl hX hbl
  subst g1
  have hst : (gl G).stackTraces = false := by
    unfold Launch.stackTraces
    rw [hflags]
    decide +kernel
  have h9 : jLx G p s m b meth c := ⟨hx, hb, hml, hown, fun w hw => hts w (List.mem_filter.mp hw).1, hG, hlocks, hr, g2⟩
  have hs := sc_L_law (e := e) (below := below) (ad0 := fun r _ => if r = 48 then gW G else if r = 49 then gU G else gB G) (n0 := qN jM0) (fun _ _ => True) h9
  have hw := law_run G hst (Q := fun _ _ => True) (Wn := Wm G p e room_1 s m #[Value.ref b] below meth c (lw_Z below #[Value.ref b] s) (fun r _ => if r = 48 then gW G else if r = 49 then gU G else gB G) (qN jM0) 18) (fun J K pc hJ hK => hs pc J K hJ hK) (by rw [g4]; exact hL)
  have hz : ∀ r i, r < 48 → i < qN jM0 r → False := fun r i h1 h2 => by
    have h3 : qN jM0 r = 0 := by
      show (if 48 ≤ r ∧ r < 51 then 1 else 0) = 0
      rw [if_neg (by omega)]
    omega
  have hR : Rel G (fun r _ => if r = 48 then gW G else if r = 49 then gU G else gB G) jM0 s.heap := by
    refine ⟨⟨[], fun k q h => by simp at h, ⟨fun i j p q h => by simp at h, fun k q h => by simp at h⟩, fun r i h1 h2 => (hz r i h1 h2).elim⟩, fun r i r' i' h1 h2 h3 h4 _ => (hz r i h1 h3).elim, fun r i k j h1 h2 _ _ => (hz r i h1 h2).elim, rfl, rfl, rfl, rfl, rfl, rfl⟩
  have hv : cv (fun r _ => if r = 48 then gW G else if r = 49 then gU G else gB G) v50 = .ref b := by
    rw [← g3]
    rfl
  have ha : jArgs [v50] := by
    intro v h
    rw [List.mem_singleton.mp h]
    rfl
  have hlh := LH.ent (as := [v50]) (n := 18) (cz := c.code.size) (ad := fun r _ => if r = 48 then gW G else if r = 49 then gU G else gB G) ha (by decide)
  simp only [List.map_cons, List.map_nil, hv] at hlh
  rw [lg_entry_eq]
  refine hw _ s.heap [] _ hR (fun r => ⟨Nat.le_refl _, fun _ _ => rfl⟩) ?_ (fun v hv => by cases hv) va_S.rf hlh
  intro v h
  simp only [List.mem_cons, List.not_mem_nil, or_false, reduceCtorEq, Option.some.injEq] at h
  subst h
  show (0 : Nat) < qN jM0 50
  decide
set_option maxHeartbeats 4000000 in
theorem lw_walk (l : Launch) (hflags : l.flags = flags0) (b : Addr) (xs : List Int32) : MetFree l x (headSpec (Jvm.Cond.code x code maxLocals ret :: tables_1) room_1) (lw_P b xs) (fun _ _ _ _ _ => True) lw_Q := by
  refine MetFree.of_bodyS (code := code) (maxLocals := maxLocals) (ret := ret) (by decide) ?_ ?_
  · intro args s m h hn
    obtain ⟨meth, c, h1, h2, h3, h4, h5, h6, -, -⟩ := Cond.code_spec hn (atoms_spec (ws := Jvm.Cond.code x code maxLocals ret :: tables_1) h _ List.mem_cons_self)
    exact ⟨meth, c, h1, h2, h3, h4, h5, h6⟩
  · intro p e s m args below meth c s₁ B hml0 hP _
    obtain ⟨rfl, hx, hbd, hgv⟩ := hP
    obtain ⟨scr, harrAt, hlist, hof, hsmall⟩ := hx
    obtain ⟨hcb, hkn, -, -⟩ := State.arrayAt?_spec harrAt
    have hown : s.vm.findClass R_law = some m.cls := findClass_of_methodNamed B.named
    have hts0 : ∀ c ∈ (Jvm.Cond.code x code maxLocals ret :: tables_1), c.before #[Value.ref b] s = true := atoms_spec (ws := Jvm.Cond.code x code maxLocals ret :: tables_1) B.pre
    have hts : ∀ w ∈ lw_tbl, w.before #[Value.ref b] s = true := k2_hts_sels lw_privs (fun w hw => hts0 w (List.mem_cons_of_mem _ hw)) lw_privs_ok
    have hml : c.maxLocals = 18 := B.maxLocals_eq (hts0 _ List.mem_cons_self)
    have X₀ : Stand p l e room_1 s m #[Value.ref b] below meth c s₁ [] 0 0 := Stand.of_body B
    have hh0 : s₁.heap = s.heap := by rw [B.state]; rfl
    have hsz : scr.slots.size = xs.length := by rw [← Array.length_toList, hlist, List.length_map]
    have hval : ∀ j : Nat, j < xs.length → scr.slots[j]? = some (.int (xs.getD j 0)) := fun j hj => by
      rw [← Array.getElem?_toList, hlist]
      simp [hj]
    have hbl : b < s.heap.size := (Array.getElem?_eq_some_iff.mp hcb).1
    have hX : va_X b xs.length (fun j => xs.getD j 0) s s.heap := ⟨scr, hcb, hof, hkn, hsz, hval⟩
    have K : W p l e room_1 s m #[Value.ref b] below meth c s₁.heap [] 0 0 (lw_Z below #[Value.ref b] s) (entryFrame m ([Value.ref b] : List Value).toArray 18) := by
      rw [hh0]
      exact whole_start l hflags hbd ⟨B.exec, B.bytes, B.returns, hml, hown, hts, hX, hbl, B.notSynchronized, hgv⟩
    obtain ⟨t, a1, o, b1, b2, b3⟩ := K s₁ rfl X₀
    exact ⟨t, o, a1, b1, b2, b3⟩
theorem lw_pre_spec {args : Array Value} {s : State} (h : (Jvm.Cond.and given_1 narrow_1).before args s = true) (hr : rest_1_c.before args s = true) : ∃ (b : Addr) (xs : List Int32), lw_P b xs args s := by
  have hs := flat_of_before _ h
  have hq := flat_of_before _ hr
  have hc : (Cond.count 1).before args s = true := hs _ (by decide +kernel)
  have harr : (Cond.arrayOf (.arg 0) .int).before args s = true := hs _ (by decide +kernel)
  have hle : (Cond.le (.length (.arg 0)) (.int 260)).before args s = true := hs _ (by decide +kernel)
  have hlen : (Cond.isInt (.length (.arg 0))).before args s = true := hq _ (by decide +kernel)
  have hall : (Cond.all (.arg 0) (.isInt (.elem (.arg 0) (.index 0)))).before args s = true := hq _ (by decide +kernel)
  obtain ⟨b, xs, hb, hx⟩ := State.ints_of_pre rfl harr hlen hall
  have hsm : xs.length < 2 ^ 31 := hx.choose_spec.2.2.2
  have hev : (Term.length (.arg 0)).eval args s none [] s = some (.int xs.length.toInt32) := hx.length_eval hb
  have hv := Cond.le_ints hev (show (Term.int 260).eval args s none [] s = some (.int 260) from rfl)
  have hd : xs.length.toInt32 ≤ 260 := by
    simpa [Cond.before, Cond.holds, hv] using hle
  have hN : xs.length ≤ 260 := (Int32.ofNat_le_ofNat hsm (by decide)).mp (show Int32.ofNat xs.length ≤ Int32.ofNat 260 from hd)
  exact ⟨b, xs, Cond.one_arg hc (show args[0]? = some (.ref b) from hb), hx, hN, h⟩
theorem lw_comes (l : Launch) (hflags : l.flags = flags0) : Comes l x (Jvm.Cond.code x code maxLocals ret :: tables_1) room_1 (fun tb e args s => Calls_1 tb e args s ∧ rest_1 tb e args s ∧ Pre_1 tb e args s)
    (fun _ _ args s o t => lw_Q args s o t) := by
  intro p e ha hc hk s m args below hf hfit hheap happ hpre
  obtain ⟨b, xs, hP⟩ := lw_pre_spec hpre.2.2 hpre.2.1
  obtain ⟨k, o, h1, h2, h3, hQ⟩ := lw_walk l hflags b xs p e ha hc hk s m args below hf ((Spec.applies_iff_loose hf).mp happ).1 hP trivial
  exact ⟨k, o, h1, h2, h3, hQ⟩
theorem lw_frame {s t : State} {o : Outcome} {args : Array Value} (h : Framed s o t [] 635328 7195483) :
    Framed s o t (fieldLocs frame_1_writes args s ++ arrayLocs frame_1_arrays args s ++ staticLocs frame_1_statics s) 635328 7195483 := h
theorem lw_limb (L : Cond) (hL : ∀ (args : Array Value) (s t : State), L.after args s (.returned (some (.int 1))) t = true) :
    ArmFor flags0 classFile x code maxLocals ret World_1 tables_1 room_1 Calls_1 rest_1 Pre_1
      (fun tb e a s o t => postC L tb e a s o t ∧ Framed s o t (fieldLocs frame_1_writes a s ++ arrayLocs frame_1_arrays a s ++ staticLocs frame_1_statics s) 635328 7195483) := by
  intro l hflags _ _ p e ha hc hk s m args below hf hfit hheap happ hpre
  obtain ⟨k, o, h1, h2, h3, rfl, hF⟩ := lw_comes l hflags p e ha hc hk s m args below hf hfit hheap happ hpre
  exact ⟨k, _, h1, h2, h3, hL args s _, lw_frame hF⟩
theorem i_vc : Claimed_1_1 ∧ Claimed_1_2 := ⟨lw_limb limb_1_1 (fun args s t => by simp [limb_1_1, Cond.after, Cond.holds, Cond.value]), lw_limb limb_1_2 (fun args s t => Cond.after_iff.mpr (by
  first | (rw [show limb_1_2 = Cond.eq .result (.int 1) from rfl, Cond.eq_ints (x := 1) (y := 1) rfl rfl]; simp; done) | (simp [limb_1_2, Cond.value, Term.eval]; done)))⟩
