/-! calls that may throw; methods with handlers; the law (by wip/whole/gen7.py) -/
def ti_callX (G : jx_G) (y : jx_Y) (r n mc ms mc' ms' ev : Nat) (hsL : List Nat) : jx_Tr := fun ls st M cu su J _ K => match st.drop n with
  | .inr (.inr a) :: q => cu + mc' ≤ mc ∧ su + ms' ≤ ms ∧ (st.take n).length = n ∧ q.length ≤ 4 ∧ jget ls ev = none ∧ ∃ i, a = (r, some i) ∧ Mx G y (.inr (.inr (r, some i)) :: (st.take n).reverse) M (fun o M' => match o with
    | .inl (some v) => K ls (v :: q) M' (cu + mc') (su + ms')
    | .inl none => K ls q M' (cu + mc') (su + ms')
    | .inr k => ¬ hsL.getD k 0 = 0 ∧ J (hsL.getD k 0) ls [] M' (cu + mc') (su + ms'))
  | _ => False
def jCat (G : jx_G) (p : Program) (e : Env) (R : Room) (s : State) (m : MethodId) (args : Array Value) (below : List Frame) (meth : Method) (c : Code) (Qf : State → Prop) (ad0 : Nat → Nat → Nat) (n0 : Nat → Nat) (nL : Nat) (pc k tgt ev : Nat) : Prop := ∀ (H : Heap) (locs : List Loc) (cells slots : Nat) (lsA : Array Slot) (rest : List Value) (q : Addr) (ce : Cell), H[q]? = some ce → ce.vm = .none → s.vm.findClass (jx_exN k) = some ce.cls → ∀ lv, lv_has lsA nL lv →
  (∀ lsA', lv_has lsA' nL ((ev, .ref q) :: lv.filter (fun q => !(q.1 == ev) && !(q.1 + 1 == ev && q.2.category == 2))) → W p (gl G) e R s m args below meth c H locs cells slots Qf (F0 m tgt lsA' [])) → vx_W p (gl G) e R s m args below meth c H locs cells slots Qf (F0 m pc lsA rest) q
theorem jget_none : ∀ {ls : jx_L} {i : Nat} {v : jx_V}, jget ls i = none → ¬ ls[i]? = some (some v)
  | [], _, _, _, h => by simp at h
  | a :: l, 0, v, h0, h => by
    have h1 : a = none := h0
    simp [h1] at h
  | a :: l, n + 1, v, h0, h => jget_none (show jget l n = none from h0) (by simpa using h)
theorem LH.hand {ad : Nat → Nat → Nat} {lsA' : Array Slot} {nL ev : Nat} {q : Nat} {ls : jx_L} {M : jx_M} (hO : okL M ls) (hn : jget ls ev = none) (h : lv_has lsA' nL ((ev, .ref q) :: (jpr ad ls 0).filter (fun q => !(q.1 == ev) && !(q.1 + 1 == ev && q.2.category == 2)))) : LH ad lsA' nL ls := by
  refine ⟨h.1, h.2.1, fun j x hj => ?_⟩
  have hne : j ≠ ev := fun z => jget_none hn (by rw [← z]; exact hj)
  have hm := jpr_mem ad ls 0 j x hj
  have hc : (cv ad x).category = 1 := by rw [cv_cat ad (fun _ _ => 0)]; exact (hO x (List.mem_of_getElem? hj)).2
  exact h.2.2 (j, cv ad x) (List.mem_cons_of_mem _ (List.mem_filter.mpr ⟨by simpa using hm, by simp [hne, hc]⟩))
theorem callX_fin {G : jx_G} {p : Program} {e : Env} {R : Room} {s : State} {m : MethodId} {args : Array Value} {below : List Frame} {meth : Method} {c : Code} {Qf : State → Prop} {ad0 : Nat → Nat → Nat} {n0 : Nat → Nat} {nL : Nat} {Q' : jx_O → jx_M → Prop} {pc : Nat} {ls : jx_L} {rest : List jx_V} {st0 : List Value} {M : jx_M} {cu su mc ms ev : Nat} {hsL : List Nat} {ad : Nat → Nat → Nat} {H : Heap} {locs : List Loc} {lsA : Array Slot} {a : Array Value}
    (hr : vx_Run p (gl G) e R s m args below meth c H locs cu su mc ms (F0 m pc lsA st0) (rest.map (cv ad)) (QcR G ad (qN M) Q' a) (QcX G ad (qN M) Q') (gF G)) (hE : jExt ad0 n0 ad M) (hl : okL M ls) (hs : okS M rest) (hS : va_S (gF G) s.heap H locs) (hL : LH ad lsA nL ls) (hev : jget ls ev = none)
    (hcat : ∀ k, (k = 1 ∨ k = 2 ∨ k = 3) → ¬ hsL.getD k 0 = 0 → jCat G p e R s m args below meth c Qf ad0 n0 nL pc k (hsL.getD k 0) ev)
    (hK : ∀ v M', Q' (.inl v) M' → Wm G p e R s m args below meth c Qf ad0 n0 nL (pc + 3) ls (v.toList ++ rest) M' (cu + mc) (su + ms)) (hX : ∀ k M', Q' (.inr k) M' → ¬ hsL.getD k 0 = 0 ∧ Wm G p e R s m args below meth c Qf ad0 n0 nL (hsL.getD k 0) ls [] M' (cu + mc) (su + ms)) : W p (gl G) e R s m args below meth c H locs cu su Qf (F0 m pc lsA st0) := by
  intro T hT X
  rcases hr T hT X with ⟨v, st₀, t, T', L, h0, X', hLf, e1, e2, ⟨ad', M', v', hv, hR', hE', hok, hQ, hF⟩, stp⟩ | ⟨q, st₀, t, T', L, E, ce, h0, X', hLf, e1, e2, ⟨ad', M', k, hk0, hk1, hR', hE', hQ, hF⟩, hce, hcv, hcl, stp⟩
  · have hv2 : v = v'.map (cv ad') := by cases hv; rfl
    subst hv2
    obtain ⟨k1, k2, k3⟩ := vx_keep h0 e1 hS (fun q _ h => h) (fun q h => h) hLf hF
    have hn : ∀ r, qN M r ≤ qN M' r := fun r => (hE' r).1
    have hx : ∀ r i, i < qN M r → ad' r i = ad r i := fun r i hi => (hE' r).2 i hi
    have hsk : (v'.toList ++ rest).map (cv ad') = (v'.map (cv ad')).toList ++ rest.map (cv ad) := by
      rw [List.map_append]
      congr 1
      · cases v' <;> rfl
      · exact List.map_congr_left (fun x hx9 => cv_ext hx (hs x hx9))
    have hs' : okS M' (v'.toList ++ rest) := fun x hx9 => by
      rcases List.mem_append.mp hx9 with h | h
      · exact hok x (by cases v' with
          | none => simp at h
          | some y => simp at h; rw [h])
      · exact okA_congr hn (hs x h)
    obtain ⟨t2, a1, b1⟩ := hK v' M' hQ ad' T'.heap (locs ++ L) lsA (by rw [e1]; exact hR') (hE.trans hE') (okL_congr hn hl) hs' k3 (hL.ext hl hx) T' rfl X'
    rw [hsk] at a1
    exact ⟨t2, stp t2 a1, b1⟩
  · subst hk0
    obtain ⟨k1, k2, k3⟩ := vx_keep h0 e1 hS (fun q _ h => h) (fun q h => h) hLf hF
    have hn : ∀ r, qN M r ≤ qN M' r := fun r => (hE' r).1
    have hx : ∀ r i, i < qN M r → ad' r i = ad r i := fun r i hi => (hE' r).2 i hi
    obtain ⟨hz, hW9⟩ := hX k M' hQ
    have hL' := hL.ext hl hx
    obtain ⟨t2, a1, b1⟩ := hcat k hk1 hz T'.heap (locs ++ L) (cu + mc) (su + ms) lsA (rest.map (cv ad)) q ce (by rw [e1]; exact hce) hcv hcl _ hL'.has (fun lsA' h9 => hW9 ad' T'.heap (locs ++ L) lsA' (by rw [e1]; exact hR') (hE.trans hE') (okL_congr hn hl) (fun v hv => by cases hv) k3 (LH.hand (okL_congr hn hl) hev h9)) T' rfl X'
    exact ⟨t2, stp.trans a1, b1⟩
theorem jx_blindX {G : jx_G} {as : List jx_V} {M : jx_M} {ad : Nat → Nat → Nat} : FrameBlind (va_Pc (as.map (cv ad)) (fun U => Gs G U ∧ Rel G ad M U.heap ∧ okS M as)) := jx_blind
theorem sd_callX {G : jx_G} {p : Program} {e : Env} {R : Room} {s : State} {m : MethodId} {args : Array Value} {below : List Frame} {meth : Method} {c : Code} {Qf : State → Prop} {ad0 : Nat → Nat → Nat} {n0 : Nat → Nat} {nL : Nat} {Q : jx_O → jx_M → Prop} {cc : ByteArray} {pc : Nat} (hx : p.tables.exec = Jvm.exec) (hb : c.code = cc) {own : String} (hown : s.vm.findClass own = some m.cls) (hts : ∀ w ∈ jx_WT, w.before args s = true) (hG : Gs G s) {y : jx_Y} {idx n lv mc ms mc' ms' : Nat} (hml : c.maxLocals = nL) (hRm : jRm R lv mc ms) (hyc : yMc y = mc') (hys : yMs y = ms') (hlv : yLv y + 1 ≤ lv) (hloc : yL y ≤ 13) {r ev : Nat} {hsL : List Nat} {C : String} {T : u_T} {N : Nat} (hr11 : r < 11) (hcl : vwCl[r]? = some (C, T, N)) (hlk : Cond.methodLink own idx (yNm y) ∈ jx_WT) (hin : Cond.instanceMethod (yNm y) ∈ jx_WT) (hse : Cond.selects C (yNm y) (yNm y) ∈ jx_WT) (hini : Cond.initialized C ∈ jx_WT) (hyC : (yNm y).cls = C) (hco : Cond.code (yNm y) (yB y) (yL y) (yRt y) ∈ jx_WT) (hd2 : (yNm y).cls ≠ "java/lang/invoke/MethodHandle" ∧ (yNm y).cls ≠ "java/lang/invoke/VarHandle" ∧ (parseMethodDescriptor (yNm y).desc).map (fun d => d.parameters.length) = some n)
    (hcat : ∀ k, (k = 1 ∨ k = 2 ∨ k = 3) → ¬ hsL.getD k 0 = 0 → jCat G p e R s m args below meth c Qf ad0 n0 nL pc k (hsL.getD k 0) ev) (hd : decode cc pc = .ok (.invokevirtual idx, 3)) : Snd G p e R s m args below meth c Qf ad0 n0 nL Q pc (pc + 3) (ti_callX G y r n mc ms mc' ms' ev hsL) := by
  intro J K hJ hK ls st M cu su h
  unfold ti_callX at h
  split at h
  · rename_i a q hdr
    obtain ⟨hc1, hc2, hn, hlen, hev, i, rfl, h⟩ := h
    intro ad H locs lsA hR hE hl hs hS hL
    subst hyc
    subst hys
    have hsr : okS M (.inr (.inr (r, some i)) :: q) := by rw [← hdr]; exact okS_rest hs n
    obtain ⟨⟨ws, hP, hD, hcov⟩, hI, hDn, hSt⟩ := id hR
    obtain ⟨q0, hq0⟩ := hcov r i (by omega) (okS_hd hsr)
    rw [cE_obj hr11] at hq0
    have hrl : ((q.map (cv ad)).map fun v => v.category).sum ≤ 8 := Nat.le_trans (cats_le ad _) (by omega)
    have hst9 : st.map (cv ad) = ((st.take n).reverse.map (cv ad)).reverse ++ .ref (ad r i) :: q.map (cv ad) := by
      rw [stack_eq (n := n) st, hdr]
      rfl
    have hok9 : okS M (.inr (.inr (r, some i)) :: (st.take n).reverse) := okS_cons (okS_hd hsr) (okS_args hs n)
    refine callX_fin (rest := q) (ev := ev) (hsL := hsL) (vx_runV (b := ad r i) (As := (st.take n).reverse.map (cv ad)) (nL := nL) (Ts := jx_WT) ⟨hx, hb, hml, hown, hts⟩ (h ad) (cwV n hts (jx_goodV hlk hin hse hini hco) rfl rfl rfl ⟨hyC, hd2⟩ ⟨by have := hRm.1; show yLv y + 1 ≤ R.frames; omega, by have := hRm.2.1; show 8 + (yL y + 11) + 32 * yLv y ≤ R.locals; omega⟩) ⟨jx_blind, va_recv hG.1 hP hcl hq0, fun U hU hW => ⟨rfl, Gs.warm hG hW (by rw [hU]; exact hS.1) (fun a h1 h2 => by rw [hU]; exact hS.2.1 a h1 h2), by rw [hU]; exact hR, hok9⟩⟩ rfl (take_rev_len hn) hL.1 hst9 (lv_room hrl) hd ⟨by have := hRm.2.2.1; omega, by have := hRm.2.2.2; omega⟩) hE hl (okS_tl hsr) hS hL hev hcat (fun v M' hq => ?_) (fun k M' hq => ⟨hq.1, hJ _ _ _ _ _ _ hq.2⟩)
    cases v with
    | none => exact hK _ _ _ _ _ hq
    | some v => exact hK _ _ _ _ _ hq
  · exact h.elim
/-- a method with handlers -/
def Mh (G : jx_G) (y : jx_Y) (hh : List (Nat × Nat × Nat × Nat)) (as : List jx_V) (M : jx_M) (Q : jx_O → jx_M → Prop) : Prop := ∀ ad : Nat → Nat → Nat,
  Met (gl G) (yNm y) (Cond.codeWith (yNm y) (yB y) (yL y) (yRt y) hh :: jx_WT) (rmm y) (va_Pc (as.map (cv ad)) (fun U => Gs G U ∧ Rel G ad M U.heap ∧ okS M as)) (QcR G ad (qN M) Q) (yMc y) (yMs y) (gF G)
def jCdH (G : jx_G) (y : jx_Y) (hh : List (Nat × Nat × Nat × Nat)) (cd : jx_C) : Prop := ∀ (p : Program) (e : Env) (R : Room) (s : State) (m : MethodId) (args : Array Value) (below : List Frame) (meth : Method) (c : Code) (Qf : State → Prop) (ad0 : Nat → Nat → Nat) (n0 : Nat → Nat)  (Q : jx_O → jx_M → Prop), jCx G y p R s m args meth c → c.exceptionTable.toList = tableOf hh → jEnd G p e R s m args below meth c Qf ad0 n0 (yL y) (yMc y) (yMs y) Q → ∀ pc, SndL G p e R s m args below meth c Qf ad0 n0 (yL y) Q pc (cd pc).2 (cd pc).1
theorem Mh.of {G : jx_G} {y : jx_Y} {hh : List (Nat × Nat × Nat × Nat)} {as : List jx_V} {M : jx_M} {Q : jx_O → jx_M → Prop} {cd : jx_C} (hcd : jCdH G y hh cd) (hy : plainName (yNm y).cls = true) (ha : jArgs as) (hn : as.length ≤ yL y) (h : ∀ Wn : jx_J, Cl cd Q Wn → Wn 0 (jent as (yL y)) [] M 0 0) : Mh G y hh as M Q := by
  intro ad
  refine va_MetW (cc := yB y) (maxL := yL y) (ret := yRt y) (hh := hh) hy rfl ?_
  intro p e s m args below meth c s₁ B hml hv
  obtain ⟨rfl, hGs, hR, hok⟩ := hv
  have hts := atoms_spec (ws := Cond.codeWith (yNm y) (yB y) (yL y) (yRt y) hh :: jx_WT) B.pre
  have hcx : jCx G y p (headSpec (Cond.codeWith (yNm y) (yB y) (yL y) (yRt y) hh :: jx_WT) (rmm y)).room s m (as.map (cv ad)).toArray meth c := ⟨B.exec, B.bytes, hml, findClass_of_methodNamed B.named, fun w hw => hts w (List.mem_cons_of_mem _ hw), hGs, B.notSynchronized, B.returns, (name_of_methodNamed B.named B.method).1, jRm_of y⟩
  have hs := hcd p e _ s m _ below meth c (MQ below (QcR G ad (qN M) Q) (as.map (cv ad)).toArray s (yMc y) (yMs y) (gF G)) ad (qN M) Q hcx (vx_table (x := yNm y) B (hts _ List.mem_cons_self)) (fun H locs g h9 => h9)
  have hw := h (Wm G p e (headSpec (Cond.codeWith (yNm y) (yB y) (yL y) (yRt y) hh :: jx_WT) (rmm y)).room s m (as.map (cv ad)).toArray below meth c (MQ below (QcR G ad (qN M) Q) (as.map (cv ad)).toArray s (yMc y) (yMs y) (gF G)) ad (qN M) (yL y)) (fun J K pc hJ hK => hs pc J K hJ hK)
  rw [lg_entry_eq]
  exact hw ad s.heap [] _ hR (fun r => ⟨Nat.le_refl _, fun _ _ => rfl⟩) (okL.ent ha hok) (fun v hv => by cases hv) va_S.rf (LH.ent ha hn)
def ti_callH (G : jx_G) (y : jx_Y) (hh : List (Nat × Nat × Nat × Nat)) (n mc ms mc' ms' : Nat) : jx_Tr := fun ls st M cu su _ _ K => cu + mc' ≤ mc ∧ su + ms' ≤ ms ∧ (st.take n).length = n ∧ (st.drop n).length ≤ 4 ∧ Mh G y hh (st.take n).reverse M (fun o M' => match o with
  | .inl (some v) => K ls (v :: st.drop n) M' (cu + mc') (su + ms')
  | .inl none => K ls (st.drop n) M' (cu + mc') (su + ms')
  | .inr _ => False)
theorem sd_callH {G : jx_G} {p : Program} {e : Env} {R : Room} {s : State} {m : MethodId} {args : Array Value} {below : List Frame} {meth : Method} {c : Code} {Qf : State → Prop} {ad0 : Nat → Nat → Nat} {n0 : Nat → Nat} {nL : Nat} {Q : jx_O → jx_M → Prop} {cc : ByteArray} {pc : Nat} (hx : p.tables.exec = Jvm.exec) (hb : c.code = cc) {own : String} (hown : s.vm.findClass own = some m.cls) (hts : ∀ w ∈ jx_WT, w.before args s = true) (hG : Gs G s) {y : jx_Y} {idx n lv mc ms mc' ms' : Nat} (hml : c.maxLocals = nL) (hRm : jRm R lv mc ms) (hyc : yMc y = mc') (hys : yMs y = ms') (hlv : yLv y + 1 ≤ lv) (hloc : yL y ≤ 13) {hh : List (Nat × Nat × Nat × Nat)} (hlk : Cond.methodLink own idx (yNm y) ∈ jx_WT) (hst : Cond.static (yNm y) ∈ jx_WT) (hini : Cond.initialized (yNm y).cls ∈ jx_WT) (hco : Cond.codeWith (yNm y) (yB y) (yL y) (yRt y) hh ∈ jx_WT) (hd2 : (yNm y).cls ≠ "java/lang/invoke/MethodHandle" ∧ (yNm y).cls ≠ "java/lang/invoke/VarHandle" ∧ (parseMethodDescriptor (yNm y).desc).map (fun d => d.parameters.length) = some n) (hd : decode cc pc = .ok (.invokestatic idx, 3)) : Snd G p e R s m args below meth c Qf ad0 n0 nL Q pc (pc + 3) (ti_callH G y hh n mc ms mc' ms') := by
  intro J K hJ hK ls st M cu su h
  obtain ⟨hc1, hc2, hn, hlen, h⟩ := h
  intro ad H locs lsA hR hE hl hs hS hL
  subst hyc
  subst hys
  have hrl : (((st.drop n).map (cv ad)).map fun v => v.category).sum ≤ 8 := Nat.le_trans (cats_le ad _) (by omega)
  refine call_fin (rest := st.drop n) (vx_runSW (hh := hh) (As := (st.take n).reverse.map (cv ad)) (nL := nL) (Ts := jx_WT) ⟨hx, hb, hml, hown, hts⟩ (h ad) (vx_cwSW n hts (jx_goodS hlk hst hini hco) rfl rfl rfl hd2 ⟨by have := hRm.1; show yLv y + 1 ≤ R.frames; omega, by have := hRm.2.1; show 8 + (yL y + 11) + 32 * yLv y ≤ R.locals; omega⟩) ⟨jx_blind, fun U hU hW => ⟨rfl, Gs.warm hG hW (by rw [hU]; exact hS.1) (fun a h1 h2 => by rw [hU]; exact hS.2.1 a h1 h2), by rw [hU]; exact hR, okS_args hs n⟩⟩ rfl (take_rev_len hn) hL.1 (stack_eq st) (lv_room hrl) hd ⟨by have := hRm.2.2.1; omega, by have := hRm.2.2.2; omega⟩) hE hl (okS_rest hs n) hS hL (fun v M' hq => ?_)
  cases v with
  | none => exact hK _ _ _ _ _ hq
  | some v => exact hK _ _ _ _ _ hq
/-- the law's own end -/
def ti_lret : jx_Tr := fun _ st M cu su _ Q _ => match st with
  | [.inl x] => cu ≤ 728160 ∧ su ≤ 6911624 ∧ x = 1
  | _ => False
/-- blocks by a list -/
def jlook : List (Nat × (jx_B × Nat)) → Nat → jx_B × Nat
  | [], pc => ([], pc)
  | q :: l, pc => if pc = q.1 then q.2 else jlook l pc
theorem SndL.look {G : jx_G} {p : Program} {e : Env} {R : Room} {s : State} {m : MethodId} {args : Array Value} {below : List Frame} {meth : Method} {c : Code} {Qf : State → Prop} {ad0 : Nat → Nat → Nat} {n0 : Nat → Nat} {nL : Nat} {Q : jx_O → jx_M → Prop} : ∀ (tbl : List (Nat × (jx_B × Nat))), (∀ q ∈ tbl, SndL G p e R s m args below meth c Qf ad0 n0 nL Q q.1 q.2.2 q.2.1) → ∀ pc, SndL G p e R s m args below meth c Qf ad0 n0 nL Q pc (jlook tbl pc).2 (jlook tbl pc).1
  | [], _, _ => SndL.nil
  | q :: l, h, pc => by
    unfold jlook
    by_cases hp : pc = q.1
    · rw [if_pos hp, hp]
      exact h q List.mem_cons_self
    · rw [if_neg hp]
      exact SndL.look l (fun q hq => h q (List.mem_cons_of_mem _ hq)) pc
theorem jArgs.of {as : List jx_V} (h : as.all jc1 = true) : jArgs as := fun v hv => List.all_eq_true.mp h v hv
