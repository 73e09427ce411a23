/-! SOUND: throws, makings; blocks; methods (by wip/whole/gen5.py) -/
theorem sd_throw {G : jx_G} {p : Program} {e : Env} {R : Room} {s : State} {m : MethodId} {args : Array Value} {below : List Frame} {meth : Method} {c : Code} {Qf : State → Prop} {ad0 : Nat → Nat → Nat} {n0 : Nat → Nat} {nL : Nat} {Q : jx_O → jx_M → Prop} {cc : ByteArray} {pc : Nat} (hx : p.tables.exec = Jvm.exec) (hb : c.code = cc) {own : String} (hown : s.vm.findClass own = some m.cls) (hts : ∀ w ∈ jx_WT, w.before args s = true) (hG : Gs G s) {cls text : String} {ik is ic mc ms k : Nat} (hl9 : (gl G).stackTraces = false) (hQf : Qf = vx_MQ below (QcR G ad0 n0 Q) (QcX G ad0 n0 Q) args s mc ms (gF G)) (htab : ∀ x ∈ c.exceptionTable.toList, False) (hlocks : meth.locks = false) (hml : c.maxLocals = nL) (hRm : jRm R 7 mc ms)
    (hk0 : cls = jx_exN k) (hk1 : k = 1 ∨ k = 2 ∨ k = 3) (hcls : Bundle.fit cls = true) (hce : cls ∈ jx_exs) (hk : Cond.classLink own ik cls ∈ jx_WT) (hini : Cond.initialized cls ∈ jx_WT) (hstr : (own, is, text) ∈ jx_str)
    (hgw : ∀ w ∈ (vx_atS own ic cls ["java/lang/RuntimeException", "java/lang/Exception"]).filter goodWord, w ∈ jx_WT) (hbw : ∀ w ∈ (vx_atS own ic cls ["java/lang/RuntimeException", "java/lang/Exception"]).filter (fun w => !goodWord w), w ∈ Cond.castable cls cls :: jx_decl.map (fun q => Cond.declares ⟨q, "<init>", "(Ljava/lang/String;)V"⟩))
    (hgood : ∀ w ∈ Cond.classLink own ik cls :: Cond.initialized cls :: vx_atS own ic cls ["java/lang/RuntimeException", "java/lang/Exception"], vx_ot w = true)
    (d0 : decode cc pc = .ok (.new ik, 3)) (d3 : decode cc (pc + 3) = .ok (.dup, 1)) (d4 : decode cc (pc + 4) = .ok (.ldc is, 2)) (d6 : decode cc (pc + 6) = .ok (.invokespecial ic, 3)) (d9 : decode cc (pc + 9) = .ok (.athrow, 1)) {pc1 : Nat} : Snd G p e R s m args below meth c Qf ad0 n0 nL Q pc pc1 (ti_throw k mc ms) := by
  intro J K hJ hK ls st M cu su h
  obtain ⟨hc1, hc2, rfl, hq⟩ := h
  intro ad H locs lsA hR hE hl hs hS hL
  subst hQf
  obtain ⟨sa, hsa⟩ := hG.2.2.2.2.2.2.2.2.2.2.1 _ hstr
  have hcast := hG.2.2.2.2.2.2.2.2.2.2.2.2.2.1 _ hce
  refine vx_throwS (sa := sa) (A := gF G) hx hb hl9 hown hcls (by decide +kernel) (hts _ hk) (hts _ hini) hsa (vx_hat (fun w hw => hts w (hgw w hw)) hbw (vx_c (va_Nw.use rfl hcast) (fun w hw => by obtain ⟨q9, hq9, rfl⟩ := List.mem_map.mp hw; exact va_Nw.use rfl (hG.2.2.2.2.2.2.2.2.2.2.2.2.2.2.2.1 q9 hq9)))) hgood hG.2.2.2.2.2.2.2.2.1 hG.2.2.2.2.2.2.2.2.2.1 hS (by rw [hL.1, hml]) d0 d3 d4 d6 d9 (fun x hx9 => (htab x hx9).elim) ?_ ?_ ?_ ?_ hlocks ?_ hS.2.2 hc1 hc2
  · have h9 : 7 ≤ R.frames := hRm.1
    show 2 + 3 < R.frames
    omega
  · have h9 : 32 * 7 ≤ R.locals := hRm.2.1
    show 0 + (13 * (2 + 1) + 43) ≤ R.locals
    omega
  · exact Nat.le_trans hc1 hRm.2.2.1
  · exact Nat.le_trans hc2 hRm.2.2.2
  · intro t hal hz hk9
    obtain ⟨⟨ws, hP, hD, hcov⟩, hrest⟩ := hR
    refine ⟨ad, M, k, hk0, hk1, ⟨⟨ws, hP.kept (fun j q hj => hk9 q.1 (hP j q hj).lt), hD, hcov⟩, hrest⟩, hE, hq, Nat.le_trans hS.1 hz, fun q h1 h2 => ?_⟩
    rw [hk9 q (Nat.lt_of_lt_of_le h1 hS.1)]
    exact hS.2.1 q h1 h2
theorem sd_throwW {G : jx_G} {p : Program} {e : Env} {R : Room} {s : State} {m : MethodId} {args : Array Value} {below : List Frame} {meth : Method} {c : Code} {Qf : State → Prop} {ad0 : Nat → Nat → Nat} {n0 : Nat → Nat} {nL : Nat} {Q : jx_O → jx_M → Prop} {cc : ByteArray} {pc : Nat} (hx : p.tables.exec = Jvm.exec) (hb : c.code = cc) {own : String} (hown : s.vm.findClass own = some m.cls) (hts : ∀ w ∈ jx_WT, w.before args s = true) (hG : Gs G s) {cls text : String} {ik is ic mc ms k : Nat} (hl9 : (gl G).stackTraces = false) (hQf : Qf = vx_MQ below (QcR G ad0 n0 Q) (QcX G ad0 n0 Q) args s mc ms (gF G)) (htab : ∀ x ∈ c.exceptionTable.toList, False) (hlocks : meth.locks = false) (hml : c.maxLocals = nL) (hRm : jRm R 7 mc ms)
    (hk0 : cls = jx_exN k) (hk1 : k = 1 ∨ k = 2 ∨ k = 3) (hcls : Bundle.fit cls = true) (hce : cls ∈ jx_exs) (hk : Cond.classLink own ik cls ∈ jx_WT) (hini : Cond.initialized cls ∈ jx_WT) (hstr : (own, is, text) ∈ jx_str)
    (hgw : ∀ w ∈ (vx_atS own ic cls ["java/lang/RuntimeException", "java/lang/Exception"]).filter goodWord, w ∈ jx_WT) (hbw : ∀ w ∈ (vx_atS own ic cls ["java/lang/RuntimeException", "java/lang/Exception"]).filter (fun w => !goodWord w), w ∈ Cond.castable cls cls :: jx_decl.map (fun q => Cond.declares ⟨q, "<init>", "(Ljava/lang/String;)V"⟩))
    (hgood : ∀ w ∈ Cond.classLink own ik cls :: Cond.initialized cls :: vx_atS own ic cls ["java/lang/RuntimeException", "java/lang/Exception"], vx_ot w = true)
    (d0 : decode cc pc = .ok (.new ik, 3)) (d3 : decode cc (pc + 3) = .ok (.dup, 1)) (d4 : decode cc (pc + 4) = .ok (.ldc_w is, 3)) (d6 : decode cc (pc + 7) = .ok (.invokespecial ic, 3)) (d9 : decode cc (pc + 10) = .ok (.athrow, 1)) {pc1 : Nat} : Snd G p e R s m args below meth c Qf ad0 n0 nL Q pc pc1 (ti_throw k mc ms) := by
  intro J K hJ hK ls st M cu su h
  obtain ⟨hc1, hc2, rfl, hq⟩ := h
  intro ad H locs lsA hR hE hl hs hS hL
  subst hQf
  obtain ⟨sa, hsa⟩ := hG.2.2.2.2.2.2.2.2.2.2.1 _ hstr
  have hcast := hG.2.2.2.2.2.2.2.2.2.2.2.2.2.1 _ hce
  refine vx_throwSW (sa := sa) (A := gF G) hx hb hl9 hown hcls (by decide +kernel) (hts _ hk) (hts _ hini) hsa (vx_hat (fun w hw => hts w (hgw w hw)) hbw (vx_c (va_Nw.use rfl hcast) (fun w hw => by obtain ⟨q9, hq9, rfl⟩ := List.mem_map.mp hw; exact va_Nw.use rfl (hG.2.2.2.2.2.2.2.2.2.2.2.2.2.2.2.1 q9 hq9)))) hgood hG.2.2.2.2.2.2.2.2.1 hG.2.2.2.2.2.2.2.2.2.1 hS (by rw [hL.1, hml]) d0 d3 d4 d6 d9 (fun x hx9 => (htab x hx9).elim) ?_ ?_ ?_ ?_ hlocks ?_ hS.2.2 hc1 hc2
  · have h9 : 7 ≤ R.frames := hRm.1
    show 2 + 3 < R.frames
    omega
  · have h9 : 32 * 7 ≤ R.locals := hRm.2.1
    show 0 + (13 * (2 + 1) + 43) ≤ R.locals
    omega
  · exact Nat.le_trans hc1 hRm.2.2.1
  · exact Nat.le_trans hc2 hRm.2.2.2
  · intro t hal hz hk9
    obtain ⟨⟨ws, hP, hD, hcov⟩, hrest⟩ := hR
    refine ⟨ad, M, k, hk0, hk1, ⟨⟨ws, hP.kept (fun j q hj => hk9 q.1 (hP j q hj).lt), hD, hcov⟩, hrest⟩, hE, hq, Nat.le_trans hS.1 hz, fun q h1 h2 => ?_⟩
    rw [hk9 q (Nat.lt_of_lt_of_le h1 hS.1)]
    exact hS.2.1 q h1 h2
/-- the addresses with one more -/
def adN (ad : Nat → Nat → Nat) (M : jx_M) (r q : Nat) : Nat → Nat → Nat := fun a b => if a = r ∧ b = qN M r then q else ad a b
theorem adN_old {ad : Nat → Nat → Nat} {M : jx_M} {r q a b : Nat} (h : b < qN M a) : adN ad M r q a b = ad a b := by
  unfold adN
  rw [if_neg]
  rintro ⟨rfl, rfl⟩
  omega
theorem cE_old {G : jx_G} {ad : Nat → Nat → Nat} {M : jx_M} {r q r' i' : Nat} (hD : jDng M) (h47 : r = 47 → qN M 47 = 0) (hr' : r' < 48) (hi' : i' < qN M r') : cE G (adN ad M r q) (wNew M r) r' i' = cE G ad M r' i' := by
  have hne : ¬ (r' = r ∧ i' = qN M r) := by
    rintro ⟨rfl, rfl⟩
    omega
  have e1 : ∀ k, qI (wNew M r) r' i' k = qI M r' i' k := fun k => by rw [qI_wNew, if_neg hne]
  have e2 : ∀ k, qP (wNew M r) r' i' k = qP M r' i' k := fun k => by rw [qP_wNew, if_neg hne]
  have e3 : ∀ k z, isR r' k → tgR r' k = z → (qP M r' i' k).map (adN ad M r q z) = (qP M r' i' k).map (ad z) := by
    intro k z h1 h2
    cases hv : qP M r' i' k with
    | none => rfl
    | some j =>
      have h3 := hD r' i' k j hr' hi' h1 hv
      rw [h2] at h3
      simp only [Option.map_some]
      rw [adN_old h3]
  unfold cE
  by_cases h11 : r' < 11
  · rw [if_pos h11, if_pos h11]
    congr 2
    apply List.map_congr_left
    intro k _
    unfold fv
    cases hf : fT r' k with
    | zero => simp only [e1]
    | succ z =>
      simp only [e2]
      rw [e3 k z (by unfold isR; rw [if_pos h11]; omega) (by unfold tgR; rw [if_pos h11, hf]; rfl)]
  · rw [if_neg h11, if_neg h11]
    congr 3
    unfold aC
    split
    · simp only [e1]
    · simp only [e1]
    · simp only [e1]
    · rename_i h3
      have h9 : r' = 47 := by
        have h4 : ∀ j, j < 48 → ¬ j < 11 → aE j = 3 → j = 47 := by decide +kernel
        exact h4 r' hr' h11 h3
      have h8 : r ≠ 47 := by
        intro z
        have := h47 z
        subst h9
        omega
      simp only [qJ_wNew, if_neg h8]
    · rename_i z h3
      have e4 : (fun k => (qP (wNew M r) r' i' k).map (adN ad M r q z)) = (fun k => (qP M r' i' k).map (ad z)) := by
        funext k
        rw [e2]
        exact e3 k z (by unfold isR; rw [if_neg h11]; omega) (by unfold tgR; rw [if_neg h11, h3]; rfl)
      rw [e4]
theorem Rel.new {G : jx_G} {ad : Nat → Nat → Nat} {M : jx_M} {H H1 : Heap} {ws : va_W} {r q : Nat} {el : va_E} (hR : Rel G ad M H) (hr : r < 48) (h47 : r = 47 → qN M 47 = 0) (hcov : ∀ r i, r < 48 → i < qN M r → ∃ k : Nat, ws[k]? = some (ad r i, cE G ad M r i))
    (hP : va_P (gD G) vwCl (ws ++ [(q, el)]) H1) (hD : va_D (gF G) (ws ++ [(q, el)])) (he : cE G (adN ad M r q) (wNew M r) r (qN M r) = el) : Rel G (adN ad M r q) (wNew M r) H1 := by
  obtain ⟨-, hI, hDn, hSt⟩ := hR
  have hfresh : ∀ r' i', r' < 48 → i' < qN M r' → ad r' i' ≠ q := by
    intro r' i' h1 h2 h3
    obtain ⟨k, hk⟩ := hcov r' i' h1 h2
    have hkl : k < ws.length := (List.getElem?_eq_some_iff.mp hk).1
    have e1 : (ws ++ [(q, el)])[k]? = some (ad r' i', cE G ad M r' i') := by rw [List.getElem?_append_left hkl]; exact hk
    have e2 : (ws ++ [(q, el)])[ws.length]? = some (q, el) := by rw [List.getElem?_append_right (Nat.le_refl _), Nat.sub_self]; rfl
    have := hD.1 k ws.length _ _ e1 e2 h3
    omega
  have hcase : ∀ r' i', i' < qN (wNew M r) r' → i' < qN M r' ∨ (r' = r ∧ i' = qN M r) := by
    intro r' i' h
    rw [qN_wNew] at h
    by_cases e : r' = r
    · rw [if_pos e] at h
      subst e
      omega
    · rw [if_neg e] at h
      exact Or.inl h
  refine ⟨⟨ws ++ [(q, el)], hP, hD, fun r' i' h1 h2 => ?_⟩, fun r1 i1 r2 i2 a1 a2 b1 b2 hh => ?_, fun a b k j h1 h2 h3 h4 => ?_, ?_⟩
  · rcases hcase r' i' h2 with h3 | ⟨rfl, rfl⟩
    · obtain ⟨k, hk⟩ := hcov r' i' h1 h3
      refine ⟨k, ?_⟩
      rw [List.getElem?_append_left (List.getElem?_eq_some_iff.mp hk).1, hk, adN_old h3, cE_old hDn h47 h1 h3]
    · refine ⟨ws.length, ?_⟩
      rw [List.getElem?_append_right (Nat.le_refl _), Nat.sub_self, he]
      have e1 : adN ad M r' q r' (qN M r') = q := by unfold adN; rw [if_pos ⟨rfl, rfl⟩]
      rw [e1]
      rfl
  · rcases hcase r1 i1 b1 with h1 | ⟨rfl, rfl⟩ <;> rcases hcase r2 i2 b2 with h2 | ⟨rfl, rfl⟩
    · rw [adN_old h1, adN_old h2] at hh
      exact hI r1 i1 r2 i2 a1 a2 h1 h2 hh
    · rw [adN_old h1] at hh
      have e1 : adN ad M r2 q r2 (qN M r2) = q := by unfold adN; rw [if_pos ⟨rfl, rfl⟩]
      rw [e1] at hh
      exact absurd hh (hfresh r1 i1 a1 h1)
    · rw [adN_old h2] at hh
      have e1 : adN ad M r1 q r1 (qN M r1) = q := by unfold adN; rw [if_pos ⟨rfl, rfl⟩]
      rw [e1] at hh
      exact absurd hh.symm (hfresh r2 i2 a2 h2)
    · exact ⟨rfl, rfl⟩
  · rw [qP_wNew] at h4
    by_cases e : a = r ∧ b = qN M r
    · rw [if_pos e] at h4
      cases h4
    · rw [if_neg e] at h4
      rcases hcase a b h2 with h5 | h5
      · have h6 := hDn a b k j h1 h5 h3 h4
        rw [qN_wNew]
        by_cases e2 : tgR a k = r
        · rw [if_pos e2]; rw [e2] at h6; omega
        · rw [if_neg e2]; exact h6
      · exact absurd h5 e
  · obtain ⟨s1, s2, s3, s4, s5, s6⟩ := hSt
    refine ⟨?_, ?_, ?_, ?_, ?_, ?_⟩
    · rw [adN_old (by omega)]; exact s1
    · rw [adN_old (by omega)]; exact s2
    · rw [adN_old (by omega)]; exact s3
    · rw [qN_wNew, if_neg (by omega)]; exact s4
    · rw [qN_wNew, if_neg (by omega)]; exact s5
    · rw [qN_wNew, if_neg (by omega)]; exact s6
theorem qN_new_le (M : jx_M) (r a : Nat) : qN M a ≤ qN (wNew M r) a := by
  rw [qN_wNew]
  by_cases h : a = r
  · rw [if_pos h, h]; omega
  · rw [if_neg h]; omega
/-- what comes behind a making -/
theorem new_fin {G : jx_G} {p : Program} {e : Env} {R : Room} {s : State} {m : MethodId} {args : Array Value} {below : List Frame} {meth : Method} {c : Code} {Qf : State → Prop} {ad0 : Nat → Nat → Nat} {n0 : Nat → Nat} {nL : Nat} {r q pc1 : Nat} {ls : jx_L} {rest : List jx_V} {M : jx_M} {cu su : Nat} {ad : Nat → Nat → Nat} {H1 : Heap} {locs : List Loc} {lsA : Array Slot} (hr : r < 48) (hR1 : Rel G (adN ad M r q) (wNew M r) H1) (hE : jExt ad0 n0 ad M) (hl : okL M ls) (hs : okS M rest) (hS1 : va_S (gF G) s.heap H1 locs) (hL : LH ad lsA nL c.code.size ls)
    (hK : Wm G p e R s m args below meth c Qf ad0 n0 nL pc1 ls (.inr (.inr (r, some (qN M r))) :: rest) (wNew M r) cu su) : W p (gl G) e R s m args below meth c H1 locs cu su Qf (F0 m pc1 lsA (.ref q :: rest.map (cv ad))) := by
  have hx : ∀ a i, i < qN M a → adN ad M r q a i = ad a i := fun a i hi => adN_old hi
  have e1 : (.inr (.inr (r, some (qN M r))) :: rest : List jx_V).map (cv (adN ad M r q)) = .ref q :: rest.map (cv ad) := by
    rw [List.map_cons]
    congr 1
    · show Value.ref (adN ad M r q r (qN M r)) = _
      unfold adN
      rw [if_pos ⟨rfl, rfl⟩]
    · exact List.map_congr_left (fun x hx9 => cv_ext hx (hs x hx9))
  rw [← e1]
  exact hK (adN ad M r q) H1 locs lsA hR1 (fun a => ⟨Nat.le_trans (hE a).1 (qN_new_le M r a), fun i hi => (hx a i (Nat.lt_of_lt_of_le hi (hE a).1)).trans ((hE a).2 i hi)⟩) (okL_congr (qN_new_le M r) hl)
    (okS_cons (by show qN M r < qN (wNew M r) r; rw [qN_wNew, if_pos rfl]; omega) (okS_congr (qN_new_le M r) hs)) hS1 (hL.ext hl hx)
theorem sd_new {G : jx_G} {p : Program} {e : Env} {R : Room} {s : State} {m : MethodId} {args : Array Value} {below : List Frame} {meth : Method} {c : Code} {Qf : State → Prop} {ad0 : Nat → Nat → Nat} {n0 : Nat → Nat} {nL : Nat} {Q : jx_O → jx_M → Prop} {cc : ByteArray} {pc : Nat} (hx : p.tables.exec = Jvm.exec) (hb : c.code = cc) {own : String} (hown : s.vm.findClass own = some m.cls) (hts : ∀ w ∈ jx_WT, w.before args s = true) (hG : Gs G s) {C : String} {T : u_T} {N idx r mc ms : Nat} (hRm : mc ≤ R.cells ∧ ms ≤ R.slots) (hlo : glo G ≤ s.heap.size) (hr : r < 11) (hc : vwCl[r]? = some (C, T, N)) (hN : fN r = N) (hin : ∀ w ∈ u_ws C T N, w ∈ jx_WT) (ty : Nat → FieldType) (hty : ∀ k, k < N → parseFieldDescriptor (T k).2.2.1 = some (ty k)) (hdf : ∀ j, j < N → defaultValue (ty j) = if fT r j = 0 then .int 0 else .null)
    (hcl : Cond.classLink own idx C ∈ jx_WT) (hinst : Cond.instantiable C N ∈ jx_WT) (hini : Cond.initialized C ∈ jx_WT) (hd : decode cc pc = .ok (.new idx, 3)) : Snd G p e R s m args below meth c Qf ad0 n0 nL Q pc (pc + 3) (ti_new r mc ms) := by
  intro J K hJ hK ls st M cu su h
  obtain ⟨hc1, hc2, h⟩ := h
  intro ad H locs lsA hR hE hl hs hS hL
  obtain ⟨⟨ws, hP, hD, hcov⟩, hI, hDn, hSt⟩ := id hR
  have h47 : r = 47 → qN M 47 = 0 := fun z => by omega
  have hcE : ∀ q, cE G (adN ad M r q) (wNew M r) r (qN M r) = .inr (r, (List.range N).map (fun j => if fT r j = 0 then Value.int 0 else .null)) := by
    intro q
    rw [cE_obj hr, hN]
    congr 2
    apply List.map_congr_left
    intro k _
    unfold fv
    cases hf : fT r k with
    | zero => simp [qI_wNew]
    | succ z => simp [qP_wNew]; rfl
  refine va_new (D := gD G) (cl := vwCl) (ci := r) (fs := (List.range N).map (fun j => if fT r j = 0 then Value.int 0 else .null)) hx hb hts hin ty hty hown (hts _ hcl) (hts _ hinst) (hts _ hini) hG.1 hP hD hS (fun q hq => Nat.le_trans hlo hq) hc (fun j hj => ?_) (by omega) (by rw [hN] at hc2; omega) hd (fun q H1 hP1 hD1 hS1 => ?_)
  · rw [hdf j hj]
    unfold vp_V
    simp [List.getD, hj]
  · have h1 := hK _ _ _ _ _ h
    rw [hN] at h1
    exact new_fin (by omega) (Rel.new hR (by omega) h47 hcov hP1 hD1 (hcE q)) hE hl hs hS1 hL h1
theorem va_RA_eq {s : State} {c1 c2 : ClassId} {ty : FieldType} (h1 : va_RA s c1 ty) (h2 : va_RA s c2 ty) : c1 = c2 := by
  cases ty with
  | object C =>
    obtain ⟨_, _, _, _, _, e1⟩ := h1
    obtain ⟨_, _, _, _, _, e2⟩ := h2
    exact Option.some.inj (e1.symm.trans e2)
  | _ => exact Option.some.inj ((show s.vm.findClass _ = some c1 from h1).symm.trans h2)
theorem tys_last {D : va_G} {cl : List vw_C} {tys : List (ClassId × FieldType)} {U : State} {cA : ClassId} {ty : FieldType} (h : va_K D cl (tys ++ [(cA, ty)]) U) : va_RA U cA ty := (h.2 tys.length (cA, ty) (by rw [List.getElem?_append_right (Nat.le_refl _), Nat.sub_self]; rfl)).2
theorem tys_at {G : jx_G} {U : State} (h : Gs G U) {r : Nat} (h1 : 11 ≤ r) (h2 : r < 48) : va_RA U (gA G r) (aTy r) := (h.1.2 (r - 11) _ (atys_at _ h1 h2)).2
theorem cE_newa {G : jx_G} {ad : Nat → Nat → Nat} {M : jx_M} {r : Nat} (h1 : 11 ≤ r) (hE : aE r = 0 ∨ aE r = 1 ∨ aE r = 2) : cE G ad (wNew M r) r (qN M r) = .inl (gA G r, aL r, .inl (fun _ => 0)) := by
  rw [cE_arr h1]
  congr 3
  have e1 : (fun k => qI (wNew M r) r (qN M r) k) = fun _ => 0 := by
    funext k
    rw [qI_wNew, if_pos ⟨rfl, rfl⟩]
  rcases hE with h | h | h
  · rw [aC_0 h, e1]
  · rw [aC_1 h, e1]
  · rw [aC_2 h, e1]
theorem aL_lt (r : Nat) : aL r < 20000 := by
  have h : ∀ j, j < 60 → aL j < 20000 := by decide +kernel
  by_cases h1 : r < 60
  · exact h r h1
  · have h2 : 37 ≤ r - 11 := by omega
    unfold aL
    rw [List.getD_eq_getElem?_getD, List.getElem?_eq_none (by simpa [jx_aT] using h2)]
    decide
theorem sd_newa {G : jx_G} {p : Program} {e : Env} {R : Room} {s : State} {m : MethodId} {args : Array Value} {below : List Frame} {meth : Method} {c : Code} {Qf : State → Prop} {ad0 : Nat → Nat → Nat} {n0 : Nat → Nat} {nL : Nat} {Q : jx_O → jx_M → Prop} {cc : ByteArray} {pc : Nat} (hx : p.tables.exec = Jvm.exec) (hb : c.code = cc) (hG : Gs G s) {r mc ms : Nat} {at9 : ArrayType} {ty : FieldType} (hty : newarray.typeOf at9 = ty) (hTy : aTy r = ty) (hdv : defaultValue ty = .int 0) (hcb : componentBytes ty ≤ 4) (hE9 : aE r = 0 ∨ aE r = 1 ∨ aE r = 2) (hRm : mc ≤ R.cells ∧ ms ≤ R.slots) (hlo : glo G ≤ s.heap.size) (h1 : 11 ≤ r) (h2 : r < 47)
    (harr : (Cond.arrayClass (newarray.typeOf at9)).before args s = true) (hd : decode cc pc = .ok (.newarray at9, 2)) : Snd G p e R s m args below meth c Qf ad0 n0 nL Q pc (pc + 2) (ti_newa r mc ms) := by
  intro J K hJ hK ls st M cu su h
  unfold ti_newa at h
  split at h
  · rename_i x q9
    obtain ⟨rfl, h47, hc1, hc2, h⟩ := h
    intro ad H locs lsA hR hE hl hs hS hL
    obtain ⟨⟨ws, hP, hD, hcov⟩, hI, hDn, hSt⟩ := id hR
    have hlt := aL_lt r
    have hok := okS_tl hs
    refine va_newa (D := gD G) (cl := vwCl) (a0 := (aL r, .inl (fun _ => 0))) hx hb harr hty hG.1 hP hD hS (fun q hq => Nat.le_trans hlo hq) (fun cA => by rw [vp_cell_i, hdv]) (nI_pos (by omega)) (nI_clamp (by omega)) ?_ (by omega) (by omega) hd (fun q cA H1 hK1 hP1 hD1 hS1 => ?_)
    · exact Nat.le_trans (Nat.mul_le_mul (Nat.le_of_lt hlt) hcb) (Nat.le_of_ble_eq_true rfl)
    · have hcA : cA = gA G r := va_RA_eq (tys_last hK1) (by have h9 := tys_at hG h1 (by omega : r < 48); rw [hTy] at h9; exact h9)
      rw [hcA] at hP1 hD1
      exact new_fin (by omega) (Rel.new hR (by omega) h47 hcov hP1 hD1 (cE_newa h1 hE9)) hE hl hok hS1 hL (hK _ _ _ _ _ h)
  · exact h.elim
theorem sd_newq {G : jx_G} {p : Program} {e : Env} {R : Room} {s : State} {m : MethodId} {args : Array Value} {below : List Frame} {meth : Method} {c : Code} {Qf : State → Prop} {ad0 : Nat → Nat → Nat} {n0 : Nat → Nat} {nL : Nat} {Q : jx_O → jx_M → Prop} {cc : ByteArray} {pc : Nat} (hx : p.tables.exec = Jvm.exec) (hb : c.code = cc) {own : String} (hown : s.vm.findClass own = some m.cls) (hts : ∀ w ∈ jx_WT, w.before args s = true) (hG : Gs G s) {r z mc ms idx : Nat} {C : String} (hz : aE r = z + 4) (hnm : jx_RN.getD z "" = C) (hov : C ∈ jx_over) (hclk : Cond.classLink own idx C ∈ jx_WT) (hRm : mc ≤ R.cells ∧ ms ≤ R.slots) (hlo : glo G ≤ s.heap.size) (h1 : 11 ≤ r) (h2 : r < 47)
    (hd : decode cc pc = .ok (.anewarray idx, 3)) : Snd G p e R s m args below meth c Qf ad0 n0 nL Q pc (pc + 3) (ti_newa r mc ms) := by
  intro J K hJ hK ls st M cu su h
  unfold ti_newa at h
  split at h
  · rename_i x q9
    obtain ⟨rfl, h47, hc1, hc2, h⟩ := h
    intro ad H locs lsA hR hE hl hs hS hL
    obtain ⟨⟨ws, hP, hD, hcov⟩, hI, hDn, hSt⟩ := id hR
    have hlt := aL_lt r
    have hok := okS_tl hs
    have hcE : ∀ q, cE G (adN ad M r q) (wNew M r) r (qN M r) = .inl (gA G r, aL r, .inr (.inr (.inr (.inr (fun _ => none))))) := by
      intro q
      rw [cE_arr h1, aC_q hz]
      congr 7
      funext k
      rw [qP_wNew, if_pos ⟨rfl, rfl⟩]
      rfl
    refine va_newq (D := gD G) (cl := vwCl) (C := C) hx hb hown (hts _ hclk) (hG.2.2.2.2.2.2.2.2.2.2.2.2.2.2.2.2 _ hov) hG.1 hP hD hS (fun q hq => Nat.le_trans hlo hq) (nI_pos (by omega)) (nI_clamp (by omega)) (by omega) (by omega) (by omega) hd (fun q cA H1 hK1 hP1 hD1 hS1 => ?_)
    have hcA : cA = gA G r := va_RA_eq (tys_last hK1) (by have h9 := tys_at hG h1 (by omega : r < 48); rw [aTy_q hz, hnm] at h9; exact h9)
    rw [hcA] at hP1 hD1
    exact new_fin (by omega) (Rel.new hR (by omega) h47 hcov hP1 hD1 (hcE q)) hE hl hok hS1 hL (hK _ _ _ _ _ h)
  · exact h.elim
/-! blocks -/
abbrev jx_B : Type := List jx_Tr
def evb : jx_B → jx_L → List jx_V → jx_M → Nat → Nat → jx_J → (jx_O → jx_M → Prop) → jx_K → Prop
  | [], ls, st, M, cu, su, _, _, K => K ls st M cu su
  | t :: b, ls, st, M, cu, su, J, Q, K => t ls st M cu su J Q (fun ls st M cu su => evb b ls st M cu su J Q K)
def SndL (G : jx_G) (p : Program) (e : Env) (R : Room) (s : State) (m : MethodId) (args : Array Value) (below : List Frame) (meth : Method) (c : Code) (Qf : State → Prop) (ad0 : Nat → Nat → Nat) (n0 : Nat → Nat) (nL : Nat) (Q : jx_O → jx_M → Prop) (pc pc1 : Nat) (b : jx_B) : Prop := ∀ (J : jx_J) (K : jx_K), (∀ pc ls st M cu su, J pc ls st M cu su → Wm G p e R s m args below meth c Qf ad0 n0 nL pc ls st M cu su) → (∀ ls st M cu su, K ls st M cu su → Wm G p e R s m args below meth c Qf ad0 n0 nL pc1 ls st M cu su) → ∀ ls st M cu su, evb b ls st M cu su J Q K → Wm G p e R s m args below meth c Qf ad0 n0 nL pc ls st M cu su
theorem SndL.nil {G : jx_G} {p : Program} {e : Env} {R : Room} {s : State} {m : MethodId} {args : Array Value} {below : List Frame} {meth : Method} {c : Code} {Qf : State → Prop} {ad0 : Nat → Nat → Nat} {n0 : Nat → Nat} {nL : Nat} {Q : jx_O → jx_M → Prop} {pc : Nat} : SndL G p e R s m args below meth c Qf ad0 n0 nL Q pc pc [] := fun J K hJ hK ls st M cu su h => hK _ _ _ _ _ h
theorem SndL.cons {G : jx_G} {p : Program} {e : Env} {R : Room} {s : State} {m : MethodId} {args : Array Value} {below : List Frame} {meth : Method} {c : Code} {Qf : State → Prop} {ad0 : Nat → Nat → Nat} {n0 : Nat → Nat} {nL : Nat} {Q : jx_O → jx_M → Prop} {pc pc1 pc2 : Nat} {t : jx_Tr} {b : jx_B} (h1 : Snd G p e R s m args below meth c Qf ad0 n0 nL Q pc pc1 t) (h2 : SndL G p e R s m args below meth c Qf ad0 n0 nL Q pc1 pc2 b) : SndL G p e R s m args below meth c Qf ad0 n0 nL Q pc pc2 (t :: b) := fun J K hJ hK ls st M cu su h => h1 J (fun ls st M cu su => evb b ls st M cu su J Q K) hJ (fun ls st M cu su hk => h2 J K hJ hK ls st M cu su hk) ls st M cu su h
abbrev jx_C : Type := Nat → jx_B × Nat
def Cl (cd : jx_C) (Q : jx_O → jx_M → Prop) (Wn : jx_J) : Prop := ∀ (J : jx_J) (K : jx_K) (pc : Nat), (∀ pc ls st M cu su, J pc ls st M cu su → Wn pc ls st M cu su) → (∀ ls st M cu su, K ls st M cu su → Wn (cd pc).2 ls st M cu su) → ∀ ls st M cu su, evb (cd pc).1 ls st M cu su J Q K → Wn pc ls st M cu su
/-- from block to block, up to n blocks, to the places of cut -/
def evm (cd : jx_C) (cut : Nat → Bool) (Q : jx_O → jx_M → Prop) (J : jx_J) : Nat → jx_J
  | 0 => J
  | n + 1 => fun pc ls st M cu su => bif cut pc then J pc ls st M cu su else evb (cd pc).1 ls st M cu su (evm cd cut Q J n) Q (evm cd cut Q J n (cd pc).2)
theorem ev_run {cd : jx_C} {Q : jx_O → jx_M → Prop} {Wn : jx_J} (hC : Cl cd Q Wn) (cut : Nat → Bool) : ∀ (n pc : Nat) (ls : jx_L) (st : List jx_V) (M : jx_M) (cu su : Nat), evm cd cut Q Wn n pc ls st M cu su → Wn pc ls st M cu su
  | 0, _, _, _, _, _, _, h => h
  | n + 1, pc, ls, st, M, cu, su, h => by
    unfold evm at h
    cases hc : cut pc with
    | true => rw [hc] at h; exact h
    | false =>
      rw [hc] at h
      exact hC _ _ pc (fun pc ls st M cu su h9 => ev_run hC cut n pc ls st M cu su h9) (fun ls st M cu su h9 => ev_run hC cut n _ ls st M cu su h9) ls st M cu su h
theorem ev_at {cd : jx_C} {Q : jx_O → jx_M → Prop} {Wn : jx_J} (hC : Cl cd Q Wn) (cut : Nat → Bool) (n pc : Nat) {ls : jx_L} {st : List jx_V} {M : jx_M} {cu su : Nat} (h : evb (cd pc).1 ls st M cu su (evm cd cut Q Wn n) Q (evm cd cut Q Wn n (cd pc).2)) : Wn pc ls st M cu su :=
  hC _ _ pc (fun pc ls st M cu su h9 => ev_run hC cut n pc ls st M cu su h9) (fun ls st M cu su h9 => ev_run hC cut n _ ls st M cu su h9) ls st M cu su h
/-- what a method's body stands on -/
def jCx (G : jx_G) (y : jx_Y) (p : Program) (R : Room) (s : State) (m : MethodId) (args : Array Value) (meth : Method) (c : Code) : Prop := p.tables.exec = Jvm.exec ∧ c.code = yB y ∧ c.maxLocals = yL y ∧ s.vm.findClass (yNm y).cls = some m.cls ∧ (∀ w ∈ jx_WT, w.before args s = true) ∧ Gs G s ∧ meth.locks = false ∧ meth.sig.returnType = yRt y ∧ meth.name = (yNm y).name ∧ jRm R (yLv y) (yMc y) (yMs y)
def jCd (G : jx_G) (y : jx_Y) (cd : jx_C) : Prop := ∀ (p : Program) (e : Env) (R : Room) (s : State) (m : MethodId) (args : Array Value) (below : List Frame) (meth : Method) (c : Code) (Qf : State → Prop) (ad0 : Nat → Nat → Nat) (n0 : Nat → Nat)  (Q : jx_O → jx_M → Prop), jCx G y p R s m args meth c → jEnd G p e R s m args below meth c Qf ad0 n0 (yL y) (yMc y) (yMs y) Q → ∀ pc, SndL G p e R s m args below meth c Qf ad0 n0 (yL y) Q pc (cd pc).2 (cd pc).1
def jCdX (G : jx_G) (y : jx_Y) (cd : jx_C) : Prop := ∀ (p : Program) (e : Env) (R : Room) (s : State) (m : MethodId) (args : Array Value) (below : List Frame) (meth : Method) (c : Code) (Qf : State → Prop) (ad0 : Nat → Nat → Nat) (n0 : Nat → Nat)  (Q : jx_O → jx_M → Prop), jCx G y p R s m args meth c → (∀ x ∈ c.exceptionTable.toList, False) → (gl G).stackTraces = false → Qf = vx_MQ below (QcR G ad0 n0 Q) (QcX G ad0 n0 Q) args s (yMc y) (yMs y) (gF G) → ∀ pc, SndL G p e R s m args below meth c Qf ad0 n0 (yL y) Q pc (cd pc).2 (cd pc).1
def jent (as : List jx_V) (n : Nat) : jx_L := as.map some ++ List.replicate (n - as.length) none
theorem lv_args_at : ∀ (vs : List Value) (n j : Nat) (v : Value), (∀ v ∈ vs, v.category = 1) → vs[j]? = some v → (n + j, v) ∈ lv_args n vs
  | [], _, _, _, _, h => by simp at h
  | a :: vs, n, j, v, hc, h => by
    have ha : ¬ a.category = 2 := by have := hc a List.mem_cons_self; omega
    simp only [lv_args, if_neg ha, List.mem_cons]
    cases j with
    | zero =>
      simp at h
      exact Or.inl (by rw [h]; rfl)
    | succ j =>
      have h1 := lv_args_at vs (n + 1) j v (fun v hv => hc v (List.mem_cons_of_mem _ hv)) (by simpa using h)
      rw [show n + (j + 1) = n + 1 + j by omega]
      exact Or.inr h1
theorem lg_sl_len : ∀ (vs : List Value), (∀ v ∈ vs, v.category = 1) → (lg_sl vs).length = vs.length
  | [], _ => rfl
  | a :: vs, hc => by
    have ha : ¬ a.category = 2 := by have := hc a List.mem_cons_self; omega
    have h1 := lg_sl_len vs (fun v hv => hc v (List.mem_cons_of_mem _ hv))
    unfold lg_sl at h1 ⊢
    simp only [List.flatMap_cons, if_neg ha, List.length_append, List.length_cons, List.length_nil, h1]
    omega
def jArgs (as : List jx_V) : Prop := ∀ v ∈ as, jc1 v = true
theorem LH.ent {as : List jx_V} {n cz : Nat} {ad : Nat → Nat → Nat} (ha : jArgs as) (hn : as.length ≤ n) : LH ad ((lg_sl (as.map (cv ad)) ++ List.replicate (n - (lg_sl (as.map (cv ad))).length) Slot.unset).toArray) n cz (jent as n) := by
  have hc : ∀ v ∈ as.map (cv ad), v.category = 1 := fun v hv => by
    obtain ⟨x, hx, rfl⟩ := List.mem_map.mp hv
    exact jc1_cat (ha x hx) ad
  have h1 := lv_entry (as.map (cv ad)) (n := n) (by rw [lg_sl_len _ hc]; simpa using hn)
  refine ⟨h1.1, h1.2.1, fun i v hi => ?_⟩
  unfold jent at hi
  by_cases hl : i < as.length
  · rw [List.getElem?_append_left (by simpa using hl), List.getElem?_map] at hi
    cases hq : as[i]? with
    | none => rw [hq] at hi; simp at hi
    | some x =>
      rw [hq] at hi
      simp at hi
      subst hi
      have h2 := lv_args_at (as.map (cv ad)) 0 i (cv ad x) hc (by rw [List.getElem?_map, hq]; rfl)
      rw [Nat.zero_add] at h2
      exact ⟨h1.2.2 _ h2, Or.inl (ha x (List.mem_of_getElem? hq))⟩
  · rw [List.getElem?_append_right (by simpa using Nat.le_of_not_lt hl)] at hi
    have := List.eq_of_mem_replicate (List.mem_of_getElem? hi)
    cases this
theorem okL.ent {as : List jx_V} {n : Nat} {M : jx_M} (ha : jArgs as) (hs : okS M as) : okL M (jent as n) := by
  intro v hv
  unfold jent at hv
  rcases List.mem_append.mp hv with h | h
  · obtain ⟨z9, hx, e⟩ := List.mem_map.mp h
    have e2 : z9 = v := Option.some.inj e
    subst e2
    exact hs z9 hx
  · have := List.eq_of_mem_replicate h
    cases this
theorem jRm_of (y : jx_Y) : jRm (headSpec (Cond.code (yNm y) (yB y) (yL y) (yRt y) :: jx_WT) (rmm y)).room (yLv y) (yMc y) (yMs y) := ⟨Nat.le_refl _, Nat.le_refl _, Nat.le_refl _, Nat.le_refl _⟩
theorem Mt.of {G : jx_G} {y : jx_Y} {as : List jx_V} {M : jx_M} {Q : jx_O → jx_M → Prop} {cd : jx_C} (hcd : jCd G y cd) (hy : plainName (yNm y).cls = true) (ha : jArgs as) (hn : as.length ≤ yL y) (h : ∀ Wn : jx_J, Cl cd Q Wn → Wn 0 (jent as (yL y)) [] M 0 0) : Mt G y as M Q := by
  intro ad
  refine Met.ofW (cc := yB y) (maxL := yL y) (ret := yRt y) hy rfl ?_
  intro p e s m args below meth c s₁ B hml hv
  obtain ⟨rfl, hGs, hR, hok⟩ := hv
  have hts := atoms_spec (ws := Cond.code (yNm y) (yB y) (yL y) (yRt y) :: jx_WT) B.pre
  have hcx : jCx G y p (headSpec (Cond.code (yNm y) (yB y) (yL y) (yRt y) :: jx_WT) (rmm y)).room s m (as.map (cv ad)).toArray meth c := ⟨B.exec, B.bytes, hml, findClass_of_methodNamed B.named, fun w hw => hts w (List.mem_cons_of_mem _ hw), hGs, B.notSynchronized, B.returns, (name_of_methodNamed B.named B.method).1, jRm_of y⟩
  have hs := hcd p e _ s m _ below meth c (MQ below (QcR G ad (qN M) Q) (as.map (cv ad)).toArray s (yMc y) (yMs y) (gF G)) ad (qN M) Q hcx (fun H locs g h9 => h9)
  have hw := h (Wm G p e (headSpec (Cond.code (yNm y) (yB y) (yL y) (yRt y) :: jx_WT) (rmm y)).room s m (as.map (cv ad)).toArray below meth c (MQ below (QcR G ad (qN M) Q) (as.map (cv ad)).toArray s (yMc y) (yMs y) (gF G)) ad (qN M) (yL y)) (fun J K pc hJ hK => hs pc J K hJ hK)
  rw [lg_entry_eq]
  exact hw ad s.heap [] _ hR (fun r => ⟨Nat.le_refl _, fun _ _ => rfl⟩) (okL.ent ha hok) (fun v hv => by cases hv) va_S.rf (LH.ent ha hn)
theorem Mx.of {G : jx_G} {y : jx_Y} {as : List jx_V} {M : jx_M} {Q : jx_O → jx_M → Prop} {cd : jx_C} (hst : (gl G).stackTraces = false) (hcd : jCdX G y cd) (hy : plainName (yNm y).cls = true) (ha : jArgs as) (hn : as.length ≤ yL y) (h : ∀ Wn : jx_J, Cl cd Q Wn → Wn 0 (jent as (yL y)) [] M 0 0) : Mx G y as M Q := by
  intro ad
  refine vx_ofW (cc := yB y) (maxL := yL y) (ret := yRt y) hy rfl ?_
  intro p e s m args below meth c s₁ B hml htab hv
  obtain ⟨rfl, hGs, hR, hok⟩ := hv
  have hts := atoms_spec (ws := Cond.code (yNm y) (yB y) (yL y) (yRt y) :: jx_WT) B.pre
  have hcx : jCx G y p (headSpec (Cond.code (yNm y) (yB y) (yL y) (yRt y) :: jx_WT) (rmm y)).room s m (as.map (cv ad)).toArray meth c := ⟨B.exec, B.bytes, hml, findClass_of_methodNamed B.named, fun w hw => hts w (List.mem_cons_of_mem _ hw), hGs, B.notSynchronized, B.returns, (name_of_methodNamed B.named B.method).1, jRm_of y⟩
  have hs := hcd p e _ s m _ below meth c (vx_MQ below (QcR G ad (qN M) Q) (QcX G ad (qN M) Q) (as.map (cv ad)).toArray s (yMc y) (yMs y) (gF G)) ad (qN M) Q hcx htab hst rfl
  have hw := h (Wm G p e (headSpec (Cond.code (yNm y) (yB y) (yL y) (yRt y) :: jx_WT) (rmm y)).room s m (as.map (cv ad)).toArray below meth c (vx_MQ below (QcR G ad (qN M) Q) (QcX G ad (qN M) Q) (as.map (cv ad)).toArray s (yMc y) (yMs y) (gF G)) ad (qN M) (yL y)) (fun J K pc hJ hK => hs pc J K hJ hK)
  rw [lg_entry_eq]
  exact hw ad s.heap [] _ hR (fun r => ⟨Nat.le_refl _, fun _ _ => rfl⟩) (okL.ent ha hok) (fun v hv => by cases hv) va_S.rf (LH.ent ha hn)
theorem jEnd_x {G : jx_G} {p : Program} {e : Env} {R : Room} {s : State} {m : MethodId} {args : Array Value} {below : List Frame} {meth : Method} {c : Code} {Qf : State → Prop} {ad0 : Nat → Nat → Nat} {n0 : Nat → Nat} {nL : Nat} {mc ms : Nat} {Q : jx_O → jx_M → Prop} (h : Qf = vx_MQ below (QcR G ad0 n0 Q) (QcX G ad0 n0 Q) args s mc ms (gF G)) : jEnd G p e R s m args below meth c Qf ad0 n0 nL mc ms Q := fun H locs g k => by
  rw [h]
  exact vx_ret k
