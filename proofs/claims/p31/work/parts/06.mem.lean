/-! SOUND: what touches the memory (by wip/whole/gen3.py) -/
theorem okA_congr {M M' : jx_M} (h : ∀ r, qN M r ≤ qN M' r) {v : jx_V} (hv : okA M v) : okA M' v := by
  rcases v with x | x | ⟨r, o⟩
  · trivial
  · trivial
  · cases o with
    | none => trivial
    | some i => exact Nat.lt_of_lt_of_le hv (h r)
theorem okL_congr {M M' : jx_M} (h : ∀ r, qN M r ≤ qN M' r) {ls : jx_L} (hl : okL M ls) : okL M' ls := fun v hv => okA_congr h (hl v hv)
theorem okS_congr {M M' : jx_M} (h : ∀ r, qN M r ≤ qN M' r) {st : List jx_V} (hl : okS M st) : okS M' st := fun v hv => okA_congr h (hl v hv)
theorem fv_wI_ne {ad : Nat → Nat → Nat} {M : jx_M} {r i k j : Nat} {v : Int32} (h : j ≠ k) : fv ad (wI M r i k v) r i j = fv ad M r i j := by
  have e : qI (wI M r i k v) r i j = qI M r i j := by rw [qI_wI, if_neg]; exact fun q => h q.2.2
  unfold fv
  simp only [e, qP_wI]
theorem fv_wI {ad : Nat → Nat → Nat} {M : jx_M} {r i k : Nat} {v : Int32} (h : fT r k = 0) : fv ad (wI M r i k v) r i k = .int v := by
  unfold fv
  simp only [h, qI_wI, and_self, if_true]
theorem fv_wP_ne {ad : Nat → Nat → Nat} {M : jx_M} {r i k j : Nat} {v : Option Nat} (h : j ≠ k) : fv ad (wP M r i k v) r i j = fv ad M r i j := by
  have e : qP (wP M r i k v) r i j = qP M r i j := by rw [qP_wP, if_neg]; exact fun q => h q.2.2
  unfold fv
  simp only [e, qI_wP]
theorem fv_wP {ad : Nat → Nat → Nat} {M : jx_M} {r i k z : Nat} {v : Option Nat} (h : fT r k = z + 1) : fv ad (wP M r i k v) r i k = va_rf (v.map (ad z)) := by
  unfold fv
  simp only [h, qP_wP, and_self, if_true]
theorem fs_get {ad : Nat → Nat → Nat} {M : jx_M} {r i k N : Nat} (hN : fN r = N) (hk : k < N) : ((List.range (fN r)).map (fv ad M r i))[k]? = some (fv ad M r i k) := by
  rw [hN]; simp [hk]
theorem jx_nar (x : Int32) (h : x = 0 ∨ x = 1) : narrow .boolean (.int x) = .int x ∧ fits .boolean (.int x) = true := by
  rcases h with rfl | rfl <;> decide +kernel
theorem aC_0 {ad : Nat → Nat → Nat} {M : jx_M} {r i : Nat} (h : aE r = 0) : aC ad M r i = .inl (fun k => qI M r i k) := by unfold aC; simp only [h]
theorem aC_1 {ad : Nat → Nat → Nat} {M : jx_M} {r i : Nat} (h : aE r = 1) : aC ad M r i = .inl (fun k => qI M r i k) := by unfold aC; simp only [h]
theorem aC_2 {ad : Nat → Nat → Nat} {M : jx_M} {r i : Nat} (h : aE r = 2) : aC ad M r i = .inl (fun k => qI M r i k) := by unfold aC; simp only [h]
theorem aC_3 {ad : Nat → Nat → Nat} {M : jx_M} {r i : Nat} (h : aE r = 3) : aC ad M r i = .inr (.inl (fun k => qJ M k)) := by unfold aC; simp only [h]
theorem aC_q {ad : Nat → Nat → Nat} {M : jx_M} {r i z : Nat} (h : aE r = z + 4) : aC ad M r i = .inr (.inr (.inr (.inr (fun k => (qP M r i k).map (ad z))))) := by unfold aC; simp only [h]
theorem aTy_0 {r : Nat} (h : aE r = 0) : aTy r = .int := by unfold aTy; simp only [h]
theorem aTy_1 {r : Nat} (h : aE r = 1) : aTy r = .char := by unfold aTy; simp only [h]
theorem aTy_2 {r : Nat} (h : aE r = 2) : aTy r = .boolean := by unfold aTy; simp only [h]
theorem aTy_3 {r : Nat} (h : aE r = 3) : aTy r = .long := by unfold aTy; simp only [h]
theorem aTy_q {r z : Nat} (h : aE r = z + 4) : aTy r = .object (jx_RN.getD z "") := by unfold aTy; simp only [h]
theorem at_ar {G : jx_G} {r : Nat} {ty : FieldType} (h1 : 11 ≤ r) (h2 : r < 48) (ht : aTy r = ty) : (atys (gA G))[r - 11]? = some (gA G r, ty) := by rw [← ht]; exact atys_at _ h1 h2
theorem sd_getI {G : jx_G} {p : Program} {e : Env} {R : Room} {s : State} {m : MethodId} {args : Array Value} {below : List Frame} {meth : Method} {c : Code} {Qf : State → Prop} {ad0 : Nat → Nat → Nat} {n0 : Nat → Nat} {nL : Nat} {Q : jx_O → jx_M → Prop} {cc : ByteArray} {pc : Nat} (hx : p.tables.exec = Jvm.exec) (hb : c.code = cc) {own : String} (hown : s.vm.findClass own = some m.cls) (hts : ∀ w ∈ jx_WT, w.before args s = true) (hG : Gs G s) {C : String} {T : u_T} {N idx r k : Nat} (hr : r < 11) (hc : vwCl[r]? = some (C, T, N)) (hN : fN r = N) (hk : k < N) (hlk : Cond.fieldLink own idx C (T k).2.1 (T k).2.2.1 ∈ jx_WT) (hC : (T k).1 = C) (hin : ∀ w ∈ u_ws C T N, w ∈ jx_WT) (hd : decode cc pc = .ok (.getfield idx, 3)) (h0 : fT r k = 0) : Snd G p e R s m args below meth c Qf ad0 n0 nL Q pc (pc + 3) (ti_getI r k) := by
  intro J K hJ hK ls st M cu su h
  unfold ti_getI at h
  split at h
  · obtain ⟨i, rfl, h⟩ := h
    intro ad H locs lsA hR hE hl hs hS hL
    obtain ⟨⟨ws, hP, hD, hcov⟩, hI, hDn, hSt⟩ := id hR
    obtain ⟨q0, hq⟩ := hcov r i (by omega) (okS_hd hs)
    rw [cE_obj hr] at hq
    refine va_get (D := gD G) (cl := vwCl) (v := .int (qI M r i k)) hx hb hts hin hown hG.1 hP q0 hq hc k hk (hts _ hlk) (fun x hx9 => by rw [hC] at hx9; exact hx9) ?_ hd (hK _ _ _ _ _ h ad H locs lsA hR hE hl (okS_cons okA_i (okS_tl hs)) hS hL)
    rw [fs_get hN hk]
    unfold fv
    simp only [h0]
  · exact h.elim
theorem sd_getP {G : jx_G} {p : Program} {e : Env} {R : Room} {s : State} {m : MethodId} {args : Array Value} {below : List Frame} {meth : Method} {c : Code} {Qf : State → Prop} {ad0 : Nat → Nat → Nat} {n0 : Nat → Nat} {nL : Nat} {Q : jx_O → jx_M → Prop} {cc : ByteArray} {pc : Nat} (hx : p.tables.exec = Jvm.exec) (hb : c.code = cc) {own : String} (hown : s.vm.findClass own = some m.cls) (hts : ∀ w ∈ jx_WT, w.before args s = true) (hG : Gs G s) {C : String} {T : u_T} {N idx r k : Nat} (hr : r < 11) (hc : vwCl[r]? = some (C, T, N)) (hN : fN r = N) (hk : k < N) (hlk : Cond.fieldLink own idx C (T k).2.1 (T k).2.2.1 ∈ jx_WT) (hC : (T k).1 = C) (hin : ∀ w ∈ u_ws C T N, w ∈ jx_WT) {z : Nat} (hd : decode cc pc = .ok (.getfield idx, 3)) (h0 : fT r k = z + 1) : Snd G p e R s m args below meth c Qf ad0 n0 nL Q pc (pc + 3) (ti_getP r k z) := by
  intro J K hJ hK ls st M cu su h
  unfold ti_getP at h
  split at h
  · obtain ⟨i, rfl, h⟩ := h
    intro ad H locs lsA hR hE hl hs hS hL
    obtain ⟨⟨ws, hP, hD, hcov⟩, hI, hDn, hSt⟩ := id hR
    have hi : i < qN M r := okS_hd hs
    obtain ⟨q0, hq⟩ := hcov r i (by omega) hi
    rw [cE_obj hr] at hq
    have hok : okA M (.inr (.inr (z, qP M r i k))) := okA_p (fun j hj => by
      have h9 := hDn r i k j (by omega) hi (by unfold isR; rw [if_pos hr]; omega) hj
      unfold tgR at h9
      rw [if_pos hr, h0] at h9
      exact h9)
    refine va_get (D := gD G) (cl := vwCl) (v := va_rf ((qP M r i k).map (ad z))) hx hb hts hin hown hG.1 hP q0 hq hc k hk (hts _ hlk) (fun x hx9 => by rw [hC] at hx9; exact hx9) ?_ hd (hK _ _ _ _ _ h ad H locs lsA hR hE hl (okS_cons hok (okS_tl hs)) hS hL)
    rw [fs_get hN hk]
    unfold fv
    simp only [h0]
  · exact h.elim
theorem sd_putI {G : jx_G} {p : Program} {e : Env} {R : Room} {s : State} {m : MethodId} {args : Array Value} {below : List Frame} {meth : Method} {c : Code} {Qf : State → Prop} {ad0 : Nat → Nat → Nat} {n0 : Nat → Nat} {nL : Nat} {Q : jx_O → jx_M → Prop} {cc : ByteArray} {pc : Nat} (hx : p.tables.exec = Jvm.exec) (hb : c.code = cc) {own : String} (hown : s.vm.findClass own = some m.cls) (hts : ∀ w ∈ jx_WT, w.before args s = true) (hG : Gs G s) {C : String} {T : u_T} {N idx r k : Nat} (hr : r < 11) (hc : vwCl[r]? = some (C, T, N)) (hN : fN r = N) (hk : k < N) (hlk : Cond.fieldLink own idx C (T k).2.1 (T k).2.2.1 ∈ jx_WT) (hC : (T k).1 = C) (hin : ∀ w ∈ u_ws C T N, w ∈ jx_WT) (ty0 : Nat → FieldType) (hty : ∀ k, k < N → parseFieldDescriptor (T k).2.2.1 = some (ty0 k)) (hnm : ∀ a, a < N → ∀ b, b < N → a ≠ b → (T a).2.1 ≠ (T b).2.1) (hfin : (T k).2.2.2 = false) (hd : decode cc pc = .ok (.putfield idx, 3)) (h0 : fT r k = 0) (hpd : parseFieldDescriptor (T k).2.2.1 = some .int) : Snd G p e R s m args below meth c Qf ad0 n0 nL Q pc (pc + 3) (ti_putI r k) := by
  intro J K hJ hK ls st M cu su h
  unfold ti_putI at h
  split at h
  · obtain ⟨i, rfl, h⟩ := h
    intro ad H locs lsA hR hE hl hs hS hL
    obtain ⟨⟨ws, hP, hD, hcov⟩, hI, hDn, hSt⟩ := id hR
    have hi : i < qN M r := okS_hd (okS_tl hs)
    obtain ⟨q0, hq⟩ := hcov r i (by omega) hi
    have hq' := hq
    rw [cE_obj hr] at hq'
    refine va_put (D := gD G) (cl := vwCl) hx hb hts hin ty0 hty hnm hown hG.1 hP hD hS q0 hq' hc k hk (hts _ hlk) (fun x hx9 => by rw [hC] at hx9; exact hx9) hfin hpd rfl rfl (by simp [hN, hk]) hd (fun H1 locs1 hP1 hD1 hS1 => ?_)
    refine hK _ _ _ _ _ h ad H1 locs1 lsA (hR.put (HR.put hI hcov (by omega) hi hq hP1 hD1 ?_ (fun r' i' => cE_wI_ne r' i') (fun _ => rfl)) (fun _ => rfl) hDn.wI) hE (okL_congr (fun _ => Nat.le_refl _) hl) (okS_congr (fun _ => Nat.le_refl _) (okS_tl (okS_tl hs))) hS1 hL
    rw [cE_obj hr]
    exact congrArg (fun z => Sum.inr (r, z)) (map_set (fv_wI h0) (fun j hj => fv_wI_ne hj)).symm
  · exact h.elim
theorem sd_putZ {G : jx_G} {p : Program} {e : Env} {R : Room} {s : State} {m : MethodId} {args : Array Value} {below : List Frame} {meth : Method} {c : Code} {Qf : State → Prop} {ad0 : Nat → Nat → Nat} {n0 : Nat → Nat} {nL : Nat} {Q : jx_O → jx_M → Prop} {cc : ByteArray} {pc : Nat} (hx : p.tables.exec = Jvm.exec) (hb : c.code = cc) {own : String} (hown : s.vm.findClass own = some m.cls) (hts : ∀ w ∈ jx_WT, w.before args s = true) (hG : Gs G s) {C : String} {T : u_T} {N idx r k : Nat} (hr : r < 11) (hc : vwCl[r]? = some (C, T, N)) (hN : fN r = N) (hk : k < N) (hlk : Cond.fieldLink own idx C (T k).2.1 (T k).2.2.1 ∈ jx_WT) (hC : (T k).1 = C) (hin : ∀ w ∈ u_ws C T N, w ∈ jx_WT) (ty0 : Nat → FieldType) (hty : ∀ k, k < N → parseFieldDescriptor (T k).2.2.1 = some (ty0 k)) (hnm : ∀ a, a < N → ∀ b, b < N → a ≠ b → (T a).2.1 ≠ (T b).2.1) (hfin : (T k).2.2.2 = false) (hd : decode cc pc = .ok (.putfield idx, 3)) (h0 : fT r k = 0) (hpd : parseFieldDescriptor (T k).2.2.1 = some .boolean) : Snd G p e R s m args below meth c Qf ad0 n0 nL Q pc (pc + 3) (ti_putZ r k) := by
  intro J K hJ hK ls st M cu su h
  unfold ti_putZ at h
  split at h
  · obtain ⟨i, rfl, hz, h⟩ := h
    intro ad H locs lsA hR hE hl hs hS hL
    obtain ⟨⟨ws, hP, hD, hcov⟩, hI, hDn, hSt⟩ := id hR
    have hi : i < qN M r := okS_hd (okS_tl hs)
    obtain ⟨q0, hq⟩ := hcov r i (by omega) hi
    have hq' := hq
    rw [cE_obj hr] at hq'
    refine va_put (D := gD G) (cl := vwCl) hx hb hts hin ty0 hty hnm hown hG.1 hP hD hS q0 hq' hc k hk (hts _ hlk) (fun x hx9 => by rw [hC] at hx9; exact hx9) hfin hpd (jx_nar _ hz).1 (jx_nar _ hz).2 (by simp [hN, hk]) hd (fun H1 locs1 hP1 hD1 hS1 => ?_)
    refine hK _ _ _ _ _ h ad H1 locs1 lsA (hR.put (HR.put hI hcov (by omega) hi hq hP1 hD1 ?_ (fun r' i' => cE_wI_ne r' i') (fun _ => rfl)) (fun _ => rfl) hDn.wI) hE (okL_congr (fun _ => Nat.le_refl _) hl) (okS_congr (fun _ => Nat.le_refl _) (okS_tl (okS_tl hs))) hS1 hL
    rw [cE_obj hr]
    exact congrArg (fun z => Sum.inr (r, z)) (map_set (fv_wI h0) (fun j hj => fv_wI_ne hj)).symm
  · exact h.elim
theorem sd_putP {G : jx_G} {p : Program} {e : Env} {R : Room} {s : State} {m : MethodId} {args : Array Value} {below : List Frame} {meth : Method} {c : Code} {Qf : State → Prop} {ad0 : Nat → Nat → Nat} {n0 : Nat → Nat} {nL : Nat} {Q : jx_O → jx_M → Prop} {cc : ByteArray} {pc : Nat} (hx : p.tables.exec = Jvm.exec) (hb : c.code = cc) {own : String} (hown : s.vm.findClass own = some m.cls) (hts : ∀ w ∈ jx_WT, w.before args s = true) (hG : Gs G s) {C : String} {T : u_T} {N idx r k : Nat} (hr : r < 11) (hc : vwCl[r]? = some (C, T, N)) (hN : fN r = N) (hk : k < N) (hlk : Cond.fieldLink own idx C (T k).2.1 (T k).2.2.1 ∈ jx_WT) (hC : (T k).1 = C) (hin : ∀ w ∈ u_ws C T N, w ∈ jx_WT) (ty0 : Nat → FieldType) (hty : ∀ k, k < N → parseFieldDescriptor (T k).2.2.1 = some (ty0 k)) (hnm : ∀ a, a < N → ∀ b, b < N → a ≠ b → (T a).2.1 ≠ (T b).2.1) (hfin : (T k).2.2.2 = false) {z : Nat} {ty : FieldType} (hd : decode cc pc = .ok (.putfield idx, 3)) (h0 : fT r k = z + 1) (hpd : parseFieldDescriptor (T k).2.2.1 = some ty) (hfit : ∀ o : Option Nat, narrow ty (va_rf o) = va_rf o ∧ fits ty (va_rf o) = true) : Snd G p e R s m args below meth c Qf ad0 n0 nL Q pc (pc + 3) (ti_putP r k z) := by
  intro J K hJ hK ls st M cu su h
  unfold ti_putP at h
  split at h
  · rename_i b a q
    obtain ⟨br, bo⟩ := b
    obtain ⟨hb1, i, rfl, h⟩ := h
    dsimp only at hb1 h
    subst hb1
    intro ad H locs lsA hR hE hl hs hS hL
    obtain ⟨⟨ws, hP, hD, hcov⟩, hI, hDn, hSt⟩ := id hR
    have hi : i < qN M r := okS_hd (okS_tl hs)
    obtain ⟨q0, hq⟩ := hcov r i (by omega) hi
    have hq' := hq
    rw [cE_obj hr] at hq'
    have htg : tgR r k = br := by unfold tgR; rw [if_pos hr, h0]; rfl
    refine va_put (D := gD G) (cl := vwCl) (v := va_rf (bo.map (ad br))) hx hb hts hin ty0 hty hnm hown hG.1 hP hD hS q0 hq' hc k hk (hts _ hlk) (fun x hx9 => by rw [hC] at hx9; exact hx9) hfin hpd (hfit _).1 (hfit _).2 (by simp [hN, hk]) hd (fun H1 locs1 hP1 hD1 hS1 => ?_)
    refine hK _ _ _ _ _ h ad H1 locs1 lsA (hR.put (HR.put hI hcov (by omega) hi hq hP1 hD1 ?_ (fun r' i' => cE_wP_ne r' i') (fun _ => rfl)) (fun _ => rfl) (hDn.wP (fun j hj => by subst hj; rw [htg]; exact okS_hd hs))) hE (okL_congr (fun _ => Nat.le_refl _) hl) (okS_congr (fun _ => Nat.le_refl _) (okS_tl (okS_tl hs))) hS1 hL
    rw [cE_obj hr]
    exact congrArg (fun z => Sum.inr (r, z)) (map_set (fv_wP h0) (fun j hj => fv_wP_ne hj)).symm
  · exact h.elim
theorem sd_putIF {G : jx_G} {p : Program} {e : Env} {R : Room} {s : State} {m : MethodId} {args : Array Value} {below : List Frame} {meth : Method} {c : Code} {Qf : State → Prop} {ad0 : Nat → Nat → Nat} {n0 : Nat → Nat} {nL : Nat} {Q : jx_O → jx_M → Prop} {cc : ByteArray} {pc : Nat} (hx : p.tables.exec = Jvm.exec) (hb : c.code = cc) {own : String} (hown : s.vm.findClass own = some m.cls) (hts : ∀ w ∈ jx_WT, w.before args s = true) (hG : Gs G s) {C : String} {T : u_T} {N idx r k : Nat} (hr : r < 11) (hc : vwCl[r]? = some (C, T, N)) (hN : fN r = N) (hk : k < N) (hlk : Cond.fieldLink own idx C (T k).2.1 (T k).2.2.1 ∈ jx_WT) (hC : (T k).1 = C) (hin : ∀ w ∈ u_ws C T N, w ∈ jx_WT) (ty0 : Nat → FieldType) (hty : ∀ k, k < N → parseFieldDescriptor (T k).2.2.1 = some (ty0 k)) (hnm : ∀ a, a < N → ∀ b, b < N → a ≠ b → (T a).2.1 ≠ (T b).2.1) (hfin : (T k).2.2.2 = true) (hin2 : meth.name = "<init>") (hdecl : (T k).1 = own) (hd : decode cc pc = .ok (.putfield idx, 3)) (h0 : fT r k = 0) (hpd : parseFieldDescriptor (T k).2.2.1 = some .int) : Snd G p e R s m args below meth c Qf ad0 n0 nL Q pc (pc + 3) (ti_putI r k) := by
  intro J K hJ hK ls st M cu su h
  unfold ti_putI at h
  split at h
  · obtain ⟨i, rfl, h⟩ := h
    intro ad H locs lsA hR hE hl hs hS hL
    obtain ⟨⟨ws, hP, hD, hcov⟩, hI, hDn, hSt⟩ := id hR
    have hi : i < qN M r := okS_hd (okS_tl hs)
    obtain ⟨q0, hq⟩ := hcov r i (by omega) hi
    have hq' := hq
    rw [cE_obj hr] at hq'
    refine va_putF (D := gD G) (cl := vwCl) hx hb hts hin ty0 hty hnm hown hG.1 hP hD hS q0 hq' hc k hk (hts _ hlk) (fun x hx9 => by rw [hC] at hx9; exact hx9) hfin hin2 hdecl hpd rfl rfl (by simp [hN, hk]) hd (fun H1 locs1 hP1 hD1 hS1 => ?_)
    refine hK _ _ _ _ _ h ad H1 locs1 lsA (hR.put (HR.put hI hcov (by omega) hi hq hP1 hD1 ?_ (fun r' i' => cE_wI_ne r' i') (fun _ => rfl)) (fun _ => rfl) hDn.wI) hE (okL_congr (fun _ => Nat.le_refl _) hl) (okS_congr (fun _ => Nat.le_refl _) (okS_tl (okS_tl hs))) hS1 hL
    rw [cE_obj hr]
    exact congrArg (fun z => Sum.inr (r, z)) (map_set (fv_wI h0) (fun j hj => fv_wI_ne hj)).symm
  · exact h.elim
theorem sd_putZF {G : jx_G} {p : Program} {e : Env} {R : Room} {s : State} {m : MethodId} {args : Array Value} {below : List Frame} {meth : Method} {c : Code} {Qf : State → Prop} {ad0 : Nat → Nat → Nat} {n0 : Nat → Nat} {nL : Nat} {Q : jx_O → jx_M → Prop} {cc : ByteArray} {pc : Nat} (hx : p.tables.exec = Jvm.exec) (hb : c.code = cc) {own : String} (hown : s.vm.findClass own = some m.cls) (hts : ∀ w ∈ jx_WT, w.before args s = true) (hG : Gs G s) {C : String} {T : u_T} {N idx r k : Nat} (hr : r < 11) (hc : vwCl[r]? = some (C, T, N)) (hN : fN r = N) (hk : k < N) (hlk : Cond.fieldLink own idx C (T k).2.1 (T k).2.2.1 ∈ jx_WT) (hC : (T k).1 = C) (hin : ∀ w ∈ u_ws C T N, w ∈ jx_WT) (ty0 : Nat → FieldType) (hty : ∀ k, k < N → parseFieldDescriptor (T k).2.2.1 = some (ty0 k)) (hnm : ∀ a, a < N → ∀ b, b < N → a ≠ b → (T a).2.1 ≠ (T b).2.1) (hfin : (T k).2.2.2 = true) (hin2 : meth.name = "<init>") (hdecl : (T k).1 = own) (hd : decode cc pc = .ok (.putfield idx, 3)) (h0 : fT r k = 0) (hpd : parseFieldDescriptor (T k).2.2.1 = some .boolean) : Snd G p e R s m args below meth c Qf ad0 n0 nL Q pc (pc + 3) (ti_putZ r k) := by
  intro J K hJ hK ls st M cu su h
  unfold ti_putZ at h
  split at h
  · obtain ⟨i, rfl, hz, h⟩ := h
    intro ad H locs lsA hR hE hl hs hS hL
    obtain ⟨⟨ws, hP, hD, hcov⟩, hI, hDn, hSt⟩ := id hR
    have hi : i < qN M r := okS_hd (okS_tl hs)
    obtain ⟨q0, hq⟩ := hcov r i (by omega) hi
    have hq' := hq
    rw [cE_obj hr] at hq'
    refine va_putF (D := gD G) (cl := vwCl) hx hb hts hin ty0 hty hnm hown hG.1 hP hD hS q0 hq' hc k hk (hts _ hlk) (fun x hx9 => by rw [hC] at hx9; exact hx9) hfin hin2 hdecl hpd (jx_nar _ hz).1 (jx_nar _ hz).2 (by simp [hN, hk]) hd (fun H1 locs1 hP1 hD1 hS1 => ?_)
    refine hK _ _ _ _ _ h ad H1 locs1 lsA (hR.put (HR.put hI hcov (by omega) hi hq hP1 hD1 ?_ (fun r' i' => cE_wI_ne r' i') (fun _ => rfl)) (fun _ => rfl) hDn.wI) hE (okL_congr (fun _ => Nat.le_refl _) hl) (okS_congr (fun _ => Nat.le_refl _) (okS_tl (okS_tl hs))) hS1 hL
    rw [cE_obj hr]
    exact congrArg (fun z => Sum.inr (r, z)) (map_set (fv_wI h0) (fun j hj => fv_wI_ne hj)).symm
  · exact h.elim
theorem sd_putPF {G : jx_G} {p : Program} {e : Env} {R : Room} {s : State} {m : MethodId} {args : Array Value} {below : List Frame} {meth : Method} {c : Code} {Qf : State → Prop} {ad0 : Nat → Nat → Nat} {n0 : Nat → Nat} {nL : Nat} {Q : jx_O → jx_M → Prop} {cc : ByteArray} {pc : Nat} (hx : p.tables.exec = Jvm.exec) (hb : c.code = cc) {own : String} (hown : s.vm.findClass own = some m.cls) (hts : ∀ w ∈ jx_WT, w.before args s = true) (hG : Gs G s) {C : String} {T : u_T} {N idx r k : Nat} (hr : r < 11) (hc : vwCl[r]? = some (C, T, N)) (hN : fN r = N) (hk : k < N) (hlk : Cond.fieldLink own idx C (T k).2.1 (T k).2.2.1 ∈ jx_WT) (hC : (T k).1 = C) (hin : ∀ w ∈ u_ws C T N, w ∈ jx_WT) (ty0 : Nat → FieldType) (hty : ∀ k, k < N → parseFieldDescriptor (T k).2.2.1 = some (ty0 k)) (hnm : ∀ a, a < N → ∀ b, b < N → a ≠ b → (T a).2.1 ≠ (T b).2.1) (hfin : (T k).2.2.2 = true) (hin2 : meth.name = "<init>") (hdecl : (T k).1 = own) {z : Nat} {ty : FieldType} (hd : decode cc pc = .ok (.putfield idx, 3)) (h0 : fT r k = z + 1) (hpd : parseFieldDescriptor (T k).2.2.1 = some ty) (hfit : ∀ o : Option Nat, narrow ty (va_rf o) = va_rf o ∧ fits ty (va_rf o) = true) : Snd G p e R s m args below meth c Qf ad0 n0 nL Q pc (pc + 3) (ti_putP r k z) := by
  intro J K hJ hK ls st M cu su h
  unfold ti_putP at h
  split at h
  · rename_i b a q
    obtain ⟨br, bo⟩ := b
    obtain ⟨hb1, i, rfl, h⟩ := h
    dsimp only at hb1 h
    subst hb1
    intro ad H locs lsA hR hE hl hs hS hL
    obtain ⟨⟨ws, hP, hD, hcov⟩, hI, hDn, hSt⟩ := id hR
    have hi : i < qN M r := okS_hd (okS_tl hs)
    obtain ⟨q0, hq⟩ := hcov r i (by omega) hi
    have hq' := hq
    rw [cE_obj hr] at hq'
    have htg : tgR r k = br := by unfold tgR; rw [if_pos hr, h0]; rfl
    refine va_putF (D := gD G) (cl := vwCl) (v := va_rf (bo.map (ad br))) hx hb hts hin ty0 hty hnm hown hG.1 hP hD hS q0 hq' hc k hk (hts _ hlk) (fun x hx9 => by rw [hC] at hx9; exact hx9) hfin hin2 hdecl hpd (hfit _).1 (hfit _).2 (by simp [hN, hk]) hd (fun H1 locs1 hP1 hD1 hS1 => ?_)
    refine hK _ _ _ _ _ h ad H1 locs1 lsA (hR.put (HR.put hI hcov (by omega) hi hq hP1 hD1 ?_ (fun r' i' => cE_wP_ne r' i') (fun _ => rfl)) (fun _ => rfl) (hDn.wP (fun j hj => by subst hj; rw [htg]; exact okS_hd hs))) hE (okL_congr (fun _ => Nat.le_refl _) hl) (okS_congr (fun _ => Nat.le_refl _) (okS_tl (okS_tl hs))) hS1 hL
    rw [cE_obj hr]
    exact congrArg (fun z => Sum.inr (r, z)) (map_set (fv_wP h0) (fun j hj => fv_wP_ne hj)).symm
  · exact h.elim
theorem sd_alen {G : jx_G} {p : Program} {e : Env} {R : Room} {s : State} {m : MethodId} {args : Array Value} {below : List Frame} {meth : Method} {c : Code} {Qf : State → Prop} {ad0 : Nat → Nat → Nat} {n0 : Nat → Nat} {nL : Nat} {Q : jx_O → jx_M → Prop} {cc : ByteArray} {pc : Nat} (hx : p.tables.exec = Jvm.exec) (hb : c.code = cc) (hG : Gs G s) {r : Nat} (h1 : 11 ≤ r) (h2 : r < 48) (hd : decode cc pc = .ok (.arraylength, 1)) : Snd G p e R s m args below meth c Qf ad0 n0 nL Q pc (pc + 1) (ti_alen r) := by
  intro J K hJ hK ls st M cu su h
  unfold ti_alen at h
  split at h
  · obtain ⟨i, rfl, h⟩ := h
    intro ad H locs lsA hR hE hl hs hS hL
    obtain ⟨⟨ws, hP, hD, hcov⟩, hI, hDn, hSt⟩ := id hR
    obtain ⟨q0, hq⟩ := hcov r i h2 (okS_hd hs)
    rw [cE_arr h1] at hq
    exact va_alen (D := gD G) (cl := vwCl) hx hb hG.1 hP q0 (r - 11) hq (at_ar h1 h2 rfl) rfl hd (hK _ _ _ _ _ h ad H locs lsA hR hE hl (okS_cons okA_i (okS_tl hs)) hS hL)
  · exact h.elim
theorem sd_iald {G : jx_G} {p : Program} {e : Env} {R : Room} {s : State} {m : MethodId} {args : Array Value} {below : List Frame} {meth : Method} {c : Code} {Qf : State → Prop} {ad0 : Nat → Nat → Nat} {n0 : Nat → Nat} {nL : Nat} {Q : jx_O → jx_M → Prop} {cc : ByteArray} {pc : Nat} (hx : p.tables.exec = Jvm.exec) (hb : c.code = cc) (hG : Gs G s) {r : Nat} (h1 : 11 ≤ r) (h2 : r < 48) (h0 : aE r = 0) (hd : decode cc pc = .ok (.iaload, 1)) : Snd G p e R s m args below meth c Qf ad0 n0 nL Q pc (pc + 1) (ti_ald r) := by
  intro J K hJ hK ls st M cu su h
  unfold ti_ald at h
  split at h
  · obtain ⟨i, rfl, hv, h⟩ := h
    intro ad H locs lsA hR hE hl hs hS hL
    obtain ⟨⟨ws, hP, hD, hcov⟩, hI, hDn, hSt⟩ := id hR
    obtain ⟨q0, hq⟩ := hcov r i h2 (okS_hd (okS_tl hs))
    rw [cE_arr h1, aC_0 h0] at hq
    exact va_iald (D := gD G) (cl := vwCl) hx hb hG.1 hP q0 (r - 11) hq (at_ar h1 h2 (aTy_0 h0)) hv hd (hK _ _ _ _ _ h ad H locs lsA hR hE hl (okS_cons okA_i (okS_tl (okS_tl hs))) hS hL)
  · exact h.elim
theorem sd_cald {G : jx_G} {p : Program} {e : Env} {R : Room} {s : State} {m : MethodId} {args : Array Value} {below : List Frame} {meth : Method} {c : Code} {Qf : State → Prop} {ad0 : Nat → Nat → Nat} {n0 : Nat → Nat} {nL : Nat} {Q : jx_O → jx_M → Prop} {cc : ByteArray} {pc : Nat} (hx : p.tables.exec = Jvm.exec) (hb : c.code = cc) (hG : Gs G s) {r : Nat} (h1 : 11 ≤ r) (h2 : r < 48) (h0 : aE r = 1) (hd : decode cc pc = .ok (.caload, 1)) : Snd G p e R s m args below meth c Qf ad0 n0 nL Q pc (pc + 1) (ti_ald r) := by
  intro J K hJ hK ls st M cu su h
  unfold ti_ald at h
  split at h
  · obtain ⟨i, rfl, hv, h⟩ := h
    intro ad H locs lsA hR hE hl hs hS hL
    obtain ⟨⟨ws, hP, hD, hcov⟩, hI, hDn, hSt⟩ := id hR
    obtain ⟨q0, hq⟩ := hcov r i h2 (okS_hd (okS_tl hs))
    rw [cE_arr h1, aC_1 h0] at hq
    exact va_cald (D := gD G) (cl := vwCl) hx hb hG.1 hP q0 (r - 11) hq (at_ar h1 h2 (aTy_1 h0)) hv hd (hK _ _ _ _ _ h ad H locs lsA hR hE hl (okS_cons okA_i (okS_tl (okS_tl hs))) hS hL)
  · exact h.elim
theorem sd_zald {G : jx_G} {p : Program} {e : Env} {R : Room} {s : State} {m : MethodId} {args : Array Value} {below : List Frame} {meth : Method} {c : Code} {Qf : State → Prop} {ad0 : Nat → Nat → Nat} {n0 : Nat → Nat} {nL : Nat} {Q : jx_O → jx_M → Prop} {cc : ByteArray} {pc : Nat} (hx : p.tables.exec = Jvm.exec) (hb : c.code = cc) (hG : Gs G s) {r : Nat} (h1 : 11 ≤ r) (h2 : r < 48) (h0 : aE r = 2) (hd : decode cc pc = .ok (.baload, 1)) : Snd G p e R s m args below meth c Qf ad0 n0 nL Q pc (pc + 1) (ti_ald r) := by
  intro J K hJ hK ls st M cu su h
  unfold ti_ald at h
  split at h
  · obtain ⟨i, rfl, hv, h⟩ := h
    intro ad H locs lsA hR hE hl hs hS hL
    obtain ⟨⟨ws, hP, hD, hcov⟩, hI, hDn, hSt⟩ := id hR
    obtain ⟨q0, hq⟩ := hcov r i h2 (okS_hd (okS_tl hs))
    rw [cE_arr h1, aC_2 h0] at hq
    exact va_zald (D := gD G) (cl := vwCl) hx hb hG.1 hP q0 (r - 11) hq (at_ar h1 h2 (aTy_2 h0)) hv hd (hK _ _ _ _ _ h ad H locs lsA hR hE hl (okS_cons okA_i (okS_tl (okS_tl hs))) hS hL)
  · exact h.elim
theorem sd_aald {G : jx_G} {p : Program} {e : Env} {R : Room} {s : State} {m : MethodId} {args : Array Value} {below : List Frame} {meth : Method} {c : Code} {Qf : State → Prop} {ad0 : Nat → Nat → Nat} {n0 : Nat → Nat} {nL : Nat} {Q : jx_O → jx_M → Prop} {cc : ByteArray} {pc : Nat} (hx : p.tables.exec = Jvm.exec) (hb : c.code = cc) (hG : Gs G s) {r : Nat} (h1 : 11 ≤ r) (h2 : r < 48) {z : Nat} (h0 : aE r = z + 4) (hd : decode cc pc = .ok (.aaload, 1)) : Snd G p e R s m args below meth c Qf ad0 n0 nL Q pc (pc + 1) (ti_aldP r z) := by
  intro J K hJ hK ls st M cu su h
  unfold ti_aldP at h
  split at h
  · rename_i x a q
    obtain ⟨i, rfl, hv, h⟩ := h
    intro ad H locs lsA hR hE hl hs hS hL
    obtain ⟨⟨ws, hP, hD, hcov⟩, hI, hDn, hSt⟩ := id hR
    have hi : i < qN M r := okS_hd (okS_tl hs)
    obtain ⟨q0, hq⟩ := hcov r i h2 hi
    rw [cE_arr h1, aC_q h0] at hq
    have hok : okA M (.inr (.inr (z, qP M r i x.toNatClampNeg))) := okA_p (fun j hj => by
      have h9 := hDn r i _ j h2 hi (by unfold isR; rw [if_neg (by omega)]; omega) hj
      unfold tgR at h9
      rw [if_neg (by omega), h0] at h9
      exact h9)
    exact va_aldq (D := gD G) (cl := vwCl) hx hb hG.1 hP q0 (r - 11) hq (at_ar h1 h2 (aTy_q h0)) hv hd (hK _ _ _ _ _ h ad H locs lsA hR hE hl (okS_cons hok (okS_tl (okS_tl hs))) hS hL)
  · exact h.elim
theorem cE_ast {G : jx_G} {ad : Nat → Nat → Nat} {M : jx_M} {r i k : Nat} {v : Int32} (h1 : 11 ≤ r) (h : aC ad (wI M r i k v) r i = .inl (fun c => qI (wI M r i k v) r i c)) : cE G ad (wI M r i k v) r i = .inl (gA G r, aL r, .inl (upd (fun c => qI M r i c) k v)) := by
  rw [cE_arr h1, h]
  congr 4
  funext c
  rw [qI_wI]
  unfold upd
  by_cases hc : c = k <;> simp [hc]
theorem sd_iast {G : jx_G} {p : Program} {e : Env} {R : Room} {s : State} {m : MethodId} {args : Array Value} {below : List Frame} {meth : Method} {c : Code} {Qf : State → Prop} {ad0 : Nat → Nat → Nat} {n0 : Nat → Nat} {nL : Nat} {Q : jx_O → jx_M → Prop} {cc : ByteArray} {pc : Nat} (hx : p.tables.exec = Jvm.exec) (hb : c.code = cc) (hG : Gs G s) {r : Nat} (h1 : 11 ≤ r) (h2 : r < 48) (h0 : aE r = 0) (hd : decode cc pc = .ok (.iastore, 1)) : Snd G p e R s m args below meth c Qf ad0 n0 nL Q pc (pc + 1) (ti_ast r) := by
  intro J K hJ hK ls st M cu su h
  unfold ti_ast at h
  split at h
  · rename_i v x a q
    obtain ⟨i, rfl, hv, h⟩ := h
    intro ad H locs lsA hR hE hl hs hS hL
    obtain ⟨⟨ws, hP, hD, hcov⟩, hI, hDn, hSt⟩ := id hR
    have hi : i < qN M r := okS_hd (okS_tl (okS_tl hs))
    obtain ⟨q0, hq⟩ := hcov r i h2 hi
    have hq' := hq
    rw [cE_arr h1, aC_0 h0] at hq'
    refine va_iast (D := gD G) (cl := vwCl) hx hb hG.1 hP hD hS q0 (r - 11) hq' (at_ar h1 h2 (aTy_0 h0)) hv hd (fun H1 locs1 hP1 hD1 hS1 => ?_)
    exact hK _ _ _ _ _ h ad H1 locs1 lsA (hR.put (HR.put hI hcov h2 hi hq hP1 hD1 (cE_ast h1 (aC_0 h0)) (fun r' i' => cE_wI_ne r' i') (fun _ => rfl)) (fun _ => rfl) hDn.wI) hE (okL_congr (fun _ => Nat.le_refl _) hl) (okS_congr (fun _ => Nat.le_refl _) (okS_tl (okS_tl (okS_tl hs)))) hS1 hL
  · exact h.elim
theorem sd_cast {G : jx_G} {p : Program} {e : Env} {R : Room} {s : State} {m : MethodId} {args : Array Value} {below : List Frame} {meth : Method} {c : Code} {Qf : State → Prop} {ad0 : Nat → Nat → Nat} {n0 : Nat → Nat} {nL : Nat} {Q : jx_O → jx_M → Prop} {cc : ByteArray} {pc : Nat} (hx : p.tables.exec = Jvm.exec) (hb : c.code = cc) (hG : Gs G s) {r : Nat} (h1 : 11 ≤ r) (h2 : r < 48) (h0 : aE r = 1) (hd : decode cc pc = .ok (.castore, 1)) : Snd G p e R s m args below meth c Qf ad0 n0 nL Q pc (pc + 1) (ti_astC r) := by
  intro J K hJ hK ls st M cu su h
  unfold ti_astC at h
  split at h
  · rename_i v x a q
    obtain ⟨i, rfl, hv, hz, h⟩ := h
    intro ad H locs lsA hR hE hl hs hS hL
    obtain ⟨⟨ws, hP, hD, hcov⟩, hI, hDn, hSt⟩ := id hR
    have hi : i < qN M r := okS_hd (okS_tl (okS_tl hs))
    obtain ⟨q0, hq⟩ := hcov r i h2 hi
    have hq' := hq
    rw [cE_arr h1, aC_1 h0] at hq'
    refine va_cast (D := gD G) (cl := vwCl) hx hb hG.1 hP hD hS q0 (r - 11) hq' (at_ar h1 h2 (aTy_1 h0)) hv hd (fun H1 locs1 hP1 hD1 hS1 => ?_)
    have hnr : vp_nar .char v = v := by rw [vp_nar_char, ← lg_i2c_nf]; exact hz
    rw [hnr] at hP1 hD1
    exact hK _ _ _ _ _ h ad H1 locs1 lsA (hR.put (HR.put hI hcov h2 hi hq hP1 hD1 (cE_ast h1 (aC_1 h0)) (fun r' i' => cE_wI_ne r' i') (fun _ => rfl)) (fun _ => rfl) hDn.wI) hE (okL_congr (fun _ => Nat.le_refl _) hl) (okS_congr (fun _ => Nat.le_refl _) (okS_tl (okS_tl (okS_tl hs)))) hS1 hL
  · exact h.elim
theorem sd_zast {G : jx_G} {p : Program} {e : Env} {R : Room} {s : State} {m : MethodId} {args : Array Value} {below : List Frame} {meth : Method} {c : Code} {Qf : State → Prop} {ad0 : Nat → Nat → Nat} {n0 : Nat → Nat} {nL : Nat} {Q : jx_O → jx_M → Prop} {cc : ByteArray} {pc : Nat} (hx : p.tables.exec = Jvm.exec) (hb : c.code = cc) (hG : Gs G s) {r : Nat} (h1 : 11 ≤ r) (h2 : r < 48) (h0 : aE r = 2) (hd : decode cc pc = .ok (.bastore, 1)) : Snd G p e R s m args below meth c Qf ad0 n0 nL Q pc (pc + 1) (ti_astZ r) := by
  intro J K hJ hK ls st M cu su h
  unfold ti_astZ at h
  split at h
  · rename_i v x a q
    obtain ⟨i, rfl, hv, hz, h⟩ := h
    intro ad H locs lsA hR hE hl hs hS hL
    obtain ⟨⟨ws, hP, hD, hcov⟩, hI, hDn, hSt⟩ := id hR
    have hi : i < qN M r := okS_hd (okS_tl (okS_tl hs))
    obtain ⟨q0, hq⟩ := hcov r i h2 hi
    have hq' := hq
    rw [cE_arr h1, aC_2 h0] at hq'
    refine va_zast (D := gD G) (cl := vwCl) hx hb hG.1 hP hD hS q0 (r - 11) hq' (at_ar h1 h2 (aTy_2 h0)) hv hd (fun H1 locs1 hP1 hD1 hS1 => ?_)
    have hnr : vp_nar .boolean v = v := (Value.int.inj ((show narrow .boolean (.int _) = .int (vp_nar .boolean _) by rcases hz with rfl | rfl <;> decide +kernel).symm.trans (jx_nar _ hz).1))
    rw [hnr] at hP1 hD1
    exact hK _ _ _ _ _ h ad H1 locs1 lsA (hR.put (HR.put hI hcov h2 hi hq hP1 hD1 (cE_ast h1 (aC_2 h0)) (fun r' i' => cE_wI_ne r' i') (fun _ => rfl)) (fun _ => rfl) hDn.wI) hE (okL_congr (fun _ => Nat.le_refl _) hl) (okS_congr (fun _ => Nat.le_refl _) (okS_tl (okS_tl (okS_tl hs)))) hS1 hL
  · exact h.elim
theorem cE_wJ_ne {G : jx_G} {ad : Nat → Nat → Nat} {M : jx_M} {k : Nat} {v : Int64} (r' i' : Nat) (h : r' ≠ 47) (h2 : r' < 48) : cE G ad (wJ M k v) r' i' = cE G ad M r' i' := by
  unfold cE fv aC
  simp only [qI_wJ, qP_wJ]
  by_cases h1 : r' < 11
  · simp only [h1, if_true]
  · simp only [h1, if_false]
    have h3 : aE r' ≠ 3 := by
      have h4 : ∀ j, j < 48 → j ≠ 47 → ¬ j < 11 → aE j ≠ 3 := by decide +kernel
      exact h4 r' h2 h h1
    split <;> first | rfl | (rename_i h9; exact absurd h9 h3)
theorem cE_astP {G : jx_G} {ad : Nat → Nat → Nat} {M : jx_M} {r i k z : Nat} {v : Option Nat} (h1 : 11 ≤ r) (h0 : aE r = z + 4) : cE G ad (wP M r i k v) r i = .inl (gA G r, aL r, .inr (.inr (.inr (.inr (va_up (fun c => (qP M r i c).map (ad z)) k (v.map (ad z))))))) := by
  rw [cE_arr h1, aC_q h0]
  congr 7
  funext c
  rw [qP_wP]
  unfold va_up
  by_cases hc : c = k <;> simp [hc]
theorem sd_aast {G : jx_G} {p : Program} {e : Env} {R : Room} {s : State} {m : MethodId} {args : Array Value} {below : List Frame} {meth : Method} {c : Code} {Qf : State → Prop} {ad0 : Nat → Nat → Nat} {n0 : Nat → Nat} {nL : Nat} {Q : jx_O → jx_M → Prop} {cc : ByteArray} {pc : Nat} (hx : p.tables.exec = Jvm.exec) (hb : c.code = cc) (hG : Gs G s) {r : Nat} (h1 : 11 ≤ r) (h2 : r < 48) {z : Nat} {C : String} {T : u_T} {N : Nat} (h0 : aE r = z + 4) (hz : z < 11) (hc : vwCl[z]? = some (C, T, N)) (hnm : jx_RN.getD z "" = C) (hd : decode cc pc = .ok (.aastore, 1)) : Snd G p e R s m args below meth c Qf ad0 n0 nL Q pc (pc + 1) (ti_astP r z) := by
  intro J K hJ hK ls st M cu su h
  unfold ti_astP at h
  split at h
  · rename_i b x a q
    obtain ⟨br, bo⟩ := b
    obtain ⟨hb1, i, rfl, hv, h⟩ := h
    dsimp only at hb1 h
    subst hb1
    intro ad H locs lsA hR hE hl hs hS hL
    obtain ⟨⟨ws, hP, hD, hcov⟩, hI, hDn, hSt⟩ := id hR
    have hi : i < qN M r := okS_hd (okS_tl (okS_tl hs))
    obtain ⟨q0, hq⟩ := hcov r i h2 hi
    have hq' := hq
    rw [cE_arr h1, aC_q h0] at hq'
    have htg : tgR r x.toNatClampNeg = br := by unfold tgR; rw [if_neg (by omega), h0]; rfl
    have fin : ∀ (H1 : Heap) (locs1 : List Loc), va_P (gD G) vwCl (ws.set q0 (ad r i, .inl (gA G r, aL r, .inr (.inr (.inr (.inr (va_up (fun c => (qP M r i c).map (ad br)) x.toNatClampNeg (bo.map (ad br))))))))) H1 → va_D (gF G) (ws.set q0 (ad r i, .inl (gA G r, aL r, .inr (.inr (.inr (.inr (va_up (fun c => (qP M r i c).map (ad br)) x.toNatClampNeg (bo.map (ad br))))))))) → va_S (gF G) s.heap H1 locs1 → W p (gl G) e R s m args below meth c H1 locs1 cu su Qf (F0 m (pc + 1) lsA (q.map (cv ad))) := fun H1 locs1 hP1 hD1 hS1 =>
      hK _ _ _ _ _ h ad H1 locs1 lsA (hR.put (HR.put hI hcov h2 hi hq hP1 hD1 (cE_astP h1 h0) (fun r' i' => cE_wP_ne r' i') (fun _ => rfl)) (fun _ => rfl) (hDn.wP (fun j hj => by subst hj; rw [htg]; exact okS_hd hs))) hE (okL_congr (fun _ => Nat.le_refl _) hl) (okS_congr (fun _ => Nat.le_refl _) (okS_tl (okS_tl (okS_tl hs)))) hS1 hL
    have hat : (atys (gA G))[r - 11]? = some (gA G r, .object C) := at_ar h1 h2 (by rw [aTy_q h0, hnm])
    cases bo with
    | none => exact va_astqN (D := gD G) (cl := vwCl) hx hb hG.1 hP hD hS q0 (r - 11) hq' hat hv hd fin
    | some j =>
      obtain ⟨qk, hqk⟩ := hcov br j (by omega) (okS_hd hs)
      rw [cE_obj hz] at hqk
      exact va_astq (D := gD G) (cl := vwCl) (r := (C, T, N)) hx hb hG.1 hP hD hS q0 (r - 11) qk br hq' hat hqk hc hv hd fin
  · exact h.elim
