/-! SOUND: statics, ends, switch, calls, throws, makings; blocks and methods (by wip/whole/gen4.py) -/
theorem sd_getstW {G : jx_G} {p : Program} {e : Env} {R : Room} {s : State} {m : MethodId} {args : Array Value} {below : List Frame} {meth : Method} {c : Code} {Qf : State → Prop} {ad0 : Nat → Nat → Nat} {n0 : Nat → Nat} {nL : Nat} {Q : jx_O → jx_M → Prop} {cc : ByteArray} {pc : Nat} (hx : p.tables.exec = Jvm.exec) (hb : c.code = cc) {own : String} (hown : s.vm.findClass own = some m.cls) (hts : ∀ w ∈ jx_WT, w.before args s = true) (hG : Gs G s) {idx : Nat} (hlk : Cond.fieldLink own idx "LeadCases" "WIDTHS" "[I" ∈ jx_WT) (hd : decode cc pc = .ok (.getstatic idx, 3)) : Snd G p e R s m args below meth c Qf ad0 n0 nL Q pc (pc + 3) (ti_getst 48) := by
  intro J K hJ hK ls st M cu su h
  intro ad H locs lsA hR hE hl hs hS hL
  have e1 : cv ad (.inr (.inr (48, some 0))) = .ref (gW G) := by show Value.ref (ad 48 0) = _; rw [hR.2.2.2.1]
  refine va_gets (v := .ref (gW G)) hx hb hG.2.1 hS hown (hts _ hlk) (fun _ h9 => h9) hd ?_
  rw [← e1]
  exact hK _ _ _ _ _ h ad H locs lsA hR hE hl (okS_cons (okA_p (fun i hi => by cases hi; have h9 := hR.2.2.2.2.2.2.1; omega)) hs) hS hL
theorem sd_getstWN {G : jx_G} {p : Program} {e : Env} {R : Room} {s : State} {m : MethodId} {args : Array Value} {below : List Frame} {meth : Method} {c : Code} {Qf : State → Prop} {ad0 : Nat → Nat → Nat} {n0 : Nat → Nat} {nL : Nat} {Q : jx_O → jx_M → Prop} {cc : ByteArray} {pc : Nat} (hx : p.tables.exec = Jvm.exec) (hb : c.code = cc) {own : String} (hown : s.vm.findClass own = some m.cls) (hts : ∀ w ∈ jx_WT, w.before args s = true) (hG : Gs G s) {idx : Nat} {host : String} (hlk : (own, idx, "LeadCases", "WIDTHS", "[I", host) ∈ jx_nestF) (hd : decode cc pc = .ok (.getstatic idx, 3)) : Snd G p e R s m args below meth c Qf ad0 n0 nL Q pc (pc + 3) (ti_getst 48) := by
  intro J K hJ hK ls st M cu su h
  intro ad H locs lsA hR hE hl hs hS hL
  have e1 : cv ad (.inr (.inr (48, some 0))) = .ref (gW G) := by show Value.ref (ad 48 0) = _; rw [hR.2.2.2.1]
  refine va_getsN (v := .ref (gW G)) hx hb hG.2.1 hS hown (va_Nw.use rfl (hG.2.2.2.2.2.2.2.2.2.2.2.2.1 _ hlk)) (fun _ h9 => h9) hd ?_
  rw [← e1]
  exact hK _ _ _ _ _ h ad H locs lsA hR hE hl (okS_cons (okA_p (fun i hi => by cases hi; have h9 := hR.2.2.2.2.2.2.1; omega)) hs) hS hL
theorem sd_ldW {G : jx_G} {p : Program} {e : Env} {R : Room} {s : State} {m : MethodId} {args : Array Value} {below : List Frame} {meth : Method} {c : Code} {Qf : State → Prop} {ad0 : Nat → Nat → Nat} {n0 : Nat → Nat} {nL : Nat} {Q : jx_O → jx_M → Prop} {cc : ByteArray} {pc : Nat} (hx : p.tables.exec = Jvm.exec) (hb : c.code = cc) (hG : Gs G s) (hd : decode cc pc = .ok (.iaload, 1)) : Snd G p e R s m args below meth c Qf ad0 n0 nL Q pc (pc + 1) ti_ldW := by
  intro J K hJ hK ls st M cu su h
  unfold ti_ldW at h
  split at h
  · rename_i x a q
    obtain ⟨rfl, hv, h⟩ := h
    intro ad H locs lsA hR hE hl hs hS hL
    have e1 : cv ad (.inr (.inr (48, some 0))) = .ref (gW G) := by show Value.ref (ad 48 0) = _; rw [hR.2.2.2.1]
    show W p (gl G) e R s m args below meth c H locs cu su Qf (F0 m pc lsA (.int x :: cv ad (.inr (.inr (48, some 0))) :: q.map (cv ad)))
    rw [e1]
    exact va_ti hx hb hG.2.2.2.1 hS hv rfl hd (hK _ _ _ _ _ h ad H locs lsA hR hE hl (okS_cons okA_i (okS_tl (okS_tl hs))) hS hL)
  · exact h.elim
theorem sd_lenW {G : jx_G} {p : Program} {e : Env} {R : Room} {s : State} {m : MethodId} {args : Array Value} {below : List Frame} {meth : Method} {c : Code} {Qf : State → Prop} {ad0 : Nat → Nat → Nat} {n0 : Nat → Nat} {nL : Nat} {Q : jx_O → jx_M → Prop} {cc : ByteArray} {pc : Nat} (hx : p.tables.exec = Jvm.exec) (hb : c.code = cc) (hG : Gs G s) (hd : decode cc pc = .ok (.arraylength, 1)) : Snd G p e R s m args below meth c Qf ad0 n0 nL Q pc (pc + 1) ti_lenW := by
  intro J K hJ hK ls st M cu su h
  unfold ti_lenW at h
  split at h
  · rename_i a q
    obtain ⟨rfl, h⟩ := h
    intro ad H locs lsA hR hE hl hs hS hL
    have e1 : cv ad (.inr (.inr (48, some 0))) = .ref (gW G) := by show Value.ref (ad 48 0) = _; rw [hR.2.2.2.1]
    show W p (gl G) e R s m args below meth c H locs cu su Qf (F0 m pc lsA (cv ad (.inr (.inr (48, some 0))) :: q.map (cv ad)))
    rw [e1]
    obtain ⟨cell, g1, g2, g3, g4, g5, g6, g7⟩ := hG.2.2.2.1
    exact W.alen (n := 29) hx hb (by rw [hS.2.1 _ (Array.getElem?_eq_some_iff.mp g1).1 g7]; exact g1) g2 (by rw [g5]; rfl) rfl rfl hd (hK _ _ _ _ _ h ad H locs lsA hR hE hl (okS_cons okA_i (okS_tl hs)) hS hL)
  · exact h.elim
theorem sd_getstU {G : jx_G} {p : Program} {e : Env} {R : Room} {s : State} {m : MethodId} {args : Array Value} {below : List Frame} {meth : Method} {c : Code} {Qf : State → Prop} {ad0 : Nat → Nat → Nat} {n0 : Nat → Nat} {nL : Nat} {Q : jx_O → jx_M → Prop} {cc : ByteArray} {pc : Nat} (hx : p.tables.exec = Jvm.exec) (hb : c.code = cc) {own : String} (hown : s.vm.findClass own = some m.cls) (hts : ∀ w ∈ jx_WT, w.before args s = true) (hG : Gs G s) {idx : Nat} (hlk : Cond.fieldLink own idx "LeadCases" "UNITS" "[I" ∈ jx_WT) (hd : decode cc pc = .ok (.getstatic idx, 3)) : Snd G p e R s m args below meth c Qf ad0 n0 nL Q pc (pc + 3) (ti_getst 49) := by
  intro J K hJ hK ls st M cu su h
  intro ad H locs lsA hR hE hl hs hS hL
  have e1 : cv ad (.inr (.inr (49, some 0))) = .ref (gU G) := by show Value.ref (ad 49 0) = _; rw [hR.2.2.2.2.1]
  refine va_gets (v := .ref (gU G)) hx hb hG.2.2.1 hS hown (hts _ hlk) (fun _ h9 => h9) hd ?_
  rw [← e1]
  exact hK _ _ _ _ _ h ad H locs lsA hR hE hl (okS_cons (okA_p (fun i hi => by cases hi; have h9 := hR.2.2.2.2.2.2.2.1; omega)) hs) hS hL
theorem sd_getstUN {G : jx_G} {p : Program} {e : Env} {R : Room} {s : State} {m : MethodId} {args : Array Value} {below : List Frame} {meth : Method} {c : Code} {Qf : State → Prop} {ad0 : Nat → Nat → Nat} {n0 : Nat → Nat} {nL : Nat} {Q : jx_O → jx_M → Prop} {cc : ByteArray} {pc : Nat} (hx : p.tables.exec = Jvm.exec) (hb : c.code = cc) {own : String} (hown : s.vm.findClass own = some m.cls) (hts : ∀ w ∈ jx_WT, w.before args s = true) (hG : Gs G s) {idx : Nat} {host : String} (hlk : (own, idx, "LeadCases", "UNITS", "[I", host) ∈ jx_nestF) (hd : decode cc pc = .ok (.getstatic idx, 3)) : Snd G p e R s m args below meth c Qf ad0 n0 nL Q pc (pc + 3) (ti_getst 49) := by
  intro J K hJ hK ls st M cu su h
  intro ad H locs lsA hR hE hl hs hS hL
  have e1 : cv ad (.inr (.inr (49, some 0))) = .ref (gU G) := by show Value.ref (ad 49 0) = _; rw [hR.2.2.2.2.1]
  refine va_getsN (v := .ref (gU G)) hx hb hG.2.2.1 hS hown (va_Nw.use rfl (hG.2.2.2.2.2.2.2.2.2.2.2.2.1 _ hlk)) (fun _ h9 => h9) hd ?_
  rw [← e1]
  exact hK _ _ _ _ _ h ad H locs lsA hR hE hl (okS_cons (okA_p (fun i hi => by cases hi; have h9 := hR.2.2.2.2.2.2.2.1; omega)) hs) hS hL
theorem sd_ldU {G : jx_G} {p : Program} {e : Env} {R : Room} {s : State} {m : MethodId} {args : Array Value} {below : List Frame} {meth : Method} {c : Code} {Qf : State → Prop} {ad0 : Nat → Nat → Nat} {n0 : Nat → Nat} {nL : Nat} {Q : jx_O → jx_M → Prop} {cc : ByteArray} {pc : Nat} (hx : p.tables.exec = Jvm.exec) (hb : c.code = cc) (hG : Gs G s) (hd : decode cc pc = .ok (.iaload, 1)) : Snd G p e R s m args below meth c Qf ad0 n0 nL Q pc (pc + 1) ti_ldU := by
  intro J K hJ hK ls st M cu su h
  unfold ti_ldU at h
  split at h
  · rename_i x a q
    obtain ⟨rfl, hv, h⟩ := h
    intro ad H locs lsA hR hE hl hs hS hL
    have e1 : cv ad (.inr (.inr (49, some 0))) = .ref (gU G) := by show Value.ref (ad 49 0) = _; rw [hR.2.2.2.2.1]
    show W p (gl G) e R s m args below meth c H locs cu su Qf (F0 m pc lsA (.int x :: cv ad (.inr (.inr (49, some 0))) :: q.map (cv ad)))
    rw [e1]
    exact va_ti hx hb hG.2.2.2.2.1 hS hv rfl hd (hK _ _ _ _ _ h ad H locs lsA hR hE hl (okS_cons okA_i (okS_tl (okS_tl hs))) hS hL)
  · exact h.elim
theorem sd_lenU {G : jx_G} {p : Program} {e : Env} {R : Room} {s : State} {m : MethodId} {args : Array Value} {below : List Frame} {meth : Method} {c : Code} {Qf : State → Prop} {ad0 : Nat → Nat → Nat} {n0 : Nat → Nat} {nL : Nat} {Q : jx_O → jx_M → Prop} {cc : ByteArray} {pc : Nat} (hx : p.tables.exec = Jvm.exec) (hb : c.code = cc) (hG : Gs G s) (hd : decode cc pc = .ok (.arraylength, 1)) : Snd G p e R s m args below meth c Qf ad0 n0 nL Q pc (pc + 1) ti_lenU := by
  intro J K hJ hK ls st M cu su h
  unfold ti_lenU at h
  split at h
  · rename_i a q
    obtain ⟨rfl, h⟩ := h
    intro ad H locs lsA hR hE hl hs hS hL
    have e1 : cv ad (.inr (.inr (49, some 0))) = .ref (gU G) := by show Value.ref (ad 49 0) = _; rw [hR.2.2.2.2.1]
    show W p (gl G) e R s m args below meth c H locs cu su Qf (F0 m pc lsA (cv ad (.inr (.inr (49, some 0))) :: q.map (cv ad)))
    rw [e1]
    obtain ⟨cell, g1, g2, g3, g4, g5, g6, g7⟩ := hG.2.2.2.2.1
    exact W.alen (n := 5) hx hb (by rw [hS.2.1 _ (Array.getElem?_eq_some_iff.mp g1).1 g7]; exact g1) g2 (by rw [g5]; rfl) rfl rfl hd (hK _ _ _ _ _ h ad H locs lsA hR hE hl (okS_cons okA_i (okS_tl hs)) hS hL)
  · exact h.elim
theorem sd_ldX {G : jx_G} {p : Program} {e : Env} {R : Room} {s : State} {m : MethodId} {args : Array Value} {below : List Frame} {meth : Method} {c : Code} {Qf : State → Prop} {ad0 : Nat → Nat → Nat} {n0 : Nat → Nat} {nL : Nat} {Q : jx_O → jx_M → Prop} {cc : ByteArray} {pc : Nat} (hx : p.tables.exec = Jvm.exec) (hb : c.code = cc) (hG : Gs G s) (hd : decode cc pc = .ok (.iaload, 1)) : Snd G p e R s m args below meth c Qf ad0 n0 nL Q pc (pc + 1) (ti_ldX (gX G) (gL G)) := by
  intro J K hJ hK ls st M cu su h
  unfold ti_ldX at h
  split at h
  · rename_i x a q
    obtain ⟨rfl, hv, h⟩ := h
    intro ad H locs lsA hR hE hl hs hS hL
    have e1 : cv ad (.inr (.inr (50, some 0))) = .ref (gB G) := by show Value.ref (ad 50 0) = _; rw [hR.2.2.2.2.2.1]
    show W p (gl G) e R s m args below meth c H locs cu su Qf (F0 m pc lsA (.int x :: cv ad (.inr (.inr (50, some 0))) :: q.map (cv ad)))
    rw [e1]
    exact va_sld hx hb hG.2.2.2.2.2.1 (Nat.lt_of_lt_of_le hG.2.2.2.2.2.2.1 hG.2.2.2.2.2.2.2.1) (Nat.not_le.mpr hG.2.2.2.2.2.2.1) hS hv hd (hK _ _ _ _ _ h ad H locs lsA hR hE hl (okS_cons okA_i (okS_tl (okS_tl hs))) hS hL)
  · exact h.elim
theorem sd_lenX {G : jx_G} {p : Program} {e : Env} {R : Room} {s : State} {m : MethodId} {args : Array Value} {below : List Frame} {meth : Method} {c : Code} {Qf : State → Prop} {ad0 : Nat → Nat → Nat} {n0 : Nat → Nat} {nL : Nat} {Q : jx_O → jx_M → Prop} {cc : ByteArray} {pc : Nat} (hx : p.tables.exec = Jvm.exec) (hb : c.code = cc) (hG : Gs G s) (hd : decode cc pc = .ok (.arraylength, 1)) : Snd G p e R s m args below meth c Qf ad0 n0 nL Q pc (pc + 1) (ti_lenX (gL G)) := by
  intro J K hJ hK ls st M cu su h
  unfold ti_lenX at h
  split at h
  · rename_i a q
    obtain ⟨rfl, h⟩ := h
    intro ad H locs lsA hR hE hl hs hS hL
    have e1 : cv ad (.inr (.inr (50, some 0))) = .ref (gB G) := by show Value.ref (ad 50 0) = _; rw [hR.2.2.2.2.2.1]
    show W p (gl G) e R s m args below meth c H locs cu su Qf (F0 m pc lsA (cv ad (.inr (.inr (50, some 0))) :: q.map (cv ad)))
    rw [e1]
    exact va_slen hx hb hG.2.2.2.2.2.1 (Nat.lt_of_lt_of_le hG.2.2.2.2.2.2.1 hG.2.2.2.2.2.2.2.1) (Nat.not_le.mpr hG.2.2.2.2.2.2.1) hS hd (hK _ _ _ _ _ h ad H locs lsA hR hE hl (okS_cons okA_i (okS_tl hs)) hS hL)
  · exact h.elim
def jEnd (G : jx_G) (p : Program) (e : Env) (R : Room) (s : State) (m : MethodId) (args : Array Value) (below : List Frame) (meth : Method) (c : Code) (Qf : State → Prop) (ad0 : Nat → Nat → Nat) (n0 : Nat → Nat) (nL : Nat) (mc ms : Nat) (Q : jx_O → jx_M → Prop) : Prop := ∀ (H : Heap) (locs : List Loc) (g : JFrame), W p (gl G) e R s m args below meth c H locs mc ms (MQ below (QcR G ad0 n0 Q) args s mc ms (gF G)) g → W p (gl G) e R s m args below meth c H locs mc ms Qf g
theorem sd_iret {G : jx_G} {p : Program} {e : Env} {R : Room} {s : State} {m : MethodId} {args : Array Value} {below : List Frame} {meth : Method} {c : Code} {Qf : State → Prop} {ad0 : Nat → Nat → Nat} {n0 : Nat → Nat} {nL : Nat} {Q : jx_O → jx_M → Prop} {cc : ByteArray} {pc : Nat} (hx : p.tables.exec = Jvm.exec) (hb : c.code = cc) {mc ms : Nat} (hend : jEnd G p e R s m args below meth c Qf ad0 n0 nL mc ms Q) (hlk : meth.locks = false) (hr : meth.sig.returnType = some .int) (hd : decode cc pc = .ok (.ireturn, 1)) : Snd G p e R s m args below meth c Qf ad0 n0 nL Q pc pc (ti_iret mc ms) := by
  intro J K hJ hK ls st M cu su h
  unfold ti_iret at h
  split at h
  · obtain ⟨hc1, hc2, hq⟩ := h
    intro ad H locs lsA hR hE hl hs hS hL
    refine W.widen hc1 hc2 (hend _ _ _ ?_)
    exact W.iret hx hb hr (fun t ht hW => ⟨ad, M, some _, rfl, by rw [ht]; exact hR, hE, fun x hx9 => by cases hx9; exact okS_hd hs, hq, hS.F ht⟩) hS.2.2 hd hlk
  · exact h.elim
theorem sd_zret {G : jx_G} {p : Program} {e : Env} {R : Room} {s : State} {m : MethodId} {args : Array Value} {below : List Frame} {meth : Method} {c : Code} {Qf : State → Prop} {ad0 : Nat → Nat → Nat} {n0 : Nat → Nat} {nL : Nat} {Q : jx_O → jx_M → Prop} {cc : ByteArray} {pc : Nat} (hx : p.tables.exec = Jvm.exec) (hb : c.code = cc) {mc ms : Nat} (hend : jEnd G p e R s m args below meth c Qf ad0 n0 nL mc ms Q) (hlk : meth.locks = false) (hr : meth.sig.returnType = some .boolean) (hd : decode cc pc = .ok (.ireturn, 1)) : Snd G p e R s m args below meth c Qf ad0 n0 nL Q pc pc (ti_zret mc ms) := by
  intro J K hJ hK ls st M cu su h
  unfold ti_zret at h
  split at h
  · obtain ⟨hc1, hc2, hz, hq⟩ := h
    intro ad H locs lsA hR hE hl hs hS hL
    refine W.widen hc1 hc2 (hend _ _ _ ?_)
    exact W.zret hx hb hr (jx_nar _ hz).1 (fun t ht hW => ⟨ad, M, some _, rfl, by rw [ht]; exact hR, hE, fun x hx9 => by cases hx9; exact okS_hd hs, hq, hS.F ht⟩) hS.2.2 hd hlk
  · exact h.elim
theorem sd_cret {G : jx_G} {p : Program} {e : Env} {R : Room} {s : State} {m : MethodId} {args : Array Value} {below : List Frame} {meth : Method} {c : Code} {Qf : State → Prop} {ad0 : Nat → Nat → Nat} {n0 : Nat → Nat} {nL : Nat} {Q : jx_O → jx_M → Prop} {cc : ByteArray} {pc : Nat} (hx : p.tables.exec = Jvm.exec) (hb : c.code = cc) {mc ms : Nat} (hend : jEnd G p e R s m args below meth c Qf ad0 n0 nL mc ms Q) (hlk : meth.locks = false) (hr : meth.sig.returnType = some .char) (hd : decode cc pc = .ok (.ireturn, 1)) : Snd G p e R s m args below meth c Qf ad0 n0 nL Q pc pc (ti_cret mc ms) := by
  intro J K hJ hK ls st M cu su h
  unfold ti_cret at h
  split at h
  · rename_i x
    obtain ⟨hc1, hc2, hz, hq⟩ := h
    intro ad H locs lsA hR hE hl hs hS hL
    refine W.widen hc1 hc2 (hend _ _ _ ?_)
    exact W.zret hx hb hr (by show Value.int _ = _; rw [← lg_i2c_nf, hz]) (fun t ht hW => ⟨ad, M, some _, rfl, by rw [ht]; exact hR, hE, fun x hx9 => by cases hx9; exact okS_hd hs, hq, hS.F ht⟩) hS.2.2 hd hlk
  · exact h.elim
theorem sd_aret {G : jx_G} {p : Program} {e : Env} {R : Room} {s : State} {m : MethodId} {args : Array Value} {below : List Frame} {meth : Method} {c : Code} {Qf : State → Prop} {ad0 : Nat → Nat → Nat} {n0 : Nat → Nat} {nL : Nat} {Q : jx_O → jx_M → Prop} {cc : ByteArray} {pc : Nat} (hx : p.tables.exec = Jvm.exec) (hb : c.code = cc) {mc ms : Nat} {rt : FieldType} (hend : jEnd G p e R s m args below meth c Qf ad0 n0 nL mc ms Q) (hlk : meth.locks = false) (hr : meth.sig.returnType = some rt) (hrt : (∃ n, rt = .object n) ∨ ∃ t, rt = .array t) (hd : decode cc pc = .ok (.areturn, 1)) : Snd G p e R s m args below meth c Qf ad0 n0 nL Q pc pc (ti_aret mc ms) := by
  intro J K hJ hK ls st M cu su h
  unfold ti_aret at h
  split at h
  · obtain ⟨hc1, hc2, hq⟩ := h
    intro ad H locs lsA hR hE hl hs hS hL
    refine W.widen hc1 hc2 (hend _ _ _ ?_)
    exact W.aret hx hb hr hrt (va_rf_or _) (fun t ht hW => ⟨ad, M, some _, rfl, by rw [ht]; exact hR, hE, fun x hx9 => by cases hx9; exact okS_hd hs, hq, hS.F ht⟩) hS.2.2 hd hlk
  · exact h.elim
theorem sd_vret {G : jx_G} {p : Program} {e : Env} {R : Room} {s : State} {m : MethodId} {args : Array Value} {below : List Frame} {meth : Method} {c : Code} {Qf : State → Prop} {ad0 : Nat → Nat → Nat} {n0 : Nat → Nat} {nL : Nat} {Q : jx_O → jx_M → Prop} {cc : ByteArray} {pc : Nat} (hx : p.tables.exec = Jvm.exec) (hb : c.code = cc) {mc ms : Nat} (hend : jEnd G p e R s m args below meth c Qf ad0 n0 nL mc ms Q) (hlk : meth.locks = false) (hr : meth.sig.returnType = none) (hd : decode cc pc = .ok (.return_, 1)) : Snd G p e R s m args below meth c Qf ad0 n0 nL Q pc pc (ti_vret mc ms) := by
  intro J K hJ hK ls st M cu su h
  unfold ti_vret at h
  split at h
  · obtain ⟨hc1, hc2, hq⟩ := h
    intro ad H locs lsA hR hE hl hs hS hL
    refine W.widen hc1 hc2 (hend _ _ _ ?_)
    exact W.vret hx hb hr (fun t ht hW => ⟨ad, M, none, rfl, by rw [ht]; exact hR, hE, (fun x hx9 => by cases hx9), hq, hS.F ht⟩) hS.2.2 hd hlk
  · exact h.elim
theorem sd_jret {G : jx_G} {p : Program} {e : Env} {R : Room} {s : State} {m : MethodId} {args : Array Value} {below : List Frame} {meth : Method} {c : Code} {Qf : State → Prop} {ad0 : Nat → Nat → Nat} {n0 : Nat → Nat} {nL : Nat} {Q : jx_O → jx_M → Prop} {cc : ByteArray} {pc : Nat} (hx : p.tables.exec = Jvm.exec) (hb : c.code = cc) {mc ms : Nat} (hend : jEnd G p e R s m args below meth c Qf ad0 n0 nL mc ms Q) (hlk : meth.locks = false) (hr : meth.sig.returnType = some .long) (hd : decode cc pc = .ok (.lreturn, 1)) : Snd G p e R s m args below meth c Qf ad0 n0 nL Q pc pc (ti_jret mc ms) := by
  intro J K hJ hK ls st M cu su h
  unfold ti_jret at h
  split at h
  · obtain ⟨hc1, hc2, hq⟩ := h
    intro ad H locs lsA hR hE hl hs hS hL
    refine W.widen hc1 hc2 (hend _ _ _ ?_)
    exact W.lret hx hb hr (fun t ht hW => ⟨ad, M, some _, rfl, by rw [ht]; exact hR, hE, fun x hx9 => by cases hx9; exact okS_hd hs, hq, hS.F ht⟩) hS.2.2 hd hlk
  · exact h.elim
theorem jsw_spec {x : Int32} {J : Nat → Prop} {d : Nat} : ∀ (lo : Int) (ts : List Nat), jsw x J d lo ts → (∃ t, lo ≤ x.toInt ∧ ts[(x.toInt - lo).toNat]? = some t ∧ J t) ∨ ((x.toInt < lo ∨ lo + ts.length ≤ x.toInt) ∧ J d)
  | lo, [], h => by
    refine Or.inr ⟨?_, h⟩
    simp only [List.length_nil]
    omega
  | lo, t :: ts, h => by
    by_cases hx : x.toInt = lo
    · refine Or.inl ⟨t, by omega, ?_, h.1 hx⟩
      rw [show (x.toInt - lo).toNat = 0 by omega]
      rfl
    · rcases jsw_spec (lo + 1) ts (h.2 hx) with ⟨t', h1, h2, h3⟩ | ⟨h1, h2⟩
      · refine Or.inl ⟨t', by omega, ?_, h3⟩
        rw [show (x.toInt - lo).toNat = (x.toInt - (lo + 1)).toNat + 1 by omega]
        exact h2
      · refine Or.inr ⟨?_, h2⟩
        simp only [List.length_cons]
        omega
theorem sd_tsw {G : jx_G} {p : Program} {e : Env} {R : Room} {s : State} {m : MethodId} {args : Array Value} {below : List Frame} {meth : Method} {c : Code} {Qf : State → Prop} {ad0 : Nat → Nat → Nat} {n0 : Nat → Nat} {nL : Nat} {Q : jx_O → jx_M → Prop} {cc : ByteArray} {pc : Nat} (hx : p.tables.exec = Jvm.exec) (hb : c.code = cc) {dflt lo hi : Int} {offs : Array Int} {len d : Nat} {ts : List Nat} (hd : decode cc pc = .ok (.tableswitch dflt lo hi offs, len)) (hdf : (pc : Int) + dflt = (d : Int)) (hlen : hi + 1 = lo + ts.length) (hsz : offs.toList = ts.map (fun t : Nat => (t : Int) - (pc : Int))) : Snd G p e R s m args below meth c Qf ad0 n0 nL Q pc pc (ti_tsw lo ts d) := by
  intro J K hJ hK ls st M cu su h
  unfold ti_tsw at h
  split at h
  · rename_i x r
    intro ad H locs lsA hR hE hl hs hS hL
    rcases jsw_spec _ _ h with ⟨t, h1, h2, h3⟩ | ⟨h1, h2⟩
    · have hlt : (x.toInt - lo).toNat < ts.length := (List.getElem?_eq_some_iff.mp h2).1
      have ho : offs[(x.toInt - lo).toNat]? = some ((t : Int) - (pc : Int)) := by
        rw [← Array.getElem?_toList, hsz, List.getElem?_map, h2]
        rfl
      exact lv_tableIn hx hb hd (by omega) (by omega) ho (by omega) (hJ _ _ _ _ _ _ h3 ad H locs lsA hR hE hl (okS_tl hs) hS hL)
    · exact lv_tableOut hx hb hd (by omega) hdf (hJ _ _ _ _ _ _ h2 ad H locs lsA hR hE hl (okS_tl hs) hS hL)
  · exact h.elim
theorem cats_le (ad : Nat → Nat → Nat) : ∀ (st : List jx_V), ((st.map (cv ad)).map fun v => v.category).sum ≤ 2 * st.length
  | [] => by simp
  | v :: st => by
    have h1 := cats_le ad st
    have h2 : (cv ad v).category ≤ 2 := by
      rcases lv_cat (cv ad v) with h | h <;> omega
    simp only [List.map_cons, List.sum_cons, List.length_cons]
    omega
theorem sd_oinit {G : jx_G} {p : Program} {e : Env} {R : Room} {s : State} {m : MethodId} {args : Array Value} {below : List Frame} {meth : Method} {c : Code} {Qf : State → Prop} {ad0 : Nat → Nat → Nat} {n0 : Nat → Nat} {nL : Nat} {Q : jx_O → jx_M → Prop} {cc : ByteArray} {pc : Nat} (hx : p.tables.exec = Jvm.exec) (hb : c.code = cc) {own : String} (hown : s.vm.findClass own = some m.cls) (hts : ∀ w ∈ jx_WT, w.before args s = true) (hG : Gs G s) {idx : Nat} (hlk : Cond.methodLink own idx Lib.objectInit ∈ jx_WT) (hin : Cond.instanceMethod Lib.objectInit ∈ jx_WT) (hco : Cond.code Lib.objectInit ⟨#[0xb1]⟩ 1 none ∈ jx_WT) (hml : c.maxLocals = nL) (hRf : 1 ≤ R.frames) (hRl : 20 ≤ R.locals) (hd : decode cc pc = .ok (.invokespecial idx, 3)) : Snd G p e R s m args below meth c Qf ad0 n0 nL Q pc (pc + 3) (ti_oinit) := by
  intro J K hJ hK ls st M cu su h
  unfold ti_oinit at h
  split at h
  · rename_i a r
    obtain ⟨hne, hln, h⟩ := h
    obtain ⟨ar, ao⟩ := a
    intro ad H locs lsA hR hE hl hs hS hL
    cases ao with
    | none => exact absurd rfl hne
    | some i =>
      refine W.objInit hx hb hown (hts _ hlk) (hts _ hin) (hts _ hco) rfl (by rw [hml]; exact hL.1) (a := ad ar i) (rest := r.map (cv ad)) rfl hd hRf ?_ ?_
      · have h8 : ((r.map (cv ad)).map fun v => v.category).sum ≤ 8 := Nat.le_trans (cats_le ad r) (by omega)
        have h9 := lv_room (m := m) (pc := pc) (ls := lsA) (rest := []) h8
        exact Nat.le_trans (Nat.add_le_add_right h9 12) hRl
      · refine W.eq (g2 := F0 m (pc + 3) lsA (r.map (cv ad))) rfl (hK _ _ _ _ _ h ad H locs lsA hR hE hl (okS_tl hs) hS hL)
  · exact h.elim
theorem cv_ext {M : jx_M} {ad ad' : Nat → Nat → Nat} (h : ∀ r i, i < qN M r → ad' r i = ad r i) {v : jx_V} (hv : okA M v) : cv ad' v = cv ad v := by
  rcases v with x | x | ⟨r, o⟩
  · rfl
  · rfl
  · cases o with
    | none => rfl
    | some i =>
      show va_rf (some (ad' r i)) = va_rf (some (ad r i))
      rw [h r i hv]
theorem jExt.trans {ad0 ad ad' : Nat → Nat → Nat} {n0 : Nat → Nat} {M M' : jx_M} (h1 : jExt ad0 n0 ad M) (h2 : jExt ad (qN M) ad' M') : jExt ad0 n0 ad' M' := fun r => ⟨Nat.le_trans (h1 r).1 (h2 r).1, fun i hi => ((h2 r).2 i (Nat.lt_of_lt_of_le hi (h1 r).1)).trans ((h1 r).2 i hi)⟩
theorem LH.ext {ad ad' : Nat → Nat → Nat} {M : jx_M} {lsA : Array Slot} {nL cz : Nat} {ls : jx_L} (hl : okL M ls) (h : LH ad lsA nL cz ls) (hx : ∀ r i, i < qN M r → ad' r i = ad r i) : LH ad' lsA nL cz ls := ⟨h.1, h.2.1, fun i v hi => ⟨by rw [cv_ext hx (hl v (List.mem_of_getElem? hi))]; exact (h.2.2 i v hi).1, (h.2.2 i v hi).2⟩⟩
theorem call_fin {G : jx_G} {p : Program} {e : Env} {R : Room} {s : State} {m : MethodId} {args : Array Value} {below : List Frame} {meth : Method} {c : Code} {Qf : State → Prop} {ad0 : Nat → Nat → Nat} {n0 : Nat → Nat} {nL : Nat} {Q' : jx_O → jx_M → Prop} {pc : Nat} {ls : jx_L} {rest : List jx_V} {st0 : List Value} {M : jx_M} {cu su mc ms : Nat} {ad : Nat → Nat → Nat} {H : Heap} {locs : List Loc} {lsA : Array Slot} {a : Array Value}
    (hr : va_Run p (gl G) e R s m args below meth c H locs cu su mc ms (F0 m pc lsA st0) (rest.map (cv ad)) (QcR G ad (qN M) Q' a) (gF G)) (hE : jExt ad0 n0 ad M) (hl : okL M ls) (hs : okS M rest) (hS : va_S (gF G) s.heap H locs) (hL : LH ad lsA nL c.code.size ls)
    (hK : ∀ v M', Q' (.inl v) M' → Wm G p e R s m args below meth c Qf ad0 n0 nL (pc + 3) ls (v.toList ++ rest) M' (cu + mc) (su + ms)) : W p (gl G) e R s m args below meth c H locs cu su Qf (F0 m pc lsA st0) := by
  intro T hT X
  obtain ⟨v, st₀, t, T', L, h0, X', hLf, e1, e2, ⟨ad', M', v', hv, hR', hE', hok, hQ, hF⟩, stp⟩ := hr T hT X
  have hv2 : v = v'.map (cv ad') := by cases hv; rfl
  subst hv2
  obtain ⟨k1, k2, k3⟩ := vx_keep h0 e1 hS (fun q _ h => h) (fun q h => h) hLf hF
  have hn : ∀ r, qN M r ≤ qN M' r := fun r => (hE' r).1
  have hx : ∀ r i, i < qN M r → ad' r i = ad r i := fun r i hi => (hE' r).2 i hi
  have hsk : (v'.toList ++ rest).map (cv ad') = (v'.map (cv ad')).toList ++ rest.map (cv ad) := by
    rw [List.map_append]
    congr 1
    · cases v' <;> rfl
    · exact List.map_congr_left (fun x hx9 => cv_ext hx (hs x hx9))
  have hs' : okS M' (v'.toList ++ rest) := fun x hx9 => by
    rcases List.mem_append.mp hx9 with h | h
    · exact hok x (by cases v' with
        | none => simp at h
        | some y => simp at h; rw [h])
    · exact okA_congr hn (hs x h)
  obtain ⟨t2, a1, b1⟩ := hK v' M' hQ ad' T'.heap (locs ++ L) lsA (by rw [e1]; exact hR') (hE.trans hE') (okL_congr hn hl) hs' k3 (hL.ext hl hx) T' rfl X'
  rw [hsk] at a1
  exact ⟨t2, stp t2 a1, b1⟩
theorem jx_blind {G : jx_G} {as : List jx_V} {M : jx_M} {ad : Nat → Nat → Nat} : FrameBlind (va_Pc (as.map (cv ad)) (fun U => Gs G U ∧ Rel G ad M U.heap ∧ okS M as)) := fun a U g mk ⟨h1, h2, h3⟩ =>
  ⟨h1, Gs.warm (U := U.calling g mk a) h2 (State.WarmedH.refl U) (Nat.le_refl _) (fun _ _ _ => rfl), h3⟩
def jRm (R : Room) (lv mc ms : Nat) : Prop := lv ≤ R.frames ∧ 32 * lv ≤ R.locals ∧ mc ≤ R.cells ∧ ms ≤ R.slots
theorem jx_goodV {own C : String} {idx : Nat} {y : MethodName} {cd : Cond} (h1 : Cond.methodLink own idx y ∈ jx_WT) (h2 : Cond.instanceMethod y ∈ jx_WT) (h3 : Cond.selects C y y ∈ jx_WT) (h4 : Cond.initialized C ∈ jx_WT) (h5 : cd ∈ jx_WT) : GoodIn jx_WT (wsV own idx C y (cd :: jx_WT)) := jx_WT_good (fun w hw => by
  simp only [wsV, List.cons_append, List.nil_append, List.mem_cons] at hw
  rcases hw with rfl | rfl | rfl | rfl | rfl | hw <;> assumption) (fun _ h => h)
theorem jx_goodS {own : String} {idx : Nat} {y : MethodName} {cd : Cond} (h1 : Cond.methodLink own idx y ∈ jx_WT) (h2 : Cond.static y ∈ jx_WT) (h4 : Cond.initialized y.cls ∈ jx_WT) (h5 : cd ∈ jx_WT) : GoodIn jx_WT (va_wsS own idx y (cd :: jx_WT)) := jx_WT_good (fun w hw => by
  simp only [va_wsS, List.cons_append, List.nil_append, List.mem_cons] at hw
  rcases hw with rfl | rfl | rfl | rfl | hw <;> assumption) (fun _ h => h)
theorem jx_goodC {cd : Cond} (h5 : cd ∈ jx_WT) : GoodIn jx_WT (cd :: jx_WT) := jx_WT_good (fun w hw => by
  simp only [List.mem_cons] at hw
  rcases hw with rfl | hw <;> assumption) (fun _ h => h)
theorem take_rev_len {n : Nat} {st : List jx_V} (h : (st.take n).length = n) {ad : Nat → Nat → Nat} : ((st.take n).reverse.map (cv ad)).length = n := by simpa using h
theorem stack_eq {n : Nat} (st : List jx_V) {ad : Nat → Nat → Nat} : st.map (cv ad) = ((st.take n).reverse.map (cv ad)).reverse ++ (st.drop n).map (cv ad) := by
  rw [← List.map_reverse, List.reverse_reverse, ← List.map_append, List.take_append_drop]
theorem okS_args {M : jx_M} {st : List jx_V} (h : okS M st) (n : Nat) : okS M (st.take n).reverse := fun v hv => h v (List.mem_of_mem_take (List.mem_reverse.mp hv))
theorem okS_rest {M : jx_M} {st : List jx_V} (h : okS M st) (n : Nat) : okS M (st.drop n) := fun v hv => h v (List.mem_of_mem_drop hv)
theorem sd_callS {G : jx_G} {p : Program} {e : Env} {R : Room} {s : State} {m : MethodId} {args : Array Value} {below : List Frame} {meth : Method} {c : Code} {Qf : State → Prop} {ad0 : Nat → Nat → Nat} {n0 : Nat → Nat} {nL : Nat} {Q : jx_O → jx_M → Prop} {cc : ByteArray} {pc : Nat} (hx : p.tables.exec = Jvm.exec) (hb : c.code = cc) {own : String} (hown : s.vm.findClass own = some m.cls) (hts : ∀ w ∈ jx_WT, w.before args s = true) (hG : Gs G s) {y : jx_Y} {idx n lv mc ms mc' ms' : Nat} (hml : c.maxLocals = nL) (hRm : jRm R lv mc ms) (hyc : yMc y = mc') (hys : yMs y = ms') (hlv : yLv y + 1 ≤ lv) (hloc : yL y ≤ 13 ∨ 8 + (yL y + 11) + 32 * yLv y ≤ R.locals) (hlk : Cond.methodLink own idx (yNm y) ∈ jx_WT) (hst : Cond.static (yNm y) ∈ jx_WT) (hini : Cond.initialized (yNm y).cls ∈ jx_WT) (hco : Cond.code (yNm y) (yB y) (yL y) (yRt y) ∈ jx_WT) (hd2 : (yNm y).cls ≠ "java/lang/invoke/MethodHandle" ∧ (yNm y).cls ≠ "java/lang/invoke/VarHandle" ∧ (parseMethodDescriptor (yNm y).desc).map (fun d => d.parameters.length) = some n) (hd : decode cc pc = .ok (.invokestatic idx, 3)) : Snd G p e R s m args below meth c Qf ad0 n0 nL Q pc (pc + 3) (ti_call G y n mc ms mc' ms') := by
  intro J K hJ hK ls st M cu su h
  obtain ⟨hc1, hc2, hn, hlen, h⟩ := h
  intro ad H locs lsA hR hE hl hs hS hL
  subst hyc
  subst hys
  have hrl : (((st.drop n).map (cv ad)).map fun v => v.category).sum ≤ 8 := Nat.le_trans (cats_le ad _) (by omega)
  refine call_fin (rest := st.drop n) (va_runS (As := (st.take n).reverse.map (cv ad)) (nL := nL) (Ts := jx_WT) ⟨hx, hb, hml, hown, hts⟩ (h ad) (va_cwS n hts (jx_goodS hlk hst hini hco) rfl rfl rfl hd2 ⟨by have := hRm.1; show yLv y + 1 ≤ R.frames; omega, by have := hRm.2.1; show 8 + (yL y + 11) + 32 * yLv y ≤ R.locals; omega⟩) ⟨jx_blind, fun U hU hW => ⟨rfl, Gs.warm hG hW (by rw [hU]; exact hS.1) (fun a h1 h2 => by rw [hU]; exact hS.2.1 a h1 h2), by rw [hU]; exact hR, okS_args hs n⟩⟩ rfl (take_rev_len hn) hL.1 (stack_eq st) (lv_room hrl) hd ⟨by have := hRm.2.2.1; omega, by have := hRm.2.2.2; omega⟩) hE hl (okS_rest hs n) hS hL (fun v M' hq => ?_)
  cases v with
  | none => exact hK _ _ _ _ _ hq
  | some v => exact hK _ _ _ _ _ hq
theorem sd_callSN {G : jx_G} {p : Program} {e : Env} {R : Room} {s : State} {m : MethodId} {args : Array Value} {below : List Frame} {meth : Method} {c : Code} {Qf : State → Prop} {ad0 : Nat → Nat → Nat} {n0 : Nat → Nat} {nL : Nat} {Q : jx_O → jx_M → Prop} {cc : ByteArray} {pc : Nat} (hx : p.tables.exec = Jvm.exec) (hb : c.code = cc) {own : String} (hown : s.vm.findClass own = some m.cls) (hts : ∀ w ∈ jx_WT, w.before args s = true) (hG : Gs G s) {y : jx_Y} {idx n lv mc ms mc' ms' : Nat} (hml : c.maxLocals = nL) (hRm : jRm R lv mc ms) (hyc : yMc y = mc') (hys : yMs y = ms') (hlv : yLv y + 1 ≤ lv) (hloc : yL y ≤ 13 ∨ 8 + (yL y + 11) + 32 * yLv y ≤ R.locals) {host : String} (hlk : (own, idx, yNm y, host) ∈ jx_nestM) (hst : Cond.static (yNm y) ∈ jx_WT) (hini : Cond.initialized (yNm y).cls ∈ jx_WT) (hco : Cond.code (yNm y) (yB y) (yL y) (yRt y) ∈ jx_WT) (hd2 : (yNm y).cls ≠ "java/lang/invoke/MethodHandle" ∧ (yNm y).cls ≠ "java/lang/invoke/VarHandle" ∧ (parseMethodDescriptor (yNm y).desc).map (fun d => d.parameters.length) = some n) (hd : decode cc pc = .ok (.invokestatic idx, 3)) : Snd G p e R s m args below meth c Qf ad0 n0 nL Q pc (pc + 3) (ti_call G y n mc ms mc' ms') := by
  intro J K hJ hK ls st M cu su h
  obtain ⟨hc1, hc2, hn, hlen, h⟩ := h
  intro ad H locs lsA hR hE hl hs hS hL
  subst hyc
  subst hys
  have hrl : (((st.drop n).map (cv ad)).map fun v => v.category).sum ≤ 8 := Nat.le_trans (cats_le ad _) (by omega)
  refine call_fin (rest := st.drop n) (va_runSN (As := (st.take n).reverse.map (cv ad)) (nL := nL) (Ts := jx_WT) ⟨hx, hb, hml, hown, hts⟩ (h ad) (⟨va_cnB n hts (jx_goodC hco) rfl rfl rfl (hG.2.2.2.2.2.2.2.2.2.2.2.1 _ hlk) (hts _ hini) hd2 ⟨by have := hRm.1; show yLv y + 1 ≤ R.frames; omega, by have := hRm.2.1; show 8 + (yL y + 11) + 32 * yLv y ≤ R.locals; omega⟩, hts _ hst, trivial⟩) ⟨jx_blind, fun U hU hW => ⟨rfl, Gs.warm hG hW (by rw [hU]; exact hS.1) (fun a h1 h2 => by rw [hU]; exact hS.2.1 a h1 h2), by rw [hU]; exact hR, okS_args hs n⟩⟩ rfl (take_rev_len hn) hL.1 (stack_eq st) (lv_room hrl) hd ⟨by have := hRm.2.2.1; omega, by have := hRm.2.2.2; omega⟩) hE hl (okS_rest hs n) hS hL (fun v M' hq => ?_)
  cases v with
  | none => exact hK _ _ _ _ _ hq
  | some v => exact hK _ _ _ _ _ hq
theorem sd_callV {G : jx_G} {p : Program} {e : Env} {R : Room} {s : State} {m : MethodId} {args : Array Value} {below : List Frame} {meth : Method} {c : Code} {Qf : State → Prop} {ad0 : Nat → Nat → Nat} {n0 : Nat → Nat} {nL : Nat} {Q : jx_O → jx_M → Prop} {cc : ByteArray} {pc : Nat} (hx : p.tables.exec = Jvm.exec) (hb : c.code = cc) {own : String} (hown : s.vm.findClass own = some m.cls) (hts : ∀ w ∈ jx_WT, w.before args s = true) (hG : Gs G s) {y : jx_Y} {idx n lv mc ms mc' ms' : Nat} (hml : c.maxLocals = nL) (hRm : jRm R lv mc ms) (hyc : yMc y = mc') (hys : yMs y = ms') (hlv : yLv y + 1 ≤ lv) (hloc : yL y ≤ 13 ∨ 8 + (yL y + 11) + 32 * yLv y ≤ R.locals) {r : Nat} {C : String} {T : u_T} {N : Nat} (hr11 : r < 11) (hcl : vwCl[r]? = some (C, T, N)) (hlk : Cond.methodLink own idx (yNm y) ∈ jx_WT) (hin : Cond.instanceMethod (yNm y) ∈ jx_WT) (hse : Cond.selects C (yNm y) (yNm y) ∈ jx_WT) (hini : Cond.initialized C ∈ jx_WT) (hyC : (yNm y).cls = C) (hco : Cond.code (yNm y) (yB y) (yL y) (yRt y) ∈ jx_WT) (hd2 : (yNm y).cls ≠ "java/lang/invoke/MethodHandle" ∧ (yNm y).cls ≠ "java/lang/invoke/VarHandle" ∧ (parseMethodDescriptor (yNm y).desc).map (fun d => d.parameters.length) = some n) (hd : decode cc pc = .ok (.invokevirtual idx, 3)) : Snd G p e R s m args below meth c Qf ad0 n0 nL Q pc (pc + 3) (ti_callV G y r n mc ms mc' ms') := by
  intro J K hJ hK ls st M cu su h
  unfold ti_callV at h
  split at h
  · rename_i a q hdr
    obtain ⟨hc1, hc2, hn, hlen, i, rfl, h⟩ := h
    intro ad H locs lsA hR hE hl hs hS hL
    subst hyc
    subst hys
    have hsr : okS M (.inr (.inr (r, some i)) :: q) := by rw [← hdr]; exact okS_rest hs n
    obtain ⟨⟨ws, hP, hD, hcov⟩, hI, hDn, hSt⟩ := id hR
    obtain ⟨q0, hq0⟩ := hcov r i (by omega) (okS_hd hsr)
    rw [cE_obj hr11] at hq0
    have hrl : ((q.map (cv ad)).map fun v => v.category).sum ≤ 8 := Nat.le_trans (cats_le ad _) (by omega)
    have hst9 : st.map (cv ad) = ((st.take n).reverse.map (cv ad)).reverse ++ .ref (ad r i) :: q.map (cv ad) := by
      rw [stack_eq (n := n) st, hdr]
      rfl
    have hok9 : okS M (.inr (.inr (r, some i)) :: (st.take n).reverse) := okS_cons (okS_hd hsr) (okS_args hs n)
    refine call_fin (rest := q) (va_runV (b := ad r i) (As := (st.take n).reverse.map (cv ad)) (nL := nL) (Ts := jx_WT) ⟨hx, hb, hml, hown, hts⟩ (h ad) (cwV n hts (jx_goodV hlk hin hse hini hco) rfl rfl rfl ⟨hyC, hd2⟩ ⟨by have := hRm.1; show yLv y + 1 ≤ R.frames; omega, by have := hRm.2.1; show 8 + (yL y + 11) + 32 * yLv y ≤ R.locals; omega⟩) ⟨jx_blind, va_recv hG.1 hP hcl hq0, fun U hU hW => ⟨rfl, Gs.warm hG hW (by rw [hU]; exact hS.1) (fun a h1 h2 => by rw [hU]; exact hS.2.1 a h1 h2), by rw [hU]; exact hR, hok9⟩⟩ rfl (take_rev_len hn) hL.1 hst9 (lv_room hrl) hd ⟨by have := hRm.2.2.1; omega, by have := hRm.2.2.2; omega⟩) hE hl (okS_tl hsr) hS hL (fun v M' hq => ?_)
    cases v with
    | none => exact hK _ _ _ _ _ hq
    | some v => exact hK _ _ _ _ _ hq
  · exact h.elim
theorem sd_callI {G : jx_G} {p : Program} {e : Env} {R : Room} {s : State} {m : MethodId} {args : Array Value} {below : List Frame} {meth : Method} {c : Code} {Qf : State → Prop} {ad0 : Nat → Nat → Nat} {n0 : Nat → Nat} {nL : Nat} {Q : jx_O → jx_M → Prop} {cc : ByteArray} {pc : Nat} (hx : p.tables.exec = Jvm.exec) (hb : c.code = cc) {own : String} (hown : s.vm.findClass own = some m.cls) (hts : ∀ w ∈ jx_WT, w.before args s = true) (hG : Gs G s) {y : jx_Y} {idx n lv mc ms mc' ms' : Nat} (hml : c.maxLocals = nL) (hRm : jRm R lv mc ms) (hyc : yMc y = mc') (hys : yMs y = ms') (hlv : yLv y + 1 ≤ lv) (hloc : yL y ≤ 13 ∨ 8 + (yL y + 11) + 32 * yLv y ≤ R.locals) {r : Nat}  (hlk : Cond.methodLink own idx (yNm y) ∈ jx_WT) (hin : Cond.instanceMethod (yNm y) ∈ jx_WT) (hini : Cond.initialized (yNm y).cls ∈ jx_WT) (hy1 : (yNm y).name = "<init>") (hrt : yRt y = none) (hco : Cond.code (yNm y) (yB y) (yL y) (yRt y) ∈ jx_WT) (hd2 : (yNm y).cls ≠ "java/lang/invoke/MethodHandle" ∧ (yNm y).cls ≠ "java/lang/invoke/VarHandle" ∧ (parseMethodDescriptor (yNm y).desc).map (fun d => d.parameters.length) = some n) (hd : decode cc pc = .ok (.invokespecial idx, 3)) : Snd G p e R s m args below meth c Qf ad0 n0 nL Q pc (pc + 3) (ti_callV G y r n mc ms mc' ms') := by
  intro J K hJ hK ls st M cu su h
  unfold ti_callV at h
  split at h
  · rename_i a q hdr
    obtain ⟨hc1, hc2, hn, hlen, i, rfl, h⟩ := h
    intro ad H locs lsA hR hE hl hs hS hL
    subst hyc
    subst hys
    have hsr : okS M (.inr (.inr (r, some i)) :: q) := by rw [← hdr]; exact okS_rest hs n
    obtain ⟨⟨ws, hP, hD, hcov⟩, hI, hDn, hSt⟩ := id hR
    skip
    skip
    have hrl : ((q.map (cv ad)).map fun v => v.category).sum ≤ 8 := Nat.le_trans (cats_le ad _) (by omega)
    have hst9 : st.map (cv ad) = ((st.take n).reverse.map (cv ad)).reverse ++ .ref (ad r i) :: q.map (cv ad) := by
      rw [stack_eq (n := n) st, hdr]
      rfl
    have hok9 : okS M (.inr (.inr (r, some i)) :: (st.take n).reverse) := okS_cons (okS_hd hsr) (okS_args hs n)
    refine call_fin (rest := q) (va_runI (b := ad r i) (As := (st.take n).reverse.map (cv ad)) (nL := nL) (Ts := jx_WT) ⟨hx, hb, hml, hown, hts⟩ (h ad) (cwI n hts (jx_goodC hco) (by rw [hrt]) rfl rfl (hts _ hini) (hts _ hlk) (hts _ hin) hy1 hd2 ⟨by have := hRm.1; show yLv y + 1 ≤ R.frames; omega, by have := hRm.2.1; show 8 + (yL y + 11) + 32 * yLv y ≤ R.locals; omega⟩) ⟨jx_blind, fun U hU hW => ⟨rfl, Gs.warm hG hW (by rw [hU]; exact hS.1) (fun a h1 h2 => by rw [hU]; exact hS.2.1 a h1 h2), by rw [hU]; exact hR, hok9⟩⟩ rfl (take_rev_len hn) hL.1 hst9 (lv_room hrl) hd ⟨by have := hRm.2.2.1; omega, by have := hRm.2.2.2; omega⟩) hE hl (okS_tl hsr) hS hL (fun v M' hq => ?_)
    cases v with
    | none => exact hK _ _ _ _ _ hq
    | some v => exact hK _ _ _ _ _ hq
  · exact h.elim
theorem sd_callIN {G : jx_G} {p : Program} {e : Env} {R : Room} {s : State} {m : MethodId} {args : Array Value} {below : List Frame} {meth : Method} {c : Code} {Qf : State → Prop} {ad0 : Nat → Nat → Nat} {n0 : Nat → Nat} {nL : Nat} {Q : jx_O → jx_M → Prop} {cc : ByteArray} {pc : Nat} (hx : p.tables.exec = Jvm.exec) (hb : c.code = cc) {own : String} (hown : s.vm.findClass own = some m.cls) (hts : ∀ w ∈ jx_WT, w.before args s = true) (hG : Gs G s) {y : jx_Y} {idx n lv mc ms mc' ms' : Nat} (hml : c.maxLocals = nL) (hRm : jRm R lv mc ms) (hyc : yMc y = mc') (hys : yMs y = ms') (hlv : yLv y + 1 ≤ lv) (hloc : yL y ≤ 13 ∨ 8 + (yL y + 11) + 32 * yLv y ≤ R.locals) {r : Nat}  {host : String} (hlk : (own, idx, yNm y, host) ∈ jx_nestM) (hin : Cond.instanceMethod (yNm y) ∈ jx_WT) (hini : Cond.initialized (yNm y).cls ∈ jx_WT) (hy1 : (yNm y).name = "<init>") (hrt : yRt y = none) (hco : Cond.code (yNm y) (yB y) (yL y) (yRt y) ∈ jx_WT) (hd2 : (yNm y).cls ≠ "java/lang/invoke/MethodHandle" ∧ (yNm y).cls ≠ "java/lang/invoke/VarHandle" ∧ (parseMethodDescriptor (yNm y).desc).map (fun d => d.parameters.length) = some n) (hd : decode cc pc = .ok (.invokespecial idx, 3)) : Snd G p e R s m args below meth c Qf ad0 n0 nL Q pc (pc + 3) (ti_callV G y r n mc ms mc' ms') := by
  intro J K hJ hK ls st M cu su h
  unfold ti_callV at h
  split at h
  · rename_i a q hdr
    obtain ⟨hc1, hc2, hn, hlen, i, rfl, h⟩ := h
    intro ad H locs lsA hR hE hl hs hS hL
    subst hyc
    subst hys
    have hsr : okS M (.inr (.inr (r, some i)) :: q) := by rw [← hdr]; exact okS_rest hs n
    obtain ⟨⟨ws, hP, hD, hcov⟩, hI, hDn, hSt⟩ := id hR
    skip
    skip
    have hrl : ((q.map (cv ad)).map fun v => v.category).sum ≤ 8 := Nat.le_trans (cats_le ad _) (by omega)
    have hst9 : st.map (cv ad) = ((st.take n).reverse.map (cv ad)).reverse ++ .ref (ad r i) :: q.map (cv ad) := by
      rw [stack_eq (n := n) st, hdr]
      rfl
    have hok9 : okS M (.inr (.inr (r, some i)) :: (st.take n).reverse) := okS_cons (okS_hd hsr) (okS_args hs n)
    refine call_fin (rest := q) (va_runIN (b := ad r i) (As := (st.take n).reverse.map (cv ad)) (nL := nL) (Ts := jx_WT) ⟨hx, hb, hml, hown, hts⟩ (h ad) (⟨va_cnB n hts (jx_goodC hco) (by rw [hrt]) rfl rfl (hG.2.2.2.2.2.2.2.2.2.2.2.1 _ hlk) (hts _ hini) hd2 ⟨by have := hRm.1; show yLv y + 1 ≤ R.frames; omega, by have := hRm.2.1; show 8 + (yL y + 11) + 32 * yLv y ≤ R.locals; omega⟩, hy1, hts _ hin⟩) ⟨jx_blind, fun U hU hW => ⟨rfl, Gs.warm hG hW (by rw [hU]; exact hS.1) (fun a h1 h2 => by rw [hU]; exact hS.2.1 a h1 h2), by rw [hU]; exact hR, hok9⟩⟩ rfl (take_rev_len hn) hL.1 hst9 (lv_room hrl) hd ⟨by have := hRm.2.2.1; omega, by have := hRm.2.2.2; omega⟩) hE hl (okS_tl hsr) hS hL (fun v M' hq => ?_)
    cases v with
    | none => exact hK _ _ _ _ _ hq
    | some v => exact hK _ _ _ _ _ hq
  · exact h.elim
