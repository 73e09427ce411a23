def m_L_draw : jx_Y := (yL_draw, cL_draw, 2, (some .int), 0, 0, 0)
def cd_L_draw (G : jx_G) : jx_C := fun pc => match pc with
  | 0 => ([ti_iload 1, ti_aload 0, ti_lenX (gL G), ti_icmp (fun x y => y ≤ x) 12, ti_aload 0, ti_iload 1, ti_ldX (gX G) (gL G), ti_goto 20], 9)
  | 12 => ([ti_const 15595747, ti_iload 1, ti_bin (fun x y => x * y), ti_const 11689, ti_bin (fun x y => x + y)], 20)
  | 20 => ([ti_const 2147483647, ti_bin (fun x y => x &&& y), ti_iret 0 0], 23)
  | n => ([], n)
set_option maxRecDepth 20000 in
theorem sc_L_draw (G : jx_G) : jCd G m_L_draw (cd_L_draw G) := by
  intro p e R s m args below meth c Qf ad0 n0 Q hcx hend pc
  obtain ⟨hx, hb, hml, hown, hts, hG, hlk, hr, hnm, hRm⟩ := hcx
  have hend : jEnd G p e R s m args below meth c Qf ad0 n0 2 0 0 Q := hend
  have hb : c.code = cL_draw := hb
  have hml : c.maxLocals = 2 := hml
  have hown : s.vm.findClass "LeadCasesLaw" = some m.cls := hown
  have hr : meth.sig.returnType = (some .int) := hr
  have hRm : jRm R 0 0 0 := hRm
  have hlo : glo G ≤ s.heap.size := hG.2.2.2.2.2.2.2.1
  unfold cd_L_draw
  split
  · exact SndL.cons (sd_iload_n (pc := 0) hx hb (by decide +kernel : decode cL_draw 0 = .ok (.iload_n 1, 1)) rfl) (SndL.cons (sd_aload_n (pc := 1) hx hb (by decide +kernel : decode cL_draw 1 = .ok (.aload_n 0, 1)) rfl) (SndL.cons (sd_lenX (pc := 2) hx hb hG (by decide +kernel : decode cL_draw 2 = .ok (.arraylength, 1))) (SndL.cons (sd_icmp_ge (tgt := 12) (pc := 3) hx hb (by decide +kernel : decode cL_draw 3 = .ok (.if_icmp .ge 9, 3)) (by decide)) (SndL.cons (sd_aload_n (pc := 6) hx hb (by decide +kernel : decode cL_draw 6 = .ok (.aload_n 0, 1)) rfl) (SndL.cons (sd_iload_n (pc := 7) hx hb (by decide +kernel : decode cL_draw 7 = .ok (.iload_n 1, 1)) rfl) (SndL.cons (sd_ldX (pc := 8) hx hb hG (by decide +kernel : decode cL_draw 8 = .ok (.iaload, 1))) (SndL.cons (sd_goto (tgt := 20) (pc := 9) hx hb (by decide +kernel : decode cL_draw 9 = .ok (.goto 11, 3)) (by decide)) SndL.nil)))))))
  · exact SndL.cons (sd_ldc (v := 15595747) (pc := 12) hx hb hown hts lk_280 (by decide +kernel : decode cL_draw 12 = .ok (.ldc 7, 2))) (SndL.cons (sd_iload_n (pc := 14) hx hb (by decide +kernel : decode cL_draw 14 = .ok (.iload_n 1, 1)) rfl) (SndL.cons (sd_imul (pc := 15) hx hb (by decide +kernel : decode cL_draw 15 = .ok (.imul, 1))) (SndL.cons (sd_sipush (v := 11689) (pc := 16) hx hb (by decide +kernel : decode cL_draw 16 = .ok (.sipush 11689, 3)) (by decide +kernel)) (SndL.cons (sd_iadd (pc := 19) hx hb (by decide +kernel : decode cL_draw 19 = .ok (.iadd, 1))) SndL.nil))))
  · exact SndL.cons (sd_ldc (v := 2147483647) (pc := 20) hx hb hown hts lk_281 (by decide +kernel : decode cL_draw 20 = .ok (.ldc 8, 2))) (SndL.cons (sd_iand (pc := 22) hx hb (by decide +kernel : decode cL_draw 22 = .ok (.iand, 1))) (SndL.cons (sd_iret (pc := 23) hx hb hend hlk hr (by decide +kernel : decode cL_draw 23 = .ok (.ireturn, 1))) SndL.nil))
  · exact SndL.nil
def hh_L_cast : List (Nat × Nat × Nat × Nat) := [(0, 8, 9, 15), (0, 8, 15, 19), (0, 8, 21, 23)]
def m_L_cast : jx_Y := (yL_cast, cL_cast, 5, (some .long), 8, 40, 360)
def cd_L_cast (G : jx_G) : jx_C := fun pc => match pc with
  | 0 => ([ti_aload 0, ti_iload 1, ti_iload 2, ti_iload 3, ti_callX G m_X9_cast 9 3 40 360 40 360 4 [0, 11, 17, 23], ti_i2l, ti_jret 40 360], 8)
  | 11 => ([ti_lconst (-9000000000000000001), ti_jret 40 360], 14)
  | 17 => ([ti_lconst (-9000000000000000002), ti_jret 40 360], 20)
  | 23 => ([ti_lconst (-9000000000000000003), ti_jret 40 360], 26)
  | n => ([], n)
set_option maxRecDepth 20000 in
theorem sc_L_cast (G : jx_G) : jCdH G m_L_cast hh_L_cast (cd_L_cast G) := by
  intro p e R s m args below meth c Qf ad0 n0 Q hcx htab0 hend pc
  have htab : c.exceptionTable.toList = [⟨0, 8, 9, 15⟩, ⟨0, 8, 15, 19⟩, ⟨0, 8, 21, 23⟩] := htab0
  obtain ⟨hx, hb, hml, hown, hts, hG, hlk, hr, hnm, hRm⟩ := hcx
  have hend : jEnd G p e R s m args below meth c Qf ad0 n0 5 40 360 Q := hend
  have hb : c.code = cL_cast := hb
  have hml : c.maxLocals = 5 := hml
  have hown : s.vm.findClass "LeadCasesLaw" = some m.cls := hown
  have hr : meth.sig.returnType = (some .long) := hr
  have hRm : jRm R 8 40 360 := hRm
  unfold cd_L_cast
  split
  · exact SndL.cons (sd_aload_n (pc := 0) hx hb (by decide +kernel : decode cL_cast 0 = .ok (.aload_n 0, 1)) rfl) (SndL.cons (sd_iload_n (pc := 1) hx hb (by decide +kernel : decode cL_cast 1 = .ok (.iload_n 1, 1)) rfl) (SndL.cons (sd_iload_n (pc := 2) hx hb (by decide +kernel : decode cL_cast 2 = .ok (.iload_n 2, 1)) rfl) (SndL.cons (sd_iload_n (pc := 3) hx hb (by decide +kernel : decode cL_cast 3 = .ok (.iload_n 3, 1)) rfl) (SndL.cons (sd_callX (r := 9) (ev := 4) (hsL := [0, 11, 17, 23]) (C := RX9) (T := TX9) (N := 14) (lv := 8) (mc := 40) (ms := 360) (mc' := 40) (ms' := 360) (y := m_X9_cast) (n := 3) (pc := 4) hx hb hown hts hG hml hRm rfl rfl (by decide) (Or.inl (by decide)) (by decide) rfl lk_288 lk_289 lk_290 lk_30 rfl lk_291 ⟨by decide +kernel, by decide +kernel, by decide +kernel⟩ (fun k hk9 hz9 => by
      rcases hk9 with rfl | rfl | rfl
      · exact fun H9 locs9 c9 s9 lsA rest9 q9 ce9 g1 g2 g3 lv9 g4 kk9 => vx_catch hown [] ⟨0, 8, 9, 15⟩ [⟨0, 8, 15, 19⟩, ⟨0, 8, 21, 23⟩] htab (fun z hz => by cases hz) (by decide) (by decide) (hts _ lk_285) (va_Nw.use rfl (hG.2.2.2.2.2.2.2.2.2.2.2.2.2.1 "java/lang/IndexOutOfBoundsException" (by decide +kernel))) g1 g2 g3 (lv_astore hx hb (by decide +kernel : decode cL_cast 9 = .ok (.astore 4, 2)) g4 (by decide) rfl kk9)
      · exact fun H9 locs9 c9 s9 lsA rest9 q9 ce9 g1 g2 g3 lv9 g4 kk9 => vx_catch hown [⟨0, 8, 9, 15⟩] ⟨0, 8, 15, 19⟩ [⟨0, 8, 21, 23⟩] htab (fun z hz => by rcases List.mem_cons.mp hz with rfl | hz; exact (Or.inr ⟨by decide, "java/lang/IndexOutOfBoundsException", hts _ lk_285, hG.2.2.2.2.2.2.2.2.2.2.2.2.2.2.1 "java/lang/IllegalArgumentException" (by decide +kernel) "java/lang/IndexOutOfBoundsException" (by decide +kernel) (by decide)⟩); cases hz) (by decide) (by decide) (hts _ lk_286) (va_Nw.use rfl (hG.2.2.2.2.2.2.2.2.2.2.2.2.2.1 "java/lang/IllegalArgumentException" (by decide +kernel))) g1 g2 g3 (lv_astore hx hb (by decide +kernel : decode cL_cast 15 = .ok (.astore 4, 2)) g4 (by decide) rfl kk9)
      · exact fun H9 locs9 c9 s9 lsA rest9 q9 ce9 g1 g2 g3 lv9 g4 kk9 => vx_catch hown [⟨0, 8, 9, 15⟩, ⟨0, 8, 15, 19⟩] ⟨0, 8, 21, 23⟩ [] htab (fun z hz => by rcases List.mem_cons.mp hz with rfl | hz; exact (Or.inr ⟨by decide, "java/lang/IndexOutOfBoundsException", hts _ lk_285, hG.2.2.2.2.2.2.2.2.2.2.2.2.2.2.1 "java/lang/IllegalStateException" (by decide +kernel) "java/lang/IndexOutOfBoundsException" (by decide +kernel) (by decide)⟩); rcases List.mem_cons.mp hz with rfl | hz; exact (Or.inr ⟨by decide, "java/lang/IllegalArgumentException", hts _ lk_286, hG.2.2.2.2.2.2.2.2.2.2.2.2.2.2.1 "java/lang/IllegalStateException" (by decide +kernel) "java/lang/IllegalArgumentException" (by decide +kernel) (by decide)⟩); cases hz) (by decide) (by decide) (hts _ lk_287) (va_Nw.use rfl (hG.2.2.2.2.2.2.2.2.2.2.2.2.2.1 "java/lang/IllegalStateException" (by decide +kernel))) g1 g2 g3 (lv_astore hx hb (by decide +kernel : decode cL_cast 21 = .ok (.astore 4, 2)) g4 (by decide) rfl kk9)) (by decide +kernel) (by decide +kernel : decode cL_cast 4 = .ok (.invokevirtual 9, 3))) (SndL.cons (sd_i2l (pc := 7) hx hb (by decide +kernel : decode cL_cast 7 = .ok (.i2l, 1))) (SndL.cons (sd_jret (pc := 8) hx hb hend hlk hr (by decide +kernel : decode cL_cast 8 = .ok (.lreturn, 1))) SndL.nil))))))
  · exact SndL.cons (sd_ldc2 (v := (-9000000000000000001)) (pc := 11) hx hb hown hts lk_462 (by decide +kernel : decode cL_cast 11 = .ok (.ldc2_w 17, 3))) (SndL.cons (sd_jret (pc := 14) hx hb hend hlk hr (by decide +kernel : decode cL_cast 14 = .ok (.lreturn, 1))) SndL.nil)
  · exact SndL.cons (sd_ldc2 (v := (-9000000000000000002)) (pc := 17) hx hb hown hts lk_463 (by decide +kernel : decode cL_cast 17 = .ok (.ldc2_w 21, 3))) (SndL.cons (sd_jret (pc := 20) hx hb hend hlk hr (by decide +kernel : decode cL_cast 20 = .ok (.lreturn, 1))) SndL.nil)
  · exact SndL.cons (sd_ldc2 (v := (-9000000000000000003)) (pc := 23) hx hb hown hts lk_464 (by decide +kernel : decode cL_cast 23 = .ok (.ldc2_w 25, 3))) (SndL.cons (sd_jret (pc := 26) hx hb hend hlk hr (by decide +kernel : decode cL_cast 26 = .ok (.lreturn, 1))) SndL.nil)
  · exact SndL.nil
def hh_L_spaces : List (Nat × Nat × Nat × Nat) := [(0, 7, 8, 19), (0, 7, 13, 23)]
def m_L_spaces : jx_Y := (yL_spaces, cL_spaces, 4, (some .long), 8, 1, 6)
def cd_L_spaces (G : jx_G) : jx_C := fun pc => match pc with
  | 0 => ([ti_aload 0, ti_iload 1, ti_iload 2, ti_callX G m_X9_spaces 9 2 1 6 1 6 3 [0, 0, 9, 14], ti_i2l, ti_jret 1 6], 7)
  | 9 => ([ti_lconst (-9000000000000000002), ti_jret 1 6], 12)
  | 14 => ([ti_lconst (-9000000000000000003), ti_jret 1 6], 17)
  | n => ([], n)
set_option maxRecDepth 20000 in
theorem sc_L_spaces (G : jx_G) : jCdH G m_L_spaces hh_L_spaces (cd_L_spaces G) := by
  intro p e R s m args below meth c Qf ad0 n0 Q hcx htab0 hend pc
  have htab : c.exceptionTable.toList = [⟨0, 7, 8, 19⟩, ⟨0, 7, 13, 23⟩] := htab0
  obtain ⟨hx, hb, hml, hown, hts, hG, hlk, hr, hnm, hRm⟩ := hcx
  have hend : jEnd G p e R s m args below meth c Qf ad0 n0 4 1 6 Q := hend
  have hb : c.code = cL_spaces := hb
  have hml : c.maxLocals = 4 := hml
  have hown : s.vm.findClass "LeadCasesLaw" = some m.cls := hown
  have hr : meth.sig.returnType = (some .long) := hr
  have hRm : jRm R 8 1 6 := hRm
  unfold cd_L_spaces
  split
  · exact SndL.cons (sd_aload_n (pc := 0) hx hb (by decide +kernel : decode cL_spaces 0 = .ok (.aload_n 0, 1)) rfl) (SndL.cons (sd_iload_n (pc := 1) hx hb (by decide +kernel : decode cL_spaces 1 = .ok (.iload_n 1, 1)) rfl) (SndL.cons (sd_iload_n (pc := 2) hx hb (by decide +kernel : decode cL_spaces 2 = .ok (.iload_n 2, 1)) rfl) (SndL.cons (sd_callX (r := 9) (ev := 3) (hsL := [0, 0, 9, 14]) (C := RX9) (T := TX9) (N := 14) (lv := 8) (mc := 1) (ms := 6) (mc' := 1) (ms' := 6) (y := m_X9_spaces) (n := 2) (pc := 3) hx hb hown hts hG hml hRm rfl rfl (by decide) (Or.inl (by decide)) (by decide) rfl lk_468 lk_469 lk_470 lk_30 rfl lk_471 ⟨by decide +kernel, by decide +kernel, by decide +kernel⟩ (fun k hk9 hz9 => by
      rcases hk9 with rfl | rfl | rfl
      · exact absurd rfl hz9
      · exact fun H9 locs9 c9 s9 lsA rest9 q9 ce9 g1 g2 g3 lv9 g4 kk9 => vx_catch hown [] ⟨0, 7, 8, 19⟩ [⟨0, 7, 13, 23⟩] htab (fun z hz => by cases hz) (by decide) (by decide) (hts _ lk_286) (va_Nw.use rfl (hG.2.2.2.2.2.2.2.2.2.2.2.2.2.1 "java/lang/IllegalArgumentException" (by decide +kernel))) g1 g2 g3 (lv_astore_n hx hb (by decide +kernel : decode cL_spaces 8 = .ok (.astore_n 3, 1)) rfl g4 (by decide) rfl kk9)
      · exact fun H9 locs9 c9 s9 lsA rest9 q9 ce9 g1 g2 g3 lv9 g4 kk9 => vx_catch hown [⟨0, 7, 8, 19⟩] ⟨0, 7, 13, 23⟩ [] htab (fun z hz => by rcases List.mem_cons.mp hz with rfl | hz; exact (Or.inr ⟨by decide, "java/lang/IllegalArgumentException", hts _ lk_286, hG.2.2.2.2.2.2.2.2.2.2.2.2.2.2.1 "java/lang/IllegalStateException" (by decide +kernel) "java/lang/IllegalArgumentException" (by decide +kernel) (by decide)⟩); cases hz) (by decide) (by decide) (hts _ lk_287) (va_Nw.use rfl (hG.2.2.2.2.2.2.2.2.2.2.2.2.2.1 "java/lang/IllegalStateException" (by decide +kernel))) g1 g2 g3 (lv_astore_n hx hb (by decide +kernel : decode cL_spaces 13 = .ok (.astore_n 3, 1)) rfl g4 (by decide) rfl kk9)) (by decide +kernel) (by decide +kernel : decode cL_spaces 3 = .ok (.invokevirtual 27, 3))) (SndL.cons (sd_i2l (pc := 6) hx hb (by decide +kernel : decode cL_spaces 6 = .ok (.i2l, 1))) (SndL.cons (sd_jret (pc := 7) hx hb hend hlk hr (by decide +kernel : decode cL_spaces 7 = .ok (.lreturn, 1))) SndL.nil)))))
  · exact SndL.cons (sd_ldc2 (v := (-9000000000000000002)) (pc := 9) hx hb hown hts lk_463 (by decide +kernel : decode cL_spaces 9 = .ok (.ldc2_w 21, 3))) (SndL.cons (sd_jret (pc := 12) hx hb hend hlk hr (by decide +kernel : decode cL_spaces 12 = .ok (.lreturn, 1))) SndL.nil)
  · exact SndL.cons (sd_ldc2 (v := (-9000000000000000003)) (pc := 14) hx hb hown hts lk_464 (by decide +kernel : decode cL_spaces 14 = .ok (.ldc2_w 25, 3))) (SndL.cons (sd_jret (pc := 17) hx hb hend hlk hr (by decide +kernel : decode cL_spaces 17 = .ok (.lreturn, 1))) SndL.nil)
  · exact SndL.nil
def hh_L_type : List (Nat × Nat × Nat × Nat) := [(0, 7, 8, 19), (0, 7, 13, 23)]
def m_L_type : jx_Y := (yL_type, cL_type, 3, (some .long), 8, 1, 6)
def cd_L_type (G : jx_G) : jx_C := fun pc => match pc with
  | 0 => ([ti_aload 0, ti_iload 1, ti_i2c, ti_callX G m_X9_type 9 1 1 6 1 6 2 [0, 0, 9, 14], ti_i2l, ti_jret 1 6], 7)
  | 9 => ([ti_lconst (-9000000000000000002), ti_jret 1 6], 12)
  | 14 => ([ti_lconst (-9000000000000000003), ti_jret 1 6], 17)
  | n => ([], n)
set_option maxRecDepth 20000 in
theorem sc_L_type (G : jx_G) : jCdH G m_L_type hh_L_type (cd_L_type G) := by
  intro p e R s m args below meth c Qf ad0 n0 Q hcx htab0 hend pc
  have htab : c.exceptionTable.toList = [⟨0, 7, 8, 19⟩, ⟨0, 7, 13, 23⟩] := htab0
  obtain ⟨hx, hb, hml, hown, hts, hG, hlk, hr, hnm, hRm⟩ := hcx
  have hend : jEnd G p e R s m args below meth c Qf ad0 n0 3 1 6 Q := hend
  have hb : c.code = cL_type := hb
  have hml : c.maxLocals = 3 := hml
  have hown : s.vm.findClass "LeadCasesLaw" = some m.cls := hown
  have hr : meth.sig.returnType = (some .long) := hr
  have hRm : jRm R 8 1 6 := hRm
  unfold cd_L_type
  split
  · exact SndL.cons (sd_aload_n (pc := 0) hx hb (by decide +kernel : decode cL_type 0 = .ok (.aload_n 0, 1)) rfl) (SndL.cons (sd_iload_n (pc := 1) hx hb (by decide +kernel : decode cL_type 1 = .ok (.iload_n 1, 1)) rfl) (SndL.cons (sd_i2c (pc := 2) hx hb (by decide +kernel : decode cL_type 2 = .ok (.i2c, 1))) (SndL.cons (sd_callX (r := 9) (ev := 2) (hsL := [0, 0, 9, 14]) (C := RX9) (T := TX9) (N := 14) (lv := 8) (mc := 1) (ms := 6) (mc' := 1) (ms' := 6) (y := m_X9_type) (n := 1) (pc := 3) hx hb hown hts hG hml hRm rfl rfl (by decide) (Or.inl (by decide)) (by decide) rfl lk_489 lk_490 lk_491 lk_30 rfl lk_492 ⟨by decide +kernel, by decide +kernel, by decide +kernel⟩ (fun k hk9 hz9 => by
      rcases hk9 with rfl | rfl | rfl
      · exact absurd rfl hz9
      · exact fun H9 locs9 c9 s9 lsA rest9 q9 ce9 g1 g2 g3 lv9 g4 kk9 => vx_catch hown [] ⟨0, 7, 8, 19⟩ [⟨0, 7, 13, 23⟩] htab (fun z hz => by cases hz) (by decide) (by decide) (hts _ lk_286) (va_Nw.use rfl (hG.2.2.2.2.2.2.2.2.2.2.2.2.2.1 "java/lang/IllegalArgumentException" (by decide +kernel))) g1 g2 g3 (lv_astore_n hx hb (by decide +kernel : decode cL_type 8 = .ok (.astore_n 2, 1)) rfl g4 (by decide) rfl kk9)
      · exact fun H9 locs9 c9 s9 lsA rest9 q9 ce9 g1 g2 g3 lv9 g4 kk9 => vx_catch hown [⟨0, 7, 8, 19⟩] ⟨0, 7, 13, 23⟩ [] htab (fun z hz => by rcases List.mem_cons.mp hz with rfl | hz; exact (Or.inr ⟨by decide, "java/lang/IllegalArgumentException", hts _ lk_286, hG.2.2.2.2.2.2.2.2.2.2.2.2.2.2.1 "java/lang/IllegalStateException" (by decide +kernel) "java/lang/IllegalArgumentException" (by decide +kernel) (by decide)⟩); cases hz) (by decide) (by decide) (hts _ lk_287) (va_Nw.use rfl (hG.2.2.2.2.2.2.2.2.2.2.2.2.2.1 "java/lang/IllegalStateException" (by decide +kernel))) g1 g2 g3 (lv_astore_n hx hb (by decide +kernel : decode cL_type 13 = .ok (.astore_n 2, 1)) rfl g4 (by decide) rfl kk9)) (by decide +kernel) (by decide +kernel : decode cL_type 3 = .ok (.invokevirtual 31, 3))) (SndL.cons (sd_i2l (pc := 6) hx hb (by decide +kernel : decode cL_type 6 = .ok (.i2l, 1))) (SndL.cons (sd_jret (pc := 7) hx hb hend hlk hr (by decide +kernel : decode cL_type 7 = .ok (.lreturn, 1))) SndL.nil)))))
  · exact SndL.cons (sd_ldc2 (v := (-9000000000000000002)) (pc := 9) hx hb hown hts lk_463 (by decide +kernel : decode cL_type 9 = .ok (.ldc2_w 21, 3))) (SndL.cons (sd_jret (pc := 12) hx hb hend hlk hr (by decide +kernel : decode cL_type 12 = .ok (.lreturn, 1))) SndL.nil)
  · exact SndL.cons (sd_ldc2 (v := (-9000000000000000003)) (pc := 14) hx hb hown hts lk_464 (by decide +kernel : decode cL_type 14 = .ok (.ldc2_w 25, 3))) (SndL.cons (sd_jret (pc := 17) hx hb hend hlk hr (by decide +kernel : decode cL_type 17 = .ok (.lreturn, 1))) SndL.nil)
  · exact SndL.nil
def hh_L_measure : List (Nat × Nat × Nat × Nat) := [(0, 6, 7, 19), (0, 6, 12, 23)]
def m_L_measure : jx_Y := (yL_measure, cL_measure, 3, (some .long), 8, 1, 6)
def cd_L_measure (G : jx_G) : jx_C := fun pc => match pc with
  | 0 => ([ti_aload 0, ti_iload 1, ti_callX G m_X9_measure 9 1 1 6 1 6 2 [0, 0, 8, 13], ti_i2l, ti_jret 1 6], 6)
  | 8 => ([ti_lconst (-9000000000000000002), ti_jret 1 6], 11)
  | 13 => ([ti_lconst (-9000000000000000003), ti_jret 1 6], 16)
  | n => ([], n)
set_option maxRecDepth 20000 in
theorem sc_L_measure (G : jx_G) : jCdH G m_L_measure hh_L_measure (cd_L_measure G) := by
  intro p e R s m args below meth c Qf ad0 n0 Q hcx htab0 hend pc
  have htab : c.exceptionTable.toList = [⟨0, 6, 7, 19⟩, ⟨0, 6, 12, 23⟩] := htab0
  obtain ⟨hx, hb, hml, hown, hts, hG, hlk, hr, hnm, hRm⟩ := hcx
  have hend : jEnd G p e R s m args below meth c Qf ad0 n0 3 1 6 Q := hend
  have hb : c.code = cL_measure := hb
  have hml : c.maxLocals = 3 := hml
  have hown : s.vm.findClass "LeadCasesLaw" = some m.cls := hown
  have hr : meth.sig.returnType = (some .long) := hr
  have hRm : jRm R 8 1 6 := hRm
  unfold cd_L_measure
  split
  · exact SndL.cons (sd_aload_n (pc := 0) hx hb (by decide +kernel : decode cL_measure 0 = .ok (.aload_n 0, 1)) rfl) (SndL.cons (sd_iload_n (pc := 1) hx hb (by decide +kernel : decode cL_measure 1 = .ok (.iload_n 1, 1)) rfl) (SndL.cons (sd_callX (r := 9) (ev := 2) (hsL := [0, 0, 8, 13]) (C := RX9) (T := TX9) (N := 14) (lv := 8) (mc := 1) (ms := 6) (mc' := 1) (ms' := 6) (y := m_X9_measure) (n := 1) (pc := 2) hx hb hown hts hG hml hRm rfl rfl (by decide) (Or.inl (by decide)) (by decide) rfl lk_509 lk_510 lk_511 lk_30 rfl lk_512 ⟨by decide +kernel, by decide +kernel, by decide +kernel⟩ (fun k hk9 hz9 => by
      rcases hk9 with rfl | rfl | rfl
      · exact absurd rfl hz9
      · exact fun H9 locs9 c9 s9 lsA rest9 q9 ce9 g1 g2 g3 lv9 g4 kk9 => vx_catch hown [] ⟨0, 6, 7, 19⟩ [⟨0, 6, 12, 23⟩] htab (fun z hz => by cases hz) (by decide) (by decide) (hts _ lk_286) (va_Nw.use rfl (hG.2.2.2.2.2.2.2.2.2.2.2.2.2.1 "java/lang/IllegalArgumentException" (by decide +kernel))) g1 g2 g3 (lv_astore_n hx hb (by decide +kernel : decode cL_measure 7 = .ok (.astore_n 2, 1)) rfl g4 (by decide) rfl kk9)
      · exact fun H9 locs9 c9 s9 lsA rest9 q9 ce9 g1 g2 g3 lv9 g4 kk9 => vx_catch hown [⟨0, 6, 7, 19⟩] ⟨0, 6, 12, 23⟩ [] htab (fun z hz => by rcases List.mem_cons.mp hz with rfl | hz; exact (Or.inr ⟨by decide, "java/lang/IllegalArgumentException", hts _ lk_286, hG.2.2.2.2.2.2.2.2.2.2.2.2.2.2.1 "java/lang/IllegalStateException" (by decide +kernel) "java/lang/IllegalArgumentException" (by decide +kernel) (by decide)⟩); cases hz) (by decide) (by decide) (hts _ lk_287) (va_Nw.use rfl (hG.2.2.2.2.2.2.2.2.2.2.2.2.2.1 "java/lang/IllegalStateException" (by decide +kernel))) g1 g2 g3 (lv_astore_n hx hb (by decide +kernel : decode cL_measure 12 = .ok (.astore_n 2, 1)) rfl g4 (by decide) rfl kk9)) (by decide +kernel) (by decide +kernel : decode cL_measure 2 = .ok (.invokevirtual 35, 3))) (SndL.cons (sd_i2l (pc := 5) hx hb (by decide +kernel : decode cL_measure 5 = .ok (.i2l, 1))) (SndL.cons (sd_jret (pc := 6) hx hb hend hlk hr (by decide +kernel : decode cL_measure 6 = .ok (.lreturn, 1))) SndL.nil))))
  · exact SndL.cons (sd_ldc2 (v := (-9000000000000000002)) (pc := 8) hx hb hown hts lk_463 (by decide +kernel : decode cL_measure 8 = .ok (.ldc2_w 21, 3))) (SndL.cons (sd_jret (pc := 11) hx hb hend hlk hr (by decide +kernel : decode cL_measure 11 = .ok (.lreturn, 1))) SndL.nil)
  · exact SndL.cons (sd_ldc2 (v := (-9000000000000000003)) (pc := 13) hx hb hown hts lk_464 (by decide +kernel : decode cL_measure 13 = .ok (.ldc2_w 25, 3))) (SndL.cons (sd_jret (pc := 16) hx hb hend hlk hr (by decide +kernel : decode cL_measure 16 = .ok (.lreturn, 1))) SndL.nil)
  · exact SndL.nil
def hh_L_set : List (Nat × Nat × Nat × Nat) := [(0, 7, 8, 15), (0, 7, 13, 23)]
def m_L_set : jx_Y := (yL_set, cL_set, 4, (some .long), 8, 1, 6)
def cd_L_set (G : jx_G) : jx_C := fun pc => match pc with
  | 0 => ([ti_aload 0, ti_iload 1, ti_iload 2, ti_callX G m_X9_set 9 2 1 6 1 6 3 [0, 9, 0, 14], ti_i2l, ti_jret 1 6], 7)
  | 9 => ([ti_lconst (-9000000000000000001), ti_jret 1 6], 12)
  | 14 => ([ti_lconst (-9000000000000000003), ti_jret 1 6], 17)
  | n => ([], n)
set_option maxRecDepth 20000 in
theorem sc_L_set (G : jx_G) : jCdH G m_L_set hh_L_set (cd_L_set G) := by
  intro p e R s m args below meth c Qf ad0 n0 Q hcx htab0 hend pc
  have htab : c.exceptionTable.toList = [⟨0, 7, 8, 15⟩, ⟨0, 7, 13, 23⟩] := htab0
  obtain ⟨hx, hb, hml, hown, hts, hG, hlk, hr, hnm, hRm⟩ := hcx
  have hend : jEnd G p e R s m args below meth c Qf ad0 n0 4 1 6 Q := hend
  have hb : c.code = cL_set := hb
  have hml : c.maxLocals = 4 := hml
  have hown : s.vm.findClass "LeadCasesLaw" = some m.cls := hown
  have hr : meth.sig.returnType = (some .long) := hr
  have hRm : jRm R 8 1 6 := hRm
  unfold cd_L_set
  split
  · exact SndL.cons (sd_aload_n (pc := 0) hx hb (by decide +kernel : decode cL_set 0 = .ok (.aload_n 0, 1)) rfl) (SndL.cons (sd_iload_n (pc := 1) hx hb (by decide +kernel : decode cL_set 1 = .ok (.iload_n 1, 1)) rfl) (SndL.cons (sd_iload_n (pc := 2) hx hb (by decide +kernel : decode cL_set 2 = .ok (.iload_n 2, 1)) rfl) (SndL.cons (sd_callX (r := 9) (ev := 3) (hsL := [0, 9, 0, 14]) (C := RX9) (T := TX9) (N := 14) (lv := 8) (mc := 1) (ms := 6) (mc' := 1) (ms' := 6) (y := m_X9_set) (n := 2) (pc := 3) hx hb hown hts hG hml hRm rfl rfl (by decide) (Or.inl (by decide)) (by decide) rfl lk_518 lk_519 lk_520 lk_30 rfl lk_521 ⟨by decide +kernel, by decide +kernel, by decide +kernel⟩ (fun k hk9 hz9 => by
      rcases hk9 with rfl | rfl | rfl
      · exact fun H9 locs9 c9 s9 lsA rest9 q9 ce9 g1 g2 g3 lv9 g4 kk9 => vx_catch hown [] ⟨0, 7, 8, 15⟩ [⟨0, 7, 13, 23⟩] htab (fun z hz => by cases hz) (by decide) (by decide) (hts _ lk_285) (va_Nw.use rfl (hG.2.2.2.2.2.2.2.2.2.2.2.2.2.1 "java/lang/IndexOutOfBoundsException" (by decide +kernel))) g1 g2 g3 (lv_astore_n hx hb (by decide +kernel : decode cL_set 8 = .ok (.astore_n 3, 1)) rfl g4 (by decide) rfl kk9)
      · exact absurd rfl hz9
      · exact fun H9 locs9 c9 s9 lsA rest9 q9 ce9 g1 g2 g3 lv9 g4 kk9 => vx_catch hown [⟨0, 7, 8, 15⟩] ⟨0, 7, 13, 23⟩ [] htab (fun z hz => by rcases List.mem_cons.mp hz with rfl | hz; exact (Or.inr ⟨by decide, "java/lang/IndexOutOfBoundsException", hts _ lk_285, hG.2.2.2.2.2.2.2.2.2.2.2.2.2.2.1 "java/lang/IllegalStateException" (by decide +kernel) "java/lang/IndexOutOfBoundsException" (by decide +kernel) (by decide)⟩); cases hz) (by decide) (by decide) (hts _ lk_287) (va_Nw.use rfl (hG.2.2.2.2.2.2.2.2.2.2.2.2.2.1 "java/lang/IllegalStateException" (by decide +kernel))) g1 g2 g3 (lv_astore_n hx hb (by decide +kernel : decode cL_set 13 = .ok (.astore_n 3, 1)) rfl g4 (by decide) rfl kk9)) (by decide +kernel) (by decide +kernel : decode cL_set 3 = .ok (.invokevirtual 39, 3))) (SndL.cons (sd_i2l (pc := 6) hx hb (by decide +kernel : decode cL_set 6 = .ok (.i2l, 1))) (SndL.cons (sd_jret (pc := 7) hx hb hend hlk hr (by decide +kernel : decode cL_set 7 = .ok (.lreturn, 1))) SndL.nil)))))
  · exact SndL.cons (sd_ldc2 (v := (-9000000000000000001)) (pc := 9) hx hb hown hts lk_462 (by decide +kernel : decode cL_set 9 = .ok (.ldc2_w 17, 3))) (SndL.cons (sd_jret (pc := 12) hx hb hend hlk hr (by decide +kernel : decode cL_set 12 = .ok (.lreturn, 1))) SndL.nil)
  · exact SndL.cons (sd_ldc2 (v := (-9000000000000000003)) (pc := 14) hx hb hown hts lk_464 (by decide +kernel : decode cL_set 14 = .ok (.ldc2_w 25, 3))) (SndL.cons (sd_jret (pc := 17) hx hb hend hlk hr (by decide +kernel : decode cL_set 17 = .ok (.lreturn, 1))) SndL.nil)
  · exact SndL.nil
def hh_L_mend : List (Nat × Nat × Nat × Nat) := [(0, 7, 8, 15), (0, 7, 13, 23)]
def m_L_mend : jx_Y := (yL_mend, cL_mend, 4, (some .long), 8, 1, 6)
def cd_L_mend (G : jx_G) : jx_C := fun pc => match pc with
  | 0 => ([ti_aload 0, ti_iload 1, ti_iload 2, ti_callX G m_X9_mend 9 2 1 6 1 6 3 [0, 9, 0, 14], ti_i2l, ti_jret 1 6], 7)
  | 9 => ([ti_lconst (-9000000000000000001), ti_jret 1 6], 12)
  | 14 => ([ti_lconst (-9000000000000000003), ti_jret 1 6], 17)
  | n => ([], n)
set_option maxRecDepth 20000 in
theorem sc_L_mend (G : jx_G) : jCdH G m_L_mend hh_L_mend (cd_L_mend G) := by
  intro p e R s m args below meth c Qf ad0 n0 Q hcx htab0 hend pc
  have htab : c.exceptionTable.toList = [⟨0, 7, 8, 15⟩, ⟨0, 7, 13, 23⟩] := htab0
  obtain ⟨hx, hb, hml, hown, hts, hG, hlk, hr, hnm, hRm⟩ := hcx
  have hend : jEnd G p e R s m args below meth c Qf ad0 n0 4 1 6 Q := hend
  have hb : c.code = cL_mend := hb
  have hml : c.maxLocals = 4 := hml
  have hown : s.vm.findClass "LeadCasesLaw" = some m.cls := hown
  have hr : meth.sig.returnType = (some .long) := hr
  have hRm : jRm R 8 1 6 := hRm
  unfold cd_L_mend
  split
  · exact SndL.cons (sd_aload_n (pc := 0) hx hb (by decide +kernel : decode cL_mend 0 = .ok (.aload_n 0, 1)) rfl) (SndL.cons (sd_iload_n (pc := 1) hx hb (by decide +kernel : decode cL_mend 1 = .ok (.iload_n 1, 1)) rfl) (SndL.cons (sd_iload_n (pc := 2) hx hb (by decide +kernel : decode cL_mend 2 = .ok (.iload_n 2, 1)) rfl) (SndL.cons (sd_callX (r := 9) (ev := 3) (hsL := [0, 9, 0, 14]) (C := RX9) (T := TX9) (N := 14) (lv := 8) (mc := 1) (ms := 6) (mc' := 1) (ms' := 6) (y := m_X9_mend) (n := 2) (pc := 3) hx hb hown hts hG hml hRm rfl rfl (by decide) (Or.inl (by decide)) (by decide) rfl lk_641 lk_642 lk_643 lk_30 rfl lk_644 ⟨by decide +kernel, by decide +kernel, by decide +kernel⟩ (fun k hk9 hz9 => by
      rcases hk9 with rfl | rfl | rfl
      · exact fun H9 locs9 c9 s9 lsA rest9 q9 ce9 g1 g2 g3 lv9 g4 kk9 => vx_catch hown [] ⟨0, 7, 8, 15⟩ [⟨0, 7, 13, 23⟩] htab (fun z hz => by cases hz) (by decide) (by decide) (hts _ lk_285) (va_Nw.use rfl (hG.2.2.2.2.2.2.2.2.2.2.2.2.2.1 "java/lang/IndexOutOfBoundsException" (by decide +kernel))) g1 g2 g3 (lv_astore_n hx hb (by decide +kernel : decode cL_mend 8 = .ok (.astore_n 3, 1)) rfl g4 (by decide) rfl kk9)
      · exact absurd rfl hz9
      · exact fun H9 locs9 c9 s9 lsA rest9 q9 ce9 g1 g2 g3 lv9 g4 kk9 => vx_catch hown [⟨0, 7, 8, 15⟩] ⟨0, 7, 13, 23⟩ [] htab (fun z hz => by rcases List.mem_cons.mp hz with rfl | hz; exact (Or.inr ⟨by decide, "java/lang/IndexOutOfBoundsException", hts _ lk_285, hG.2.2.2.2.2.2.2.2.2.2.2.2.2.2.1 "java/lang/IllegalStateException" (by decide +kernel) "java/lang/IndexOutOfBoundsException" (by decide +kernel) (by decide)⟩); cases hz) (by decide) (by decide) (hts _ lk_287) (va_Nw.use rfl (hG.2.2.2.2.2.2.2.2.2.2.2.2.2.1 "java/lang/IllegalStateException" (by decide +kernel))) g1 g2 g3 (lv_astore_n hx hb (by decide +kernel : decode cL_mend 13 = .ok (.astore_n 3, 1)) rfl g4 (by decide) rfl kk9)) (by decide +kernel) (by decide +kernel : decode cL_mend 3 = .ok (.invokevirtual 43, 3))) (SndL.cons (sd_i2l (pc := 6) hx hb (by decide +kernel : decode cL_mend 6 = .ok (.i2l, 1))) (SndL.cons (sd_jret (pc := 7) hx hb hend hlk hr (by decide +kernel : decode cL_mend 7 = .ok (.lreturn, 1))) SndL.nil)))))
  · exact SndL.cons (sd_ldc2 (v := (-9000000000000000001)) (pc := 9) hx hb hown hts lk_462 (by decide +kernel : decode cL_mend 9 = .ok (.ldc2_w 17, 3))) (SndL.cons (sd_jret (pc := 12) hx hb hend hlk hr (by decide +kernel : decode cL_mend 12 = .ok (.lreturn, 1))) SndL.nil)
  · exact SndL.cons (sd_ldc2 (v := (-9000000000000000003)) (pc := 14) hx hb hown hts lk_464 (by decide +kernel : decode cL_mend 14 = .ok (.ldc2_w 25, 3))) (SndL.cons (sd_jret (pc := 17) hx hb hend hlk hr (by decide +kernel : decode cL_mend 17 = .ok (.lreturn, 1))) SndL.nil)
  · exact SndL.nil
def hh_L_putBack : List (Nat × Nat × Nat × Nat) := [(0, 6, 7, 15), (0, 6, 12, 23)]
def m_L_putBack : jx_Y := (yL_putBack, cL_putBack, 3, (some .long), 8, 1, 6)
def cd_L_putBack (G : jx_G) : jx_C := fun pc => match pc with
  | 0 => ([ti_aload 0, ti_iload 1, ti_callX G m_X9_putBack 9 1 1 6 1 6 2 [0, 8, 0, 13], ti_i2l, ti_jret 1 6], 6)
  | 8 => ([ti_lconst (-9000000000000000001), ti_jret 1 6], 11)
  | 13 => ([ti_lconst (-9000000000000000003), ti_jret 1 6], 16)
  | n => ([], n)
set_option maxRecDepth 20000 in
theorem sc_L_putBack (G : jx_G) : jCdH G m_L_putBack hh_L_putBack (cd_L_putBack G) := by
  intro p e R s m args below meth c Qf ad0 n0 Q hcx htab0 hend pc
  have htab : c.exceptionTable.toList = [⟨0, 6, 7, 15⟩, ⟨0, 6, 12, 23⟩] := htab0
  obtain ⟨hx, hb, hml, hown, hts, hG, hlk, hr, hnm, hRm⟩ := hcx
  have hend : jEnd G p e R s m args below meth c Qf ad0 n0 3 1 6 Q := hend
  have hb : c.code = cL_putBack := hb
  have hml : c.maxLocals = 3 := hml
  have hown : s.vm.findClass "LeadCasesLaw" = some m.cls := hown
  have hr : meth.sig.returnType = (some .long) := hr
  have hRm : jRm R 8 1 6 := hRm
  unfold cd_L_putBack
  split
  · exact SndL.cons (sd_aload_n (pc := 0) hx hb (by decide +kernel : decode cL_putBack 0 = .ok (.aload_n 0, 1)) rfl) (SndL.cons (sd_iload_n (pc := 1) hx hb (by decide +kernel : decode cL_putBack 1 = .ok (.iload_n 1, 1)) rfl) (SndL.cons (sd_callX (r := 9) (ev := 2) (hsL := [0, 8, 0, 13]) (C := RX9) (T := TX9) (N := 14) (lv := 8) (mc := 1) (ms := 6) (mc' := 1) (ms' := 6) (y := m_X9_putBack) (n := 1) (pc := 2) hx hb hown hts hG hml hRm rfl rfl (by decide) (Or.inl (by decide)) (by decide) rfl lk_709 lk_710 lk_711 lk_30 rfl lk_712 ⟨by decide +kernel, by decide +kernel, by decide +kernel⟩ (fun k hk9 hz9 => by
      rcases hk9 with rfl | rfl | rfl
      · exact fun H9 locs9 c9 s9 lsA rest9 q9 ce9 g1 g2 g3 lv9 g4 kk9 => vx_catch hown [] ⟨0, 6, 7, 15⟩ [⟨0, 6, 12, 23⟩] htab (fun z hz => by cases hz) (by decide) (by decide) (hts _ lk_285) (va_Nw.use rfl (hG.2.2.2.2.2.2.2.2.2.2.2.2.2.1 "java/lang/IndexOutOfBoundsException" (by decide +kernel))) g1 g2 g3 (lv_astore_n hx hb (by decide +kernel : decode cL_putBack 7 = .ok (.astore_n 2, 1)) rfl g4 (by decide) rfl kk9)
      · exact absurd rfl hz9
      · exact fun H9 locs9 c9 s9 lsA rest9 q9 ce9 g1 g2 g3 lv9 g4 kk9 => vx_catch hown [⟨0, 6, 7, 15⟩] ⟨0, 6, 12, 23⟩ [] htab (fun z hz => by rcases List.mem_cons.mp hz with rfl | hz; exact (Or.inr ⟨by decide, "java/lang/IndexOutOfBoundsException", hts _ lk_285, hG.2.2.2.2.2.2.2.2.2.2.2.2.2.2.1 "java/lang/IllegalStateException" (by decide +kernel) "java/lang/IndexOutOfBoundsException" (by decide +kernel) (by decide)⟩); cases hz) (by decide) (by decide) (hts _ lk_287) (va_Nw.use rfl (hG.2.2.2.2.2.2.2.2.2.2.2.2.2.1 "java/lang/IllegalStateException" (by decide +kernel))) g1 g2 g3 (lv_astore_n hx hb (by decide +kernel : decode cL_putBack 12 = .ok (.astore_n 2, 1)) rfl g4 (by decide) rfl kk9)) (by decide +kernel) (by decide +kernel : decode cL_putBack 2 = .ok (.invokevirtual 46, 3))) (SndL.cons (sd_i2l (pc := 5) hx hb (by decide +kernel : decode cL_putBack 5 = .ok (.i2l, 1))) (SndL.cons (sd_jret (pc := 6) hx hb hend hlk hr (by decide +kernel : decode cL_putBack 6 = .ok (.lreturn, 1))) SndL.nil))))
  · exact SndL.cons (sd_ldc2 (v := (-9000000000000000001)) (pc := 8) hx hb hown hts lk_462 (by decide +kernel : decode cL_putBack 8 = .ok (.ldc2_w 17, 3))) (SndL.cons (sd_jret (pc := 11) hx hb hend hlk hr (by decide +kernel : decode cL_putBack 11 = .ok (.lreturn, 1))) SndL.nil)
  · exact SndL.cons (sd_ldc2 (v := (-9000000000000000003)) (pc := 13) hx hb hown hts lk_464 (by decide +kernel : decode cL_putBack 13 = .ok (.ldc2_w 25, 3))) (SndL.cons (sd_jret (pc := 16) hx hb hend hlk hr (by decide +kernel : decode cL_putBack 16 = .ok (.lreturn, 1))) SndL.nil)
  · exact SndL.nil
def hh_L_foul : List (Nat × Nat × Nat × Nat) := [(0, 8, 9, 15), (0, 8, 15, 19), (0, 8, 21, 23)]
def m_L_foul : jx_Y := (yL_foul, cL_foul, 5, (some .long), 8, 1, 6)
def cd_L_foul (G : jx_G) : jx_C := fun pc => match pc with
  | 0 => ([ti_aload 0, ti_iload 1, ti_iload 2, ti_iload 3, ti_callX G m_X9_foul 9 3 1 6 1 6 4 [0, 11, 17, 23], ti_i2l, ti_jret 1 6], 8)
  | 11 => ([ti_lconst (-9000000000000000001), ti_jret 1 6], 14)
  | 17 => ([ti_lconst (-9000000000000000002), ti_jret 1 6], 20)
  | 23 => ([ti_lconst (-9000000000000000003), ti_jret 1 6], 26)
  | n => ([], n)
set_option maxRecDepth 20000 in
theorem sc_L_foul (G : jx_G) : jCdH G m_L_foul hh_L_foul (cd_L_foul G) := by
  intro p e R s m args below meth c Qf ad0 n0 Q hcx htab0 hend pc
  have htab : c.exceptionTable.toList = [⟨0, 8, 9, 15⟩, ⟨0, 8, 15, 19⟩, ⟨0, 8, 21, 23⟩] := htab0
  obtain ⟨hx, hb, hml, hown, hts, hG, hlk, hr, hnm, hRm⟩ := hcx
  have hend : jEnd G p e R s m args below meth c Qf ad0 n0 5 1 6 Q := hend
  have hb : c.code = cL_foul := hb
  have hml : c.maxLocals = 5 := hml
  have hown : s.vm.findClass "LeadCasesLaw" = some m.cls := hown
  have hr : meth.sig.returnType = (some .long) := hr
  have hRm : jRm R 8 1 6 := hRm
  unfold cd_L_foul
  split
  · exact SndL.cons (sd_aload_n (pc := 0) hx hb (by decide +kernel : decode cL_foul 0 = .ok (.aload_n 0, 1)) rfl) (SndL.cons (sd_iload_n (pc := 1) hx hb (by decide +kernel : decode cL_foul 1 = .ok (.iload_n 1, 1)) rfl) (SndL.cons (sd_iload_n (pc := 2) hx hb (by decide +kernel : decode cL_foul 2 = .ok (.iload_n 2, 1)) rfl) (SndL.cons (sd_iload_n (pc := 3) hx hb (by decide +kernel : decode cL_foul 3 = .ok (.iload_n 3, 1)) rfl) (SndL.cons (sd_callX (r := 9) (ev := 4) (hsL := [0, 11, 17, 23]) (C := RX9) (T := TX9) (N := 14) (lv := 8) (mc := 1) (ms := 6) (mc' := 1) (ms' := 6) (y := m_X9_foul) (n := 3) (pc := 4) hx hb hown hts hG hml hRm rfl rfl (by decide) (Or.inl (by decide)) (by decide) rfl lk_726 lk_727 lk_728 lk_30 rfl lk_729 ⟨by decide +kernel, by decide +kernel, by decide +kernel⟩ (fun k hk9 hz9 => by
      rcases hk9 with rfl | rfl | rfl
      · exact fun H9 locs9 c9 s9 lsA rest9 q9 ce9 g1 g2 g3 lv9 g4 kk9 => vx_catch hown [] ⟨0, 8, 9, 15⟩ [⟨0, 8, 15, 19⟩, ⟨0, 8, 21, 23⟩] htab (fun z hz => by cases hz) (by decide) (by decide) (hts _ lk_285) (va_Nw.use rfl (hG.2.2.2.2.2.2.2.2.2.2.2.2.2.1 "java/lang/IndexOutOfBoundsException" (by decide +kernel))) g1 g2 g3 (lv_astore hx hb (by decide +kernel : decode cL_foul 9 = .ok (.astore 4, 2)) g4 (by decide) rfl kk9)
      · exact fun H9 locs9 c9 s9 lsA rest9 q9 ce9 g1 g2 g3 lv9 g4 kk9 => vx_catch hown [⟨0, 8, 9, 15⟩] ⟨0, 8, 15, 19⟩ [⟨0, 8, 21, 23⟩] htab (fun z hz => by rcases List.mem_cons.mp hz with rfl | hz; exact (Or.inr ⟨by decide, "java/lang/IndexOutOfBoundsException", hts _ lk_285, hG.2.2.2.2.2.2.2.2.2.2.2.2.2.2.1 "java/lang/IllegalArgumentException" (by decide +kernel) "java/lang/IndexOutOfBoundsException" (by decide +kernel) (by decide)⟩); cases hz) (by decide) (by decide) (hts _ lk_286) (va_Nw.use rfl (hG.2.2.2.2.2.2.2.2.2.2.2.2.2.1 "java/lang/IllegalArgumentException" (by decide +kernel))) g1 g2 g3 (lv_astore hx hb (by decide +kernel : decode cL_foul 15 = .ok (.astore 4, 2)) g4 (by decide) rfl kk9)
      · exact fun H9 locs9 c9 s9 lsA rest9 q9 ce9 g1 g2 g3 lv9 g4 kk9 => vx_catch hown [⟨0, 8, 9, 15⟩, ⟨0, 8, 15, 19⟩] ⟨0, 8, 21, 23⟩ [] htab (fun z hz => by rcases List.mem_cons.mp hz with rfl | hz; exact (Or.inr ⟨by decide, "java/lang/IndexOutOfBoundsException", hts _ lk_285, hG.2.2.2.2.2.2.2.2.2.2.2.2.2.2.1 "java/lang/IllegalStateException" (by decide +kernel) "java/lang/IndexOutOfBoundsException" (by decide +kernel) (by decide)⟩); rcases List.mem_cons.mp hz with rfl | hz; exact (Or.inr ⟨by decide, "java/lang/IllegalArgumentException", hts _ lk_286, hG.2.2.2.2.2.2.2.2.2.2.2.2.2.2.1 "java/lang/IllegalStateException" (by decide +kernel) "java/lang/IllegalArgumentException" (by decide +kernel) (by decide)⟩); cases hz) (by decide) (by decide) (hts _ lk_287) (va_Nw.use rfl (hG.2.2.2.2.2.2.2.2.2.2.2.2.2.1 "java/lang/IllegalStateException" (by decide +kernel))) g1 g2 g3 (lv_astore hx hb (by decide +kernel : decode cL_foul 21 = .ok (.astore 4, 2)) g4 (by decide) rfl kk9)) (by decide +kernel) (by decide +kernel : decode cL_foul 4 = .ok (.invokevirtual 49, 3))) (SndL.cons (sd_i2l (pc := 7) hx hb (by decide +kernel : decode cL_foul 7 = .ok (.i2l, 1))) (SndL.cons (sd_jret (pc := 8) hx hb hend hlk hr (by decide +kernel : decode cL_foul 8 = .ok (.lreturn, 1))) SndL.nil))))))
  · exact SndL.cons (sd_ldc2 (v := (-9000000000000000001)) (pc := 11) hx hb hown hts lk_462 (by decide +kernel : decode cL_foul 11 = .ok (.ldc2_w 17, 3))) (SndL.cons (sd_jret (pc := 14) hx hb hend hlk hr (by decide +kernel : decode cL_foul 14 = .ok (.lreturn, 1))) SndL.nil)
  · exact SndL.cons (sd_ldc2 (v := (-9000000000000000002)) (pc := 17) hx hb hown hts lk_463 (by decide +kernel : decode cL_foul 17 = .ok (.ldc2_w 21, 3))) (SndL.cons (sd_jret (pc := 20) hx hb hend hlk hr (by decide +kernel : decode cL_foul 20 = .ok (.lreturn, 1))) SndL.nil)
  · exact SndL.cons (sd_ldc2 (v := (-9000000000000000003)) (pc := 23) hx hb hown hts lk_464 (by decide +kernel : decode cL_foul 23 = .ok (.ldc2_w 25, 3))) (SndL.cons (sd_jret (pc := 26) hx hb hend hlk hr (by decide +kernel : decode cL_foul 26 = .ok (.lreturn, 1))) SndL.nil)
  · exact SndL.nil
def hh_L_sortPie : List (Nat × Nat × Nat × Nat) := [(0, 6, 7, 19)]
def m_L_sortPie : jx_Y := (yL_sortPie, cL_sortPie, 3, (some .long), 8, 1, 6)
def cd_L_sortPie (G : jx_G) : jx_C := fun pc => match pc with
  | 0 => ([ti_aload 0, ti_iload 1, ti_callX G m_X9_sortPie 9 1 1 6 1 6 2 [0, 0, 8, 0], ti_i2l, ti_jret 1 6], 6)
  | 8 => ([ti_lconst (-9000000000000000002), ti_jret 1 6], 11)
  | n => ([], n)
set_option maxRecDepth 20000 in
theorem sc_L_sortPie (G : jx_G) : jCdH G m_L_sortPie hh_L_sortPie (cd_L_sortPie G) := by
  intro p e R s m args below meth c Qf ad0 n0 Q hcx htab0 hend pc
  have htab : c.exceptionTable.toList = [⟨0, 6, 7, 19⟩] := htab0
  obtain ⟨hx, hb, hml, hown, hts, hG, hlk, hr, hnm, hRm⟩ := hcx
  have hend : jEnd G p e R s m args below meth c Qf ad0 n0 3 1 6 Q := hend
  have hb : c.code = cL_sortPie := hb
  have hml : c.maxLocals = 3 := hml
  have hown : s.vm.findClass "LeadCasesLaw" = some m.cls := hown
  have hr : meth.sig.returnType = (some .long) := hr
  have hRm : jRm R 8 1 6 := hRm
  unfold cd_L_sortPie
  split
  · exact SndL.cons (sd_aload_n (pc := 0) hx hb (by decide +kernel : decode cL_sortPie 0 = .ok (.aload_n 0, 1)) rfl) (SndL.cons (sd_iload_n (pc := 1) hx hb (by decide +kernel : decode cL_sortPie 1 = .ok (.iload_n 1, 1)) rfl) (SndL.cons (sd_callX (r := 9) (ev := 2) (hsL := [0, 0, 8, 0]) (C := RX9) (T := TX9) (N := 14) (lv := 8) (mc := 1) (ms := 6) (mc' := 1) (ms' := 6) (y := m_X9_sortPie) (n := 1) (pc := 2) hx hb hown hts hG hml hRm rfl rfl (by decide) (Or.inl (by decide)) (by decide) rfl lk_735 lk_736 lk_737 lk_30 rfl lk_738 ⟨by decide +kernel, by decide +kernel, by decide +kernel⟩ (fun k hk9 hz9 => by
      rcases hk9 with rfl | rfl | rfl
      · exact absurd rfl hz9
      · exact fun H9 locs9 c9 s9 lsA rest9 q9 ce9 g1 g2 g3 lv9 g4 kk9 => vx_catch hown [] ⟨0, 6, 7, 19⟩ [] htab (fun z hz => by cases hz) (by decide) (by decide) (hts _ lk_286) (va_Nw.use rfl (hG.2.2.2.2.2.2.2.2.2.2.2.2.2.1 "java/lang/IllegalArgumentException" (by decide +kernel))) g1 g2 g3 (lv_astore_n hx hb (by decide +kernel : decode cL_sortPie 7 = .ok (.astore_n 2, 1)) rfl g4 (by decide) rfl kk9)
      · exact absurd rfl hz9) (by decide +kernel) (by decide +kernel : decode cL_sortPie 2 = .ok (.invokevirtual 52, 3))) (SndL.cons (sd_i2l (pc := 5) hx hb (by decide +kernel : decode cL_sortPie 5 = .ok (.i2l, 1))) (SndL.cons (sd_jret (pc := 6) hx hb hend hlk hr (by decide +kernel : decode cL_sortPie 6 = .ok (.lreturn, 1))) SndL.nil))))
  · exact SndL.cons (sd_ldc2 (v := (-9000000000000000002)) (pc := 8) hx hb hown hts lk_463 (by decide +kernel : decode cL_sortPie 8 = .ok (.ldc2_w 21, 3))) (SndL.cons (sd_jret (pc := 11) hx hb hend hlk hr (by decide +kernel : decode cL_sortPie 11 = .ok (.lreturn, 1))) SndL.nil)
  · exact SndL.nil
def hh_L_lock : List (Nat × Nat × Nat × Nat) := [(0, 7, 8, 15), (0, 7, 13, 19), (0, 7, 18, 23)]
def m_L_lock : jx_Y := (yL_lock, cL_lock, 4, (some .long), 8, 1, 6)
def cd_L_lock (G : jx_G) : jx_C := fun pc => match pc with
  | 0 => ([ti_aload 0, ti_iload 1, ti_iload 2, ti_callX G m_X9_lock 9 2 1 6 1 6 3 [0, 9, 14, 19], ti_i2l, ti_jret 1 6], 7)
  | 9 => ([ti_lconst (-9000000000000000001), ti_jret 1 6], 12)
  | 14 => ([ti_lconst (-9000000000000000002), ti_jret 1 6], 17)
  | 19 => ([ti_lconst (-9000000000000000003), ti_jret 1 6], 22)
  | n => ([], n)
set_option maxRecDepth 20000 in
theorem sc_L_lock (G : jx_G) : jCdH G m_L_lock hh_L_lock (cd_L_lock G) := by
  intro p e R s m args below meth c Qf ad0 n0 Q hcx htab0 hend pc
  have htab : c.exceptionTable.toList = [⟨0, 7, 8, 15⟩, ⟨0, 7, 13, 19⟩, ⟨0, 7, 18, 23⟩] := htab0
  obtain ⟨hx, hb, hml, hown, hts, hG, hlk, hr, hnm, hRm⟩ := hcx
  have hend : jEnd G p e R s m args below meth c Qf ad0 n0 4 1 6 Q := hend
  have hb : c.code = cL_lock := hb
  have hml : c.maxLocals = 4 := hml
  have hown : s.vm.findClass "LeadCasesLaw" = some m.cls := hown
  have hr : meth.sig.returnType = (some .long) := hr
  have hRm : jRm R 8 1 6 := hRm
  unfold cd_L_lock
  split
  · exact SndL.cons (sd_aload_n (pc := 0) hx hb (by decide +kernel : decode cL_lock 0 = .ok (.aload_n 0, 1)) rfl) (SndL.cons (sd_iload_n (pc := 1) hx hb (by decide +kernel : decode cL_lock 1 = .ok (.iload_n 1, 1)) rfl) (SndL.cons (sd_iload_n (pc := 2) hx hb (by decide +kernel : decode cL_lock 2 = .ok (.iload_n 2, 1)) rfl) (SndL.cons (sd_callX (r := 9) (ev := 3) (hsL := [0, 9, 14, 19]) (C := RX9) (T := TX9) (N := 14) (lv := 8) (mc := 1) (ms := 6) (mc' := 1) (ms' := 6) (y := m_X9_lock) (n := 2) (pc := 3) hx hb hown hts hG hml hRm rfl rfl (by decide) (Or.inl (by decide)) (by decide) rfl lk_751 lk_752 lk_753 lk_30 rfl lk_754 ⟨by decide +kernel, by decide +kernel, by decide +kernel⟩ (fun k hk9 hz9 => by
      rcases hk9 with rfl | rfl | rfl
      · exact fun H9 locs9 c9 s9 lsA rest9 q9 ce9 g1 g2 g3 lv9 g4 kk9 => vx_catch hown [] ⟨0, 7, 8, 15⟩ [⟨0, 7, 13, 19⟩, ⟨0, 7, 18, 23⟩] htab (fun z hz => by cases hz) (by decide) (by decide) (hts _ lk_285) (va_Nw.use rfl (hG.2.2.2.2.2.2.2.2.2.2.2.2.2.1 "java/lang/IndexOutOfBoundsException" (by decide +kernel))) g1 g2 g3 (lv_astore_n hx hb (by decide +kernel : decode cL_lock 8 = .ok (.astore_n 3, 1)) rfl g4 (by decide) rfl kk9)
      · exact fun H9 locs9 c9 s9 lsA rest9 q9 ce9 g1 g2 g3 lv9 g4 kk9 => vx_catch hown [⟨0, 7, 8, 15⟩] ⟨0, 7, 13, 19⟩ [⟨0, 7, 18, 23⟩] htab (fun z hz => by rcases List.mem_cons.mp hz with rfl | hz; exact (Or.inr ⟨by decide, "java/lang/IndexOutOfBoundsException", hts _ lk_285, hG.2.2.2.2.2.2.2.2.2.2.2.2.2.2.1 "java/lang/IllegalArgumentException" (by decide +kernel) "java/lang/IndexOutOfBoundsException" (by decide +kernel) (by decide)⟩); cases hz) (by decide) (by decide) (hts _ lk_286) (va_Nw.use rfl (hG.2.2.2.2.2.2.2.2.2.2.2.2.2.1 "java/lang/IllegalArgumentException" (by decide +kernel))) g1 g2 g3 (lv_astore_n hx hb (by decide +kernel : decode cL_lock 13 = .ok (.astore_n 3, 1)) rfl g4 (by decide) rfl kk9)
      · exact fun H9 locs9 c9 s9 lsA rest9 q9 ce9 g1 g2 g3 lv9 g4 kk9 => vx_catch hown [⟨0, 7, 8, 15⟩, ⟨0, 7, 13, 19⟩] ⟨0, 7, 18, 23⟩ [] htab (fun z hz => by rcases List.mem_cons.mp hz with rfl | hz; exact (Or.inr ⟨by decide, "java/lang/IndexOutOfBoundsException", hts _ lk_285, hG.2.2.2.2.2.2.2.2.2.2.2.2.2.2.1 "java/lang/IllegalStateException" (by decide +kernel) "java/lang/IndexOutOfBoundsException" (by decide +kernel) (by decide)⟩); rcases List.mem_cons.mp hz with rfl | hz; exact (Or.inr ⟨by decide, "java/lang/IllegalArgumentException", hts _ lk_286, hG.2.2.2.2.2.2.2.2.2.2.2.2.2.2.1 "java/lang/IllegalStateException" (by decide +kernel) "java/lang/IllegalArgumentException" (by decide +kernel) (by decide)⟩); cases hz) (by decide) (by decide) (hts _ lk_287) (va_Nw.use rfl (hG.2.2.2.2.2.2.2.2.2.2.2.2.2.1 "java/lang/IllegalStateException" (by decide +kernel))) g1 g2 g3 (lv_astore_n hx hb (by decide +kernel : decode cL_lock 18 = .ok (.astore_n 3, 1)) rfl g4 (by decide) rfl kk9)) (by decide +kernel) (by decide +kernel : decode cL_lock 3 = .ok (.invokevirtual 55, 3))) (SndL.cons (sd_i2l (pc := 6) hx hb (by decide +kernel : decode cL_lock 6 = .ok (.i2l, 1))) (SndL.cons (sd_jret (pc := 7) hx hb hend hlk hr (by decide +kernel : decode cL_lock 7 = .ok (.lreturn, 1))) SndL.nil)))))
  · exact SndL.cons (sd_ldc2 (v := (-9000000000000000001)) (pc := 9) hx hb hown hts lk_462 (by decide +kernel : decode cL_lock 9 = .ok (.ldc2_w 17, 3))) (SndL.cons (sd_jret (pc := 12) hx hb hend hlk hr (by decide +kernel : decode cL_lock 12 = .ok (.lreturn, 1))) SndL.nil)
  · exact SndL.cons (sd_ldc2 (v := (-9000000000000000002)) (pc := 14) hx hb hown hts lk_463 (by decide +kernel : decode cL_lock 14 = .ok (.ldc2_w 21, 3))) (SndL.cons (sd_jret (pc := 17) hx hb hend hlk hr (by decide +kernel : decode cL_lock 17 = .ok (.lreturn, 1))) SndL.nil)
  · exact SndL.cons (sd_ldc2 (v := (-9000000000000000003)) (pc := 19) hx hb hown hts lk_464 (by decide +kernel : decode cL_lock 19 = .ok (.ldc2_w 25, 3))) (SndL.cons (sd_jret (pc := 22) hx hb hend hlk hr (by decide +kernel : decode cL_lock 22 = .ok (.lreturn, 1))) SndL.nil)
  · exact SndL.nil
def hh_L_lift : List (Nat × Nat × Nat × Nat) := [(0, 6, 7, 15), (0, 6, 12, 23)]
def m_L_lift : jx_Y := (yL_lift, cL_lift, 3, (some .long), 8, 1, 6)
def cd_L_lift (G : jx_G) : jx_C := fun pc => match pc with
  | 0 => ([ti_aload 0, ti_iload 1, ti_callX G m_X9_lift 9 1 1 6 1 6 2 [0, 8, 0, 13], ti_i2l, ti_jret 1 6], 6)
  | 8 => ([ti_lconst (-9000000000000000001), ti_jret 1 6], 11)
  | 13 => ([ti_lconst (-9000000000000000003), ti_jret 1 6], 16)
  | n => ([], n)
set_option maxRecDepth 20000 in
theorem sc_L_lift (G : jx_G) : jCdH G m_L_lift hh_L_lift (cd_L_lift G) := by
  intro p e R s m args below meth c Qf ad0 n0 Q hcx htab0 hend pc
  have htab : c.exceptionTable.toList = [⟨0, 6, 7, 15⟩, ⟨0, 6, 12, 23⟩] := htab0
  obtain ⟨hx, hb, hml, hown, hts, hG, hlk, hr, hnm, hRm⟩ := hcx
  have hend : jEnd G p e R s m args below meth c Qf ad0 n0 3 1 6 Q := hend
  have hb : c.code = cL_lift := hb
  have hml : c.maxLocals = 3 := hml
  have hown : s.vm.findClass "LeadCasesLaw" = some m.cls := hown
  have hr : meth.sig.returnType = (some .long) := hr
  have hRm : jRm R 8 1 6 := hRm
  unfold cd_L_lift
  split
  · exact SndL.cons (sd_aload_n (pc := 0) hx hb (by decide +kernel : decode cL_lift 0 = .ok (.aload_n 0, 1)) rfl) (SndL.cons (sd_iload_n (pc := 1) hx hb (by decide +kernel : decode cL_lift 1 = .ok (.iload_n 1, 1)) rfl) (SndL.cons (sd_callX (r := 9) (ev := 2) (hsL := [0, 8, 0, 13]) (C := RX9) (T := TX9) (N := 14) (lv := 8) (mc := 1) (ms := 6) (mc' := 1) (ms' := 6) (y := m_X9_lift) (n := 1) (pc := 2) hx hb hown hts hG hml hRm rfl rfl (by decide) (Or.inl (by decide)) (by decide) rfl lk_945 lk_946 lk_947 lk_30 rfl lk_948 ⟨by decide +kernel, by decide +kernel, by decide +kernel⟩ (fun k hk9 hz9 => by
      rcases hk9 with rfl | rfl | rfl
      · exact fun H9 locs9 c9 s9 lsA rest9 q9 ce9 g1 g2 g3 lv9 g4 kk9 => vx_catch hown [] ⟨0, 6, 7, 15⟩ [⟨0, 6, 12, 23⟩] htab (fun z hz => by cases hz) (by decide) (by decide) (hts _ lk_285) (va_Nw.use rfl (hG.2.2.2.2.2.2.2.2.2.2.2.2.2.1 "java/lang/IndexOutOfBoundsException" (by decide +kernel))) g1 g2 g3 (lv_astore_n hx hb (by decide +kernel : decode cL_lift 7 = .ok (.astore_n 2, 1)) rfl g4 (by decide) rfl kk9)
      · exact absurd rfl hz9
      · exact fun H9 locs9 c9 s9 lsA rest9 q9 ce9 g1 g2 g3 lv9 g4 kk9 => vx_catch hown [⟨0, 6, 7, 15⟩] ⟨0, 6, 12, 23⟩ [] htab (fun z hz => by rcases List.mem_cons.mp hz with rfl | hz; exact (Or.inr ⟨by decide, "java/lang/IndexOutOfBoundsException", hts _ lk_285, hG.2.2.2.2.2.2.2.2.2.2.2.2.2.2.1 "java/lang/IllegalStateException" (by decide +kernel) "java/lang/IndexOutOfBoundsException" (by decide +kernel) (by decide)⟩); cases hz) (by decide) (by decide) (hts _ lk_287) (va_Nw.use rfl (hG.2.2.2.2.2.2.2.2.2.2.2.2.2.1 "java/lang/IllegalStateException" (by decide +kernel))) g1 g2 g3 (lv_astore_n hx hb (by decide +kernel : decode cL_lift 12 = .ok (.astore_n 2, 1)) rfl g4 (by decide) rfl kk9)) (by decide +kernel) (by decide +kernel : decode cL_lift 2 = .ok (.invokevirtual 58, 3))) (SndL.cons (sd_i2l (pc := 5) hx hb (by decide +kernel : decode cL_lift 5 = .ok (.i2l, 1))) (SndL.cons (sd_jret (pc := 6) hx hb hend hlk hr (by decide +kernel : decode cL_lift 6 = .ok (.lreturn, 1))) SndL.nil))))
  · exact SndL.cons (sd_ldc2 (v := (-9000000000000000001)) (pc := 8) hx hb hown hts lk_462 (by decide +kernel : decode cL_lift 8 = .ok (.ldc2_w 17, 3))) (SndL.cons (sd_jret (pc := 11) hx hb hend hlk hr (by decide +kernel : decode cL_lift 11 = .ok (.lreturn, 1))) SndL.nil)
  · exact SndL.cons (sd_ldc2 (v := (-9000000000000000003)) (pc := 13) hx hb hown hts lk_464 (by decide +kernel : decode cL_lift 13 = .ok (.ldc2_w 25, 3))) (SndL.cons (sd_jret (pc := 16) hx hb hend hlk hr (by decide +kernel : decode cL_lift 16 = .ok (.lreturn, 1))) SndL.nil)
  · exact SndL.nil
def hh_L_proof : List (Nat × Nat × Nat × Nat) := [(0, 6, 7, 15), (0, 6, 12, 23)]
def m_L_proof : jx_Y := (yL_proof, cL_proof, 3, (some .long), 8, 1, 6)
def cd_L_proof (G : jx_G) : jx_C := fun pc => match pc with
  | 0 => ([ti_aload 0, ti_iload 1, ti_callX G m_X9_proof 9 1 1 6 1 6 2 [0, 8, 0, 13], ti_i2l, ti_jret 1 6], 6)
  | 8 => ([ti_lconst (-9000000000000000001), ti_jret 1 6], 11)
  | 13 => ([ti_lconst (-9000000000000000003), ti_jret 1 6], 16)
  | n => ([], n)
set_option maxRecDepth 20000 in
theorem sc_L_proof (G : jx_G) : jCdH G m_L_proof hh_L_proof (cd_L_proof G) := by
  intro p e R s m args below meth c Qf ad0 n0 Q hcx htab0 hend pc
  have htab : c.exceptionTable.toList = [⟨0, 6, 7, 15⟩, ⟨0, 6, 12, 23⟩] := htab0
  obtain ⟨hx, hb, hml, hown, hts, hG, hlk, hr, hnm, hRm⟩ := hcx
  have hend : jEnd G p e R s m args below meth c Qf ad0 n0 3 1 6 Q := hend
  have hb : c.code = cL_proof := hb
  have hml : c.maxLocals = 3 := hml
  have hown : s.vm.findClass "LeadCasesLaw" = some m.cls := hown
  have hr : meth.sig.returnType = (some .long) := hr
  have hRm : jRm R 8 1 6 := hRm
  unfold cd_L_proof
  split
  · exact SndL.cons (sd_aload_n (pc := 0) hx hb (by decide +kernel : decode cL_proof 0 = .ok (.aload_n 0, 1)) rfl) (SndL.cons (sd_iload_n (pc := 1) hx hb (by decide +kernel : decode cL_proof 1 = .ok (.iload_n 1, 1)) rfl) (SndL.cons (sd_callX (r := 9) (ev := 2) (hsL := [0, 8, 0, 13]) (C := RX9) (T := TX9) (N := 14) (lv := 8) (mc := 1) (ms := 6) (mc' := 1) (ms' := 6) (y := m_X9_proof) (n := 1) (pc := 2) hx hb hown hts hG hml hRm rfl rfl (by decide) (Or.inl (by decide)) (by decide) rfl lk_968 lk_969 lk_970 lk_30 rfl lk_971 ⟨by decide +kernel, by decide +kernel, by decide +kernel⟩ (fun k hk9 hz9 => by
      rcases hk9 with rfl | rfl | rfl
      · exact fun H9 locs9 c9 s9 lsA rest9 q9 ce9 g1 g2 g3 lv9 g4 kk9 => vx_catch hown [] ⟨0, 6, 7, 15⟩ [⟨0, 6, 12, 23⟩] htab (fun z hz => by cases hz) (by decide) (by decide) (hts _ lk_285) (va_Nw.use rfl (hG.2.2.2.2.2.2.2.2.2.2.2.2.2.1 "java/lang/IndexOutOfBoundsException" (by decide +kernel))) g1 g2 g3 (lv_astore_n hx hb (by decide +kernel : decode cL_proof 7 = .ok (.astore_n 2, 1)) rfl g4 (by decide) rfl kk9)
      · exact absurd rfl hz9
      · exact fun H9 locs9 c9 s9 lsA rest9 q9 ce9 g1 g2 g3 lv9 g4 kk9 => vx_catch hown [⟨0, 6, 7, 15⟩] ⟨0, 6, 12, 23⟩ [] htab (fun z hz => by rcases List.mem_cons.mp hz with rfl | hz; exact (Or.inr ⟨by decide, "java/lang/IndexOutOfBoundsException", hts _ lk_285, hG.2.2.2.2.2.2.2.2.2.2.2.2.2.2.1 "java/lang/IllegalStateException" (by decide +kernel) "java/lang/IndexOutOfBoundsException" (by decide +kernel) (by decide)⟩); cases hz) (by decide) (by decide) (hts _ lk_287) (va_Nw.use rfl (hG.2.2.2.2.2.2.2.2.2.2.2.2.2.1 "java/lang/IllegalStateException" (by decide +kernel))) g1 g2 g3 (lv_astore_n hx hb (by decide +kernel : decode cL_proof 12 = .ok (.astore_n 2, 1)) rfl g4 (by decide) rfl kk9)) (by decide +kernel) (by decide +kernel : decode cL_proof 2 = .ok (.invokevirtual 61, 3))) (SndL.cons (sd_i2l (pc := 5) hx hb (by decide +kernel : decode cL_proof 5 = .ok (.i2l, 1))) (SndL.cons (sd_jret (pc := 6) hx hb hend hlk hr (by decide +kernel : decode cL_proof 6 = .ok (.lreturn, 1))) SndL.nil))))
  · exact SndL.cons (sd_ldc2 (v := (-9000000000000000001)) (pc := 8) hx hb hown hts lk_462 (by decide +kernel : decode cL_proof 8 = .ok (.ldc2_w 17, 3))) (SndL.cons (sd_jret (pc := 11) hx hb hend hlk hr (by decide +kernel : decode cL_proof 11 = .ok (.lreturn, 1))) SndL.nil)
  · exact SndL.cons (sd_ldc2 (v := (-9000000000000000003)) (pc := 13) hx hb hown hts lk_464 (by decide +kernel : decode cL_proof 13 = .ok (.ldc2_w 25, 3))) (SndL.cons (sd_jret (pc := 16) hx hb hend hlk hr (by decide +kernel : decode cL_proof 16 = .ok (.lreturn, 1))) SndL.nil)
  · exact SndL.nil
def hh_L_unlock : List (Nat × Nat × Nat × Nat) := [(0, 6, 7, 15), (0, 6, 12, 23)]
def m_L_unlock : jx_Y := (yL_unlock, cL_unlock, 3, (some .long), 8, 1, 6)
def cd_L_unlock (G : jx_G) : jx_C := fun pc => match pc with
  | 0 => ([ti_aload 0, ti_iload 1, ti_callX G m_X9_unlock 9 1 1 6 1 6 2 [0, 8, 0, 13], ti_i2l, ti_jret 1 6], 6)
  | 8 => ([ti_lconst (-9000000000000000001), ti_jret 1 6], 11)
  | 13 => ([ti_lconst (-9000000000000000003), ti_jret 1 6], 16)
  | n => ([], n)
set_option maxRecDepth 20000 in
theorem sc_L_unlock (G : jx_G) : jCdH G m_L_unlock hh_L_unlock (cd_L_unlock G) := by
  intro p e R s m args below meth c Qf ad0 n0 Q hcx htab0 hend pc
  have htab : c.exceptionTable.toList = [⟨0, 6, 7, 15⟩, ⟨0, 6, 12, 23⟩] := htab0
  obtain ⟨hx, hb, hml, hown, hts, hG, hlk, hr, hnm, hRm⟩ := hcx
  have hend : jEnd G p e R s m args below meth c Qf ad0 n0 3 1 6 Q := hend
  have hb : c.code = cL_unlock := hb
  have hml : c.maxLocals = 3 := hml
  have hown : s.vm.findClass "LeadCasesLaw" = some m.cls := hown
  have hr : meth.sig.returnType = (some .long) := hr
  have hRm : jRm R 8 1 6 := hRm
  unfold cd_L_unlock
  split
  · exact SndL.cons (sd_aload_n (pc := 0) hx hb (by decide +kernel : decode cL_unlock 0 = .ok (.aload_n 0, 1)) rfl) (SndL.cons (sd_iload_n (pc := 1) hx hb (by decide +kernel : decode cL_unlock 1 = .ok (.iload_n 1, 1)) rfl) (SndL.cons (sd_callX (r := 9) (ev := 2) (hsL := [0, 8, 0, 13]) (C := RX9) (T := TX9) (N := 14) (lv := 8) (mc := 1) (ms := 6) (mc' := 1) (ms' := 6) (y := m_X9_unlock) (n := 1) (pc := 2) hx hb hown hts hG hml hRm rfl rfl (by decide) (Or.inl (by decide)) (by decide) rfl lk_764 lk_765 lk_766 lk_30 rfl lk_767 ⟨by decide +kernel, by decide +kernel, by decide +kernel⟩ (fun k hk9 hz9 => by
      rcases hk9 with rfl | rfl | rfl
      · exact fun H9 locs9 c9 s9 lsA rest9 q9 ce9 g1 g2 g3 lv9 g4 kk9 => vx_catch hown [] ⟨0, 6, 7, 15⟩ [⟨0, 6, 12, 23⟩] htab (fun z hz => by cases hz) (by decide) (by decide) (hts _ lk_285) (va_Nw.use rfl (hG.2.2.2.2.2.2.2.2.2.2.2.2.2.1 "java/lang/IndexOutOfBoundsException" (by decide +kernel))) g1 g2 g3 (lv_astore_n hx hb (by decide +kernel : decode cL_unlock 7 = .ok (.astore_n 2, 1)) rfl g4 (by decide) rfl kk9)
      · exact absurd rfl hz9
      · exact fun H9 locs9 c9 s9 lsA rest9 q9 ce9 g1 g2 g3 lv9 g4 kk9 => vx_catch hown [⟨0, 6, 7, 15⟩] ⟨0, 6, 12, 23⟩ [] htab (fun z hz => by rcases List.mem_cons.mp hz with rfl | hz; exact (Or.inr ⟨by decide, "java/lang/IndexOutOfBoundsException", hts _ lk_285, hG.2.2.2.2.2.2.2.2.2.2.2.2.2.2.1 "java/lang/IllegalStateException" (by decide +kernel) "java/lang/IndexOutOfBoundsException" (by decide +kernel) (by decide)⟩); cases hz) (by decide) (by decide) (hts _ lk_287) (va_Nw.use rfl (hG.2.2.2.2.2.2.2.2.2.2.2.2.2.1 "java/lang/IllegalStateException" (by decide +kernel))) g1 g2 g3 (lv_astore_n hx hb (by decide +kernel : decode cL_unlock 12 = .ok (.astore_n 2, 1)) rfl g4 (by decide) rfl kk9)) (by decide +kernel) (by decide +kernel : decode cL_unlock 2 = .ok (.invokevirtual 64, 3))) (SndL.cons (sd_i2l (pc := 5) hx hb (by decide +kernel : decode cL_unlock 5 = .ok (.i2l, 1))) (SndL.cons (sd_jret (pc := 6) hx hb hend hlk hr (by decide +kernel : decode cL_unlock 6 = .ok (.lreturn, 1))) SndL.nil))))
  · exact SndL.cons (sd_ldc2 (v := (-9000000000000000001)) (pc := 8) hx hb hown hts lk_462 (by decide +kernel : decode cL_unlock 8 = .ok (.ldc2_w 17, 3))) (SndL.cons (sd_jret (pc := 11) hx hb hend hlk hr (by decide +kernel : decode cL_unlock 11 = .ok (.lreturn, 1))) SndL.nil)
  · exact SndL.cons (sd_ldc2 (v := (-9000000000000000003)) (pc := 13) hx hb hown hts lk_464 (by decide +kernel : decode cL_unlock 13 = .ok (.ldc2_w 25, 3))) (SndL.cons (sd_jret (pc := 16) hx hb hend hlk hr (by decide +kernel : decode cL_unlock 16 = .ok (.lreturn, 1))) SndL.nil)
  · exact SndL.nil
def hh_L_inBox : List (Nat × Nat × Nat × Nat) := [(0, 7, 8, 15)]
def m_L_inBox : jx_Y := (yL_inBox, cL_inBox, 4, (some .long), 8, 1, 6)
def cd_L_inBox (G : jx_G) : jx_C := fun pc => match pc with
  | 0 => ([ti_aload 0, ti_iload 1, ti_iload 2, ti_callX G m_X9_inBox 9 2 1 6 1 6 3 [0, 9, 0, 0], ti_i2l, ti_jret 1 6], 7)
  | 9 => ([ti_lconst (-9000000000000000001), ti_jret 1 6], 12)
  | n => ([], n)
set_option maxRecDepth 20000 in
theorem sc_L_inBox (G : jx_G) : jCdH G m_L_inBox hh_L_inBox (cd_L_inBox G) := by
  intro p e R s m args below meth c Qf ad0 n0 Q hcx htab0 hend pc
  have htab : c.exceptionTable.toList = [⟨0, 7, 8, 15⟩] := htab0
  obtain ⟨hx, hb, hml, hown, hts, hG, hlk, hr, hnm, hRm⟩ := hcx
  have hend : jEnd G p e R s m args below meth c Qf ad0 n0 4 1 6 Q := hend
  have hb : c.code = cL_inBox := hb
  have hml : c.maxLocals = 4 := hml
  have hown : s.vm.findClass "LeadCasesLaw" = some m.cls := hown
  have hr : meth.sig.returnType = (some .long) := hr
  have hRm : jRm R 8 1 6 := hRm
  unfold cd_L_inBox
  split
  · exact SndL.cons (sd_aload_n (pc := 0) hx hb (by decide +kernel : decode cL_inBox 0 = .ok (.aload_n 0, 1)) rfl) (SndL.cons (sd_iload_n (pc := 1) hx hb (by decide +kernel : decode cL_inBox 1 = .ok (.iload_n 1, 1)) rfl) (SndL.cons (sd_iload_n (pc := 2) hx hb (by decide +kernel : decode cL_inBox 2 = .ok (.iload_n 2, 1)) rfl) (SndL.cons (sd_callX (r := 9) (ev := 3) (hsL := [0, 9, 0, 0]) (C := RX9) (T := TX9) (N := 14) (lv := 8) (mc := 1) (ms := 6) (mc' := 1) (ms' := 6) (y := m_X9_inBox) (n := 2) (pc := 3) hx hb hown hts hG hml hRm rfl rfl (by decide) (Or.inl (by decide)) (by decide) rfl lk_874 lk_875 lk_876 lk_30 rfl lk_877 ⟨by decide +kernel, by decide +kernel, by decide +kernel⟩ (fun k hk9 hz9 => by
      rcases hk9 with rfl | rfl | rfl
      · exact fun H9 locs9 c9 s9 lsA rest9 q9 ce9 g1 g2 g3 lv9 g4 kk9 => vx_catch hown [] ⟨0, 7, 8, 15⟩ [] htab (fun z hz => by cases hz) (by decide) (by decide) (hts _ lk_285) (va_Nw.use rfl (hG.2.2.2.2.2.2.2.2.2.2.2.2.2.1 "java/lang/IndexOutOfBoundsException" (by decide +kernel))) g1 g2 g3 (lv_astore_n hx hb (by decide +kernel : decode cL_inBox 8 = .ok (.astore_n 3, 1)) rfl g4 (by decide) rfl kk9)
      · exact absurd rfl hz9
      · exact absurd rfl hz9) (by decide +kernel) (by decide +kernel : decode cL_inBox 3 = .ok (.invokevirtual 67, 3))) (SndL.cons (sd_i2l (pc := 6) hx hb (by decide +kernel : decode cL_inBox 6 = .ok (.i2l, 1))) (SndL.cons (sd_jret (pc := 7) hx hb hend hlk hr (by decide +kernel : decode cL_inBox 7 = .ok (.lreturn, 1))) SndL.nil)))))
  · exact SndL.cons (sd_ldc2 (v := (-9000000000000000001)) (pc := 9) hx hb hown hts lk_462 (by decide +kernel : decode cL_inBox 9 = .ok (.ldc2_w 17, 3))) (SndL.cons (sd_jret (pc := 12) hx hb hend hlk hr (by decide +kernel : decode cL_inBox 12 = .ok (.lreturn, 1))) SndL.nil)
  · exact SndL.nil
def hh_L_top : List (Nat × Nat × Nat × Nat) := [(0, 7, 8, 15)]
def m_L_top : jx_Y := (yL_top, cL_top, 4, (some .long), 8, 1, 6)
def cd_L_top (G : jx_G) : jx_C := fun pc => match pc with
  | 0 => ([ti_aload 0, ti_iload 1, ti_iload 2, ti_callX G m_X9_top 9 2 1 6 1 6 3 [0, 9, 0, 0], ti_i2l, ti_jret 1 6], 7)
  | 9 => ([ti_lconst (-9000000000000000001), ti_jret 1 6], 12)
  | n => ([], n)
set_option maxRecDepth 20000 in
theorem sc_L_top (G : jx_G) : jCdH G m_L_top hh_L_top (cd_L_top G) := by
  intro p e R s m args below meth c Qf ad0 n0 Q hcx htab0 hend pc
  have htab : c.exceptionTable.toList = [⟨0, 7, 8, 15⟩] := htab0
  obtain ⟨hx, hb, hml, hown, hts, hG, hlk, hr, hnm, hRm⟩ := hcx
  have hend : jEnd G p e R s m args below meth c Qf ad0 n0 4 1 6 Q := hend
  have hb : c.code = cL_top := hb
  have hml : c.maxLocals = 4 := hml
  have hown : s.vm.findClass "LeadCasesLaw" = some m.cls := hown
  have hr : meth.sig.returnType = (some .long) := hr
  have hRm : jRm R 8 1 6 := hRm
  unfold cd_L_top
  split
  · exact SndL.cons (sd_aload_n (pc := 0) hx hb (by decide +kernel : decode cL_top 0 = .ok (.aload_n 0, 1)) rfl) (SndL.cons (sd_iload_n (pc := 1) hx hb (by decide +kernel : decode cL_top 1 = .ok (.iload_n 1, 1)) rfl) (SndL.cons (sd_iload_n (pc := 2) hx hb (by decide +kernel : decode cL_top 2 = .ok (.iload_n 2, 1)) rfl) (SndL.cons (sd_callX (r := 9) (ev := 3) (hsL := [0, 9, 0, 0]) (C := RX9) (T := TX9) (N := 14) (lv := 8) (mc := 1) (ms := 6) (mc' := 1) (ms' := 6) (y := m_X9_top) (n := 2) (pc := 3) hx hb hown hts hG hml hRm rfl rfl (by decide) (Or.inl (by decide)) (by decide) rfl lk_888 lk_889 lk_890 lk_30 rfl lk_891 ⟨by decide +kernel, by decide +kernel, by decide +kernel⟩ (fun k hk9 hz9 => by
      rcases hk9 with rfl | rfl | rfl
      · exact fun H9 locs9 c9 s9 lsA rest9 q9 ce9 g1 g2 g3 lv9 g4 kk9 => vx_catch hown [] ⟨0, 7, 8, 15⟩ [] htab (fun z hz => by cases hz) (by decide) (by decide) (hts _ lk_285) (va_Nw.use rfl (hG.2.2.2.2.2.2.2.2.2.2.2.2.2.1 "java/lang/IndexOutOfBoundsException" (by decide +kernel))) g1 g2 g3 (lv_astore_n hx hb (by decide +kernel : decode cL_top 8 = .ok (.astore_n 3, 1)) rfl g4 (by decide) rfl kk9)
      · exact absurd rfl hz9
      · exact absurd rfl hz9) (by decide +kernel) (by decide +kernel : decode cL_top 3 = .ok (.invokevirtual 70, 3))) (SndL.cons (sd_i2l (pc := 6) hx hb (by decide +kernel : decode cL_top 6 = .ok (.i2l, 1))) (SndL.cons (sd_jret (pc := 7) hx hb hend hlk hr (by decide +kernel : decode cL_top 7 = .ok (.lreturn, 1))) SndL.nil)))))
  · exact SndL.cons (sd_ldc2 (v := (-9000000000000000001)) (pc := 9) hx hb hown hts lk_462 (by decide +kernel : decode cL_top 9 = .ok (.ldc2_w 17, 3))) (SndL.cons (sd_jret (pc := 12) hx hb hend hlk hr (by decide +kernel : decode cL_top 12 = .ok (.lreturn, 1))) SndL.nil)
  · exact SndL.nil
def hh_L_inSpaces : List (Nat × Nat × Nat × Nat) := [(0, 6, 7, 19)]
def m_L_inSpaces : jx_Y := (yL_inSpaces, cL_inSpaces, 3, (some .long), 8, 1, 6)
def cd_L_inSpaces (G : jx_G) : jx_C := fun pc => match pc with
  | 0 => ([ti_aload 0, ti_iload 1, ti_callX G m_X9_inSpaces 9 1 1 6 1 6 2 [0, 0, 8, 0], ti_i2l, ti_jret 1 6], 6)
  | 8 => ([ti_lconst (-9000000000000000002), ti_jret 1 6], 11)
  | n => ([], n)
set_option maxRecDepth 20000 in
theorem sc_L_inSpaces (G : jx_G) : jCdH G m_L_inSpaces hh_L_inSpaces (cd_L_inSpaces G) := by
  intro p e R s m args below meth c Qf ad0 n0 Q hcx htab0 hend pc
  have htab : c.exceptionTable.toList = [⟨0, 6, 7, 19⟩] := htab0
  obtain ⟨hx, hb, hml, hown, hts, hG, hlk, hr, hnm, hRm⟩ := hcx
  have hend : jEnd G p e R s m args below meth c Qf ad0 n0 3 1 6 Q := hend
  have hb : c.code = cL_inSpaces := hb
  have hml : c.maxLocals = 3 := hml
  have hown : s.vm.findClass "LeadCasesLaw" = some m.cls := hown
  have hr : meth.sig.returnType = (some .long) := hr
  have hRm : jRm R 8 1 6 := hRm
  unfold cd_L_inSpaces
  split
  · exact SndL.cons (sd_aload_n (pc := 0) hx hb (by decide +kernel : decode cL_inSpaces 0 = .ok (.aload_n 0, 1)) rfl) (SndL.cons (sd_iload_n (pc := 1) hx hb (by decide +kernel : decode cL_inSpaces 1 = .ok (.iload_n 1, 1)) rfl) (SndL.cons (sd_callX (r := 9) (ev := 2) (hsL := [0, 0, 8, 0]) (C := RX9) (T := TX9) (N := 14) (lv := 8) (mc := 1) (ms := 6) (mc' := 1) (ms' := 6) (y := m_X9_inSpaces) (n := 1) (pc := 2) hx hb hown hts hG hml hRm rfl rfl (by decide) (Or.inl (by decide)) (by decide) rfl lk_927 lk_928 lk_929 lk_30 rfl lk_930 ⟨by decide +kernel, by decide +kernel, by decide +kernel⟩ (fun k hk9 hz9 => by
      rcases hk9 with rfl | rfl | rfl
      · exact absurd rfl hz9
      · exact fun H9 locs9 c9 s9 lsA rest9 q9 ce9 g1 g2 g3 lv9 g4 kk9 => vx_catch hown [] ⟨0, 6, 7, 19⟩ [] htab (fun z hz => by cases hz) (by decide) (by decide) (hts _ lk_286) (va_Nw.use rfl (hG.2.2.2.2.2.2.2.2.2.2.2.2.2.1 "java/lang/IllegalArgumentException" (by decide +kernel))) g1 g2 g3 (lv_astore_n hx hb (by decide +kernel : decode cL_inSpaces 7 = .ok (.astore_n 2, 1)) rfl g4 (by decide) rfl kk9)
      · exact absurd rfl hz9) (by decide +kernel) (by decide +kernel : decode cL_inSpaces 2 = .ok (.invokevirtual 73, 3))) (SndL.cons (sd_i2l (pc := 5) hx hb (by decide +kernel : decode cL_inSpaces 5 = .ok (.i2l, 1))) (SndL.cons (sd_jret (pc := 6) hx hb hend hlk hr (by decide +kernel : decode cL_inSpaces 6 = .ok (.lreturn, 1))) SndL.nil))))
  · exact SndL.cons (sd_ldc2 (v := (-9000000000000000002)) (pc := 8) hx hb hown hts lk_463 (by decide +kernel : decode cL_inSpaces 8 = .ok (.ldc2_w 21, 3))) (SndL.cons (sd_jret (pc := 11) hx hb hend hlk hr (by decide +kernel : decode cL_inSpaces 11 = .ok (.lreturn, 1))) SndL.nil)
  · exact SndL.nil
def hh_L_sort : List (Nat × Nat × Nat × Nat) := [(0, 7, 8, 15), (0, 7, 13, 19)]
def m_L_sort : jx_Y := (yL_sort, cL_sort, 4, (some .long), 8, 1, 6)
def cd_L_sort (G : jx_G) : jx_C := fun pc => match pc with
  | 0 => ([ti_aload 0, ti_iload 1, ti_iload 2, ti_callX G m_X9_sort 9 2 1 6 1 6 3 [0, 9, 14, 0], ti_i2l, ti_jret 1 6], 7)
  | 9 => ([ti_lconst (-9000000000000000001), ti_jret 1 6], 12)
  | 14 => ([ti_lconst (-9000000000000000002), ti_jret 1 6], 17)
  | n => ([], n)
set_option maxRecDepth 20000 in
theorem sc_L_sort (G : jx_G) : jCdH G m_L_sort hh_L_sort (cd_L_sort G) := by
  intro p e R s m args below meth c Qf ad0 n0 Q hcx htab0 hend pc
  have htab : c.exceptionTable.toList = [⟨0, 7, 8, 15⟩, ⟨0, 7, 13, 19⟩] := htab0
  obtain ⟨hx, hb, hml, hown, hts, hG, hlk, hr, hnm, hRm⟩ := hcx
  have hend : jEnd G p e R s m args below meth c Qf ad0 n0 4 1 6 Q := hend
  have hb : c.code = cL_sort := hb
  have hml : c.maxLocals = 4 := hml
  have hown : s.vm.findClass "LeadCasesLaw" = some m.cls := hown
  have hr : meth.sig.returnType = (some .long) := hr
  have hRm : jRm R 8 1 6 := hRm
  unfold cd_L_sort
  split
  · exact SndL.cons (sd_aload_n (pc := 0) hx hb (by decide +kernel : decode cL_sort 0 = .ok (.aload_n 0, 1)) rfl) (SndL.cons (sd_iload_n (pc := 1) hx hb (by decide +kernel : decode cL_sort 1 = .ok (.iload_n 1, 1)) rfl) (SndL.cons (sd_iload_n (pc := 2) hx hb (by decide +kernel : decode cL_sort 2 = .ok (.iload_n 2, 1)) rfl) (SndL.cons (sd_callX (r := 9) (ev := 3) (hsL := [0, 9, 14, 0]) (C := RX9) (T := TX9) (N := 14) (lv := 8) (mc := 1) (ms := 6) (mc' := 1) (ms' := 6) (y := m_X9_sort) (n := 2) (pc := 3) hx hb hown hts hG hml hRm rfl rfl (by decide) (Or.inl (by decide)) (by decide) rfl lk_848 lk_849 lk_850 lk_30 rfl lk_851 ⟨by decide +kernel, by decide +kernel, by decide +kernel⟩ (fun k hk9 hz9 => by
      rcases hk9 with rfl | rfl | rfl
      · exact fun H9 locs9 c9 s9 lsA rest9 q9 ce9 g1 g2 g3 lv9 g4 kk9 => vx_catch hown [] ⟨0, 7, 8, 15⟩ [⟨0, 7, 13, 19⟩] htab (fun z hz => by cases hz) (by decide) (by decide) (hts _ lk_285) (va_Nw.use rfl (hG.2.2.2.2.2.2.2.2.2.2.2.2.2.1 "java/lang/IndexOutOfBoundsException" (by decide +kernel))) g1 g2 g3 (lv_astore_n hx hb (by decide +kernel : decode cL_sort 8 = .ok (.astore_n 3, 1)) rfl g4 (by decide) rfl kk9)
      · exact fun H9 locs9 c9 s9 lsA rest9 q9 ce9 g1 g2 g3 lv9 g4 kk9 => vx_catch hown [⟨0, 7, 8, 15⟩] ⟨0, 7, 13, 19⟩ [] htab (fun z hz => by rcases List.mem_cons.mp hz with rfl | hz; exact (Or.inr ⟨by decide, "java/lang/IndexOutOfBoundsException", hts _ lk_285, hG.2.2.2.2.2.2.2.2.2.2.2.2.2.2.1 "java/lang/IllegalArgumentException" (by decide +kernel) "java/lang/IndexOutOfBoundsException" (by decide +kernel) (by decide)⟩); cases hz) (by decide) (by decide) (hts _ lk_286) (va_Nw.use rfl (hG.2.2.2.2.2.2.2.2.2.2.2.2.2.1 "java/lang/IllegalArgumentException" (by decide +kernel))) g1 g2 g3 (lv_astore_n hx hb (by decide +kernel : decode cL_sort 13 = .ok (.astore_n 3, 1)) rfl g4 (by decide) rfl kk9)
      · exact absurd rfl hz9) (by decide +kernel) (by decide +kernel : decode cL_sort 3 = .ok (.invokevirtual 76, 3))) (SndL.cons (sd_i2l (pc := 6) hx hb (by decide +kernel : decode cL_sort 6 = .ok (.i2l, 1))) (SndL.cons (sd_jret (pc := 7) hx hb hend hlk hr (by decide +kernel : decode cL_sort 7 = .ok (.lreturn, 1))) SndL.nil)))))
  · exact SndL.cons (sd_ldc2 (v := (-9000000000000000001)) (pc := 9) hx hb hown hts lk_462 (by decide +kernel : decode cL_sort 9 = .ok (.ldc2_w 17, 3))) (SndL.cons (sd_jret (pc := 12) hx hb hend hlk hr (by decide +kernel : decode cL_sort 12 = .ok (.lreturn, 1))) SndL.nil)
  · exact SndL.cons (sd_ldc2 (v := (-9000000000000000002)) (pc := 14) hx hb hown hts lk_463 (by decide +kernel : decode cL_sort 14 = .ok (.ldc2_w 21, 3))) (SndL.cons (sd_jret (pc := 17) hx hb hend hlk hr (by decide +kernel : decode cL_sort 17 = .ok (.lreturn, 1))) SndL.nil)
  · exact SndL.nil
def hh_L_line : List (Nat × Nat × Nat × Nat) := [(0, 7, 8, 15), (0, 7, 13, 19)]
def m_L_line : jx_Y := (yL_line, cL_line, 4, (some .long), 8, 1, 6)
def cd_L_line (G : jx_G) : jx_C := fun pc => match pc with
  | 0 => ([ti_aload 0, ti_iload 1, ti_iload 2, ti_callX G m_X9_line 9 2 1 6 1 6 3 [0, 9, 14, 0], ti_i2l, ti_jret 1 6], 7)
  | 9 => ([ti_lconst (-9000000000000000001), ti_jret 1 6], 12)
  | 14 => ([ti_lconst (-9000000000000000002), ti_jret 1 6], 17)
  | n => ([], n)
set_option maxRecDepth 20000 in
theorem sc_L_line (G : jx_G) : jCdH G m_L_line hh_L_line (cd_L_line G) := by
  intro p e R s m args below meth c Qf ad0 n0 Q hcx htab0 hend pc
  have htab : c.exceptionTable.toList = [⟨0, 7, 8, 15⟩, ⟨0, 7, 13, 19⟩] := htab0
  obtain ⟨hx, hb, hml, hown, hts, hG, hlk, hr, hnm, hRm⟩ := hcx
  have hend : jEnd G p e R s m args below meth c Qf ad0 n0 4 1 6 Q := hend
  have hb : c.code = cL_line := hb
  have hml : c.maxLocals = 4 := hml
  have hown : s.vm.findClass "LeadCasesLaw" = some m.cls := hown
  have hr : meth.sig.returnType = (some .long) := hr
  have hRm : jRm R 8 1 6 := hRm
  unfold cd_L_line
  split
  · exact SndL.cons (sd_aload_n (pc := 0) hx hb (by decide +kernel : decode cL_line 0 = .ok (.aload_n 0, 1)) rfl) (SndL.cons (sd_iload_n (pc := 1) hx hb (by decide +kernel : decode cL_line 1 = .ok (.iload_n 1, 1)) rfl) (SndL.cons (sd_iload_n (pc := 2) hx hb (by decide +kernel : decode cL_line 2 = .ok (.iload_n 2, 1)) rfl) (SndL.cons (sd_callX (r := 9) (ev := 3) (hsL := [0, 9, 14, 0]) (C := RX9) (T := TX9) (N := 14) (lv := 8) (mc := 1) (ms := 6) (mc' := 1) (ms' := 6) (y := m_X9_line) (n := 2) (pc := 3) hx hb hown hts hG hml hRm rfl rfl (by decide) (Or.inl (by decide)) (by decide) rfl lk_789 lk_790 lk_791 lk_30 rfl lk_792 ⟨by decide +kernel, by decide +kernel, by decide +kernel⟩ (fun k hk9 hz9 => by
      rcases hk9 with rfl | rfl | rfl
      · exact fun H9 locs9 c9 s9 lsA rest9 q9 ce9 g1 g2 g3 lv9 g4 kk9 => vx_catch hown [] ⟨0, 7, 8, 15⟩ [⟨0, 7, 13, 19⟩] htab (fun z hz => by cases hz) (by decide) (by decide) (hts _ lk_285) (va_Nw.use rfl (hG.2.2.2.2.2.2.2.2.2.2.2.2.2.1 "java/lang/IndexOutOfBoundsException" (by decide +kernel))) g1 g2 g3 (lv_astore_n hx hb (by decide +kernel : decode cL_line 8 = .ok (.astore_n 3, 1)) rfl g4 (by decide) rfl kk9)
      · exact fun H9 locs9 c9 s9 lsA rest9 q9 ce9 g1 g2 g3 lv9 g4 kk9 => vx_catch hown [⟨0, 7, 8, 15⟩] ⟨0, 7, 13, 19⟩ [] htab (fun z hz => by rcases List.mem_cons.mp hz with rfl | hz; exact (Or.inr ⟨by decide, "java/lang/IndexOutOfBoundsException", hts _ lk_285, hG.2.2.2.2.2.2.2.2.2.2.2.2.2.2.1 "java/lang/IllegalArgumentException" (by decide +kernel) "java/lang/IndexOutOfBoundsException" (by decide +kernel) (by decide)⟩); cases hz) (by decide) (by decide) (hts _ lk_286) (va_Nw.use rfl (hG.2.2.2.2.2.2.2.2.2.2.2.2.2.1 "java/lang/IllegalArgumentException" (by decide +kernel))) g1 g2 g3 (lv_astore_n hx hb (by decide +kernel : decode cL_line 13 = .ok (.astore_n 3, 1)) rfl g4 (by decide) rfl kk9)
      · exact absurd rfl hz9) (by decide +kernel) (by decide +kernel : decode cL_line 3 = .ok (.invokevirtual 79, 3))) (SndL.cons (sd_i2l (pc := 6) hx hb (by decide +kernel : decode cL_line 6 = .ok (.i2l, 1))) (SndL.cons (sd_jret (pc := 7) hx hb hend hlk hr (by decide +kernel : decode cL_line 7 = .ok (.lreturn, 1))) SndL.nil)))))
  · exact SndL.cons (sd_ldc2 (v := (-9000000000000000001)) (pc := 9) hx hb hown hts lk_462 (by decide +kernel : decode cL_line 9 = .ok (.ldc2_w 17, 3))) (SndL.cons (sd_jret (pc := 12) hx hb hend hlk hr (by decide +kernel : decode cL_line 12 = .ok (.lreturn, 1))) SndL.nil)
  · exact SndL.cons (sd_ldc2 (v := (-9000000000000000002)) (pc := 14) hx hb hown hts lk_463 (by decide +kernel : decode cL_line 14 = .ok (.ldc2_w 21, 3))) (SndL.cons (sd_jret (pc := 17) hx hb hend hlk hr (by decide +kernel : decode cL_line 17 = .ok (.lreturn, 1))) SndL.nil)
  · exact SndL.nil
def hh_L_sortAt : List (Nat × Nat × Nat × Nat) := [(0, 7, 8, 15)]
def m_L_sortAt : jx_Y := (yL_sortAt, cL_sortAt, 4, (some .long), 8, 1, 6)
def cd_L_sortAt (G : jx_G) : jx_C := fun pc => match pc with
  | 0 => ([ti_aload 0, ti_iload 1, ti_iload 2, ti_callX G m_X9_sortAt 9 2 1 6 1 6 3 [0, 9, 0, 0], ti_i2l, ti_jret 1 6], 7)
  | 9 => ([ti_lconst (-9000000000000000001), ti_jret 1 6], 12)
  | n => ([], n)
set_option maxRecDepth 20000 in
theorem sc_L_sortAt (G : jx_G) : jCdH G m_L_sortAt hh_L_sortAt (cd_L_sortAt G) := by
  intro p e R s m args below meth c Qf ad0 n0 Q hcx htab0 hend pc
  have htab : c.exceptionTable.toList = [⟨0, 7, 8, 15⟩] := htab0
  obtain ⟨hx, hb, hml, hown, hts, hG, hlk, hr, hnm, hRm⟩ := hcx
  have hend : jEnd G p e R s m args below meth c Qf ad0 n0 4 1 6 Q := hend
  have hb : c.code = cL_sortAt := hb
  have hml : c.maxLocals = 4 := hml
  have hown : s.vm.findClass "LeadCasesLaw" = some m.cls := hown
  have hr : meth.sig.returnType = (some .long) := hr
  have hRm : jRm R 8 1 6 := hRm
  unfold cd_L_sortAt
  split
  · exact SndL.cons (sd_aload_n (pc := 0) hx hb (by decide +kernel : decode cL_sortAt 0 = .ok (.aload_n 0, 1)) rfl) (SndL.cons (sd_iload_n (pc := 1) hx hb (by decide +kernel : decode cL_sortAt 1 = .ok (.iload_n 1, 1)) rfl) (SndL.cons (sd_iload_n (pc := 2) hx hb (by decide +kernel : decode cL_sortAt 2 = .ok (.iload_n 2, 1)) rfl) (SndL.cons (sd_callX (r := 9) (ev := 3) (hsL := [0, 9, 0, 0]) (C := RX9) (T := TX9) (N := 14) (lv := 8) (mc := 1) (ms := 6) (mc' := 1) (ms' := 6) (y := m_X9_sortAt) (n := 2) (pc := 3) hx hb hown hts hG hml hRm rfl rfl (by decide) (Or.inl (by decide)) (by decide) rfl lk_823 lk_824 lk_825 lk_30 rfl lk_826 ⟨by decide +kernel, by decide +kernel, by decide +kernel⟩ (fun k hk9 hz9 => by
      rcases hk9 with rfl | rfl | rfl
      · exact fun H9 locs9 c9 s9 lsA rest9 q9 ce9 g1 g2 g3 lv9 g4 kk9 => vx_catch hown [] ⟨0, 7, 8, 15⟩ [] htab (fun z hz => by cases hz) (by decide) (by decide) (hts _ lk_285) (va_Nw.use rfl (hG.2.2.2.2.2.2.2.2.2.2.2.2.2.1 "java/lang/IndexOutOfBoundsException" (by decide +kernel))) g1 g2 g3 (lv_astore_n hx hb (by decide +kernel : decode cL_sortAt 8 = .ok (.astore_n 3, 1)) rfl g4 (by decide) rfl kk9)
      · exact absurd rfl hz9
      · exact absurd rfl hz9) (by decide +kernel) (by decide +kernel : decode cL_sortAt 3 = .ok (.invokevirtual 82, 3))) (SndL.cons (sd_i2l (pc := 6) hx hb (by decide +kernel : decode cL_sortAt 6 = .ok (.i2l, 1))) (SndL.cons (sd_jret (pc := 7) hx hb hend hlk hr (by decide +kernel : decode cL_sortAt 7 = .ok (.lreturn, 1))) SndL.nil)))))
  · exact SndL.cons (sd_ldc2 (v := (-9000000000000000001)) (pc := 9) hx hb hown hts lk_462 (by decide +kernel : decode cL_sortAt 9 = .ok (.ldc2_w 17, 3))) (SndL.cons (sd_jret (pc := 12) hx hb hend hlk hr (by decide +kernel : decode cL_sortAt 12 = .ok (.lreturn, 1))) SndL.nil)
  · exact SndL.nil
def hh_L_gap : List (Nat × Nat × Nat × Nat) := [(0, 7, 8, 15)]
def m_L_gap : jx_Y := (yL_gap, cL_gap, 4, (some .long), 8, 1, 6)
def cd_L_gap (G : jx_G) : jx_C := fun pc => match pc with
  | 0 => ([ti_aload 0, ti_iload 1, ti_iload 2, ti_callX G m_X9_gap 9 2 1 6 1 6 3 [0, 9, 0, 0], ti_i2l, ti_jret 1 6], 7)
  | 9 => ([ti_lconst (-9000000000000000001), ti_jret 1 6], 12)
  | n => ([], n)
set_option maxRecDepth 20000 in
theorem sc_L_gap (G : jx_G) : jCdH G m_L_gap hh_L_gap (cd_L_gap G) := by
  intro p e R s m args below meth c Qf ad0 n0 Q hcx htab0 hend pc
  have htab : c.exceptionTable.toList = [⟨0, 7, 8, 15⟩] := htab0
  obtain ⟨hx, hb, hml, hown, hts, hG, hlk, hr, hnm, hRm⟩ := hcx
  have hend : jEnd G p e R s m args below meth c Qf ad0 n0 4 1 6 Q := hend
  have hb : c.code = cL_gap := hb
  have hml : c.maxLocals = 4 := hml
  have hown : s.vm.findClass "LeadCasesLaw" = some m.cls := hown
  have hr : meth.sig.returnType = (some .long) := hr
  have hRm : jRm R 8 1 6 := hRm
  unfold cd_L_gap
  split
  · exact SndL.cons (sd_aload_n (pc := 0) hx hb (by decide +kernel : decode cL_gap 0 = .ok (.aload_n 0, 1)) rfl) (SndL.cons (sd_iload_n (pc := 1) hx hb (by decide +kernel : decode cL_gap 1 = .ok (.iload_n 1, 1)) rfl) (SndL.cons (sd_iload_n (pc := 2) hx hb (by decide +kernel : decode cL_gap 2 = .ok (.iload_n 2, 1)) rfl) (SndL.cons (sd_callX (r := 9) (ev := 3) (hsL := [0, 9, 0, 0]) (C := RX9) (T := TX9) (N := 14) (lv := 8) (mc := 1) (ms := 6) (mc' := 1) (ms' := 6) (y := m_X9_gap) (n := 2) (pc := 3) hx hb hown hts hG hml hRm rfl rfl (by decide) (Or.inl (by decide)) (by decide) rfl lk_918 lk_919 lk_920 lk_30 rfl lk_921 ⟨by decide +kernel, by decide +kernel, by decide +kernel⟩ (fun k hk9 hz9 => by
      rcases hk9 with rfl | rfl | rfl
      · exact fun H9 locs9 c9 s9 lsA rest9 q9 ce9 g1 g2 g3 lv9 g4 kk9 => vx_catch hown [] ⟨0, 7, 8, 15⟩ [] htab (fun z hz => by cases hz) (by decide) (by decide) (hts _ lk_285) (va_Nw.use rfl (hG.2.2.2.2.2.2.2.2.2.2.2.2.2.1 "java/lang/IndexOutOfBoundsException" (by decide +kernel))) g1 g2 g3 (lv_astore_n hx hb (by decide +kernel : decode cL_gap 8 = .ok (.astore_n 3, 1)) rfl g4 (by decide) rfl kk9)
      · exact absurd rfl hz9
      · exact absurd rfl hz9) (by decide +kernel) (by decide +kernel : decode cL_gap 3 = .ok (.invokevirtual 85, 3))) (SndL.cons (sd_i2l (pc := 6) hx hb (by decide +kernel : decode cL_gap 6 = .ok (.i2l, 1))) (SndL.cons (sd_jret (pc := 7) hx hb hend hlk hr (by decide +kernel : decode cL_gap 7 = .ok (.lreturn, 1))) SndL.nil)))))
  · exact SndL.cons (sd_ldc2 (v := (-9000000000000000001)) (pc := 9) hx hb hown hts lk_462 (by decide +kernel : decode cL_gap 9 = .ok (.ldc2_w 17, 3))) (SndL.cons (sd_jret (pc := 12) hx hb hend hlk hr (by decide +kernel : decode cL_gap 12 = .ok (.lreturn, 1))) SndL.nil)
  · exact SndL.nil
def hh_L_form : List (Nat × Nat × Nat × Nat) := [(0, 7, 8, 15), (0, 7, 13, 19)]
def m_L_form : jx_Y := (yL_form, cL_form, 4, (some .long), 8, 1, 6)
def cd_L_form (G : jx_G) : jx_C := fun pc => match pc with
  | 0 => ([ti_aload 0, ti_iload 1, ti_iload 2, ti_callX G m_X9_form 9 2 1 6 1 6 3 [0, 9, 14, 0], ti_i2l, ti_jret 1 6], 7)
  | 9 => ([ti_lconst (-9000000000000000001), ti_jret 1 6], 12)
  | 14 => ([ti_lconst (-9000000000000000002), ti_jret 1 6], 17)
  | n => ([], n)
set_option maxRecDepth 20000 in
theorem sc_L_form (G : jx_G) : jCdH G m_L_form hh_L_form (cd_L_form G) := by
  intro p e R s m args below meth c Qf ad0 n0 Q hcx htab0 hend pc
  have htab : c.exceptionTable.toList = [⟨0, 7, 8, 15⟩, ⟨0, 7, 13, 19⟩] := htab0
  obtain ⟨hx, hb, hml, hown, hts, hG, hlk, hr, hnm, hRm⟩ := hcx
  have hend : jEnd G p e R s m args below meth c Qf ad0 n0 4 1 6 Q := hend
  have hb : c.code = cL_form := hb
  have hml : c.maxLocals = 4 := hml
  have hown : s.vm.findClass "LeadCasesLaw" = some m.cls := hown
  have hr : meth.sig.returnType = (some .long) := hr
  have hRm : jRm R 8 1 6 := hRm
  unfold cd_L_form
  split
  · exact SndL.cons (sd_aload_n (pc := 0) hx hb (by decide +kernel : decode cL_form 0 = .ok (.aload_n 0, 1)) rfl) (SndL.cons (sd_iload_n (pc := 1) hx hb (by decide +kernel : decode cL_form 1 = .ok (.iload_n 1, 1)) rfl) (SndL.cons (sd_iload_n (pc := 2) hx hb (by decide +kernel : decode cL_form 2 = .ok (.iload_n 2, 1)) rfl) (SndL.cons (sd_callX (r := 9) (ev := 3) (hsL := [0, 9, 14, 0]) (C := RX9) (T := TX9) (N := 14) (lv := 8) (mc := 1) (ms := 6) (mc' := 1) (ms' := 6) (y := m_X9_form) (n := 2) (pc := 3) hx hb hown hts hG hml hRm rfl rfl (by decide) (Or.inl (by decide)) (by decide) rfl lk_937 lk_938 lk_939 lk_30 rfl lk_940 ⟨by decide +kernel, by decide +kernel, by decide +kernel⟩ (fun k hk9 hz9 => by
      rcases hk9 with rfl | rfl | rfl
      · exact fun H9 locs9 c9 s9 lsA rest9 q9 ce9 g1 g2 g3 lv9 g4 kk9 => vx_catch hown [] ⟨0, 7, 8, 15⟩ [⟨0, 7, 13, 19⟩] htab (fun z hz => by cases hz) (by decide) (by decide) (hts _ lk_285) (va_Nw.use rfl (hG.2.2.2.2.2.2.2.2.2.2.2.2.2.1 "java/lang/IndexOutOfBoundsException" (by decide +kernel))) g1 g2 g3 (lv_astore_n hx hb (by decide +kernel : decode cL_form 8 = .ok (.astore_n 3, 1)) rfl g4 (by decide) rfl kk9)
      · exact fun H9 locs9 c9 s9 lsA rest9 q9 ce9 g1 g2 g3 lv9 g4 kk9 => vx_catch hown [⟨0, 7, 8, 15⟩] ⟨0, 7, 13, 19⟩ [] htab (fun z hz => by rcases List.mem_cons.mp hz with rfl | hz; exact (Or.inr ⟨by decide, "java/lang/IndexOutOfBoundsException", hts _ lk_285, hG.2.2.2.2.2.2.2.2.2.2.2.2.2.2.1 "java/lang/IllegalArgumentException" (by decide +kernel) "java/lang/IndexOutOfBoundsException" (by decide +kernel) (by decide)⟩); cases hz) (by decide) (by decide) (hts _ lk_286) (va_Nw.use rfl (hG.2.2.2.2.2.2.2.2.2.2.2.2.2.1 "java/lang/IllegalArgumentException" (by decide +kernel))) g1 g2 g3 (lv_astore_n hx hb (by decide +kernel : decode cL_form 13 = .ok (.astore_n 3, 1)) rfl g4 (by decide) rfl kk9)
      · exact absurd rfl hz9) (by decide +kernel) (by decide +kernel : decode cL_form 3 = .ok (.invokevirtual 88, 3))) (SndL.cons (sd_i2l (pc := 6) hx hb (by decide +kernel : decode cL_form 6 = .ok (.i2l, 1))) (SndL.cons (sd_jret (pc := 7) hx hb hend hlk hr (by decide +kernel : decode cL_form 7 = .ok (.lreturn, 1))) SndL.nil)))))
  · exact SndL.cons (sd_ldc2 (v := (-9000000000000000001)) (pc := 9) hx hb hown hts lk_462 (by decide +kernel : decode cL_form 9 = .ok (.ldc2_w 17, 3))) (SndL.cons (sd_jret (pc := 12) hx hb hend hlk hr (by decide +kernel : decode cL_form 12 = .ok (.lreturn, 1))) SndL.nil)
  · exact SndL.cons (sd_ldc2 (v := (-9000000000000000002)) (pc := 14) hx hb hown hts lk_463 (by decide +kernel : decode cL_form 14 = .ok (.ldc2_w 21, 3))) (SndL.cons (sd_jret (pc := 17) hx hb hend hlk hr (by decide +kernel : decode cL_form 17 = .ok (.lreturn, 1))) SndL.nil)
  · exact SndL.nil
def hh_L_printed : List (Nat × Nat × Nat × Nat) := [(0, 6, 7, 15)]
def m_L_printed : jx_Y := (yL_printed, cL_printed, 3, (some .long), 8, 1, 6)
def cd_L_printed (G : jx_G) : jx_C := fun pc => match pc with
  | 0 => ([ti_aload 0, ti_iload 1, ti_callX G m_X9_printed 9 1 1 6 1 6 2 [0, 8, 0, 0], ti_i2l, ti_jret 1 6], 6)
  | 8 => ([ti_lconst (-9000000000000000001), ti_jret 1 6], 11)
  | n => ([], n)
set_option maxRecDepth 20000 in
theorem sc_L_printed (G : jx_G) : jCdH G m_L_printed hh_L_printed (cd_L_printed G) := by
  intro p e R s m args below meth c Qf ad0 n0 Q hcx htab0 hend pc
  have htab : c.exceptionTable.toList = [⟨0, 6, 7, 15⟩] := htab0
  obtain ⟨hx, hb, hml, hown, hts, hG, hlk, hr, hnm, hRm⟩ := hcx
  have hend : jEnd G p e R s m args below meth c Qf ad0 n0 3 1 6 Q := hend
  have hb : c.code = cL_printed := hb
  have hml : c.maxLocals = 3 := hml
  have hown : s.vm.findClass "LeadCasesLaw" = some m.cls := hown
  have hr : meth.sig.returnType = (some .long) := hr
  have hRm : jRm R 8 1 6 := hRm
  unfold cd_L_printed
  split
  · exact SndL.cons (sd_aload_n (pc := 0) hx hb (by decide +kernel : decode cL_printed 0 = .ok (.aload_n 0, 1)) rfl) (SndL.cons (sd_iload_n (pc := 1) hx hb (by decide +kernel : decode cL_printed 1 = .ok (.iload_n 1, 1)) rfl) (SndL.cons (sd_callX (r := 9) (ev := 2) (hsL := [0, 8, 0, 0]) (C := RX9) (T := TX9) (N := 14) (lv := 8) (mc := 1) (ms := 6) (mc' := 1) (ms' := 6) (y := m_X9_printed) (n := 1) (pc := 2) hx hb hown hts hG hml hRm rfl rfl (by decide) (Or.inl (by decide)) (by decide) rfl lk_995 lk_996 lk_997 lk_30 rfl lk_998 ⟨by decide +kernel, by decide +kernel, by decide +kernel⟩ (fun k hk9 hz9 => by
      rcases hk9 with rfl | rfl | rfl
      · exact fun H9 locs9 c9 s9 lsA rest9 q9 ce9 g1 g2 g3 lv9 g4 kk9 => vx_catch hown [] ⟨0, 6, 7, 15⟩ [] htab (fun z hz => by cases hz) (by decide) (by decide) (hts _ lk_285) (va_Nw.use rfl (hG.2.2.2.2.2.2.2.2.2.2.2.2.2.1 "java/lang/IndexOutOfBoundsException" (by decide +kernel))) g1 g2 g3 (lv_astore_n hx hb (by decide +kernel : decode cL_printed 7 = .ok (.astore_n 2, 1)) rfl g4 (by decide) rfl kk9)
      · exact absurd rfl hz9
      · exact absurd rfl hz9) (by decide +kernel) (by decide +kernel : decode cL_printed 2 = .ok (.invokevirtual 91, 3))) (SndL.cons (sd_i2l (pc := 5) hx hb (by decide +kernel : decode cL_printed 5 = .ok (.i2l, 1))) (SndL.cons (sd_jret (pc := 6) hx hb hend hlk hr (by decide +kernel : decode cL_printed 6 = .ok (.lreturn, 1))) SndL.nil))))
  · exact SndL.cons (sd_ldc2 (v := (-9000000000000000001)) (pc := 8) hx hb hown hts lk_462 (by decide +kernel : decode cL_printed 8 = .ok (.ldc2_w 17, 3))) (SndL.cons (sd_jret (pc := 11) hx hb hend hlk hr (by decide +kernel : decode cL_printed 11 = .ok (.lreturn, 1))) SndL.nil)
  · exact SndL.nil
def hh_L_lead : List (Nat × Nat × Nat × Nat) := [(0, 7, 8, 15)]
def m_L_lead : jx_Y := (yL_lead, cL_lead, 4, (some .long), 8, 1, 6)
def cd_L_lead (G : jx_G) : jx_C := fun pc => match pc with
  | 0 => ([ti_aload 0, ti_iload 1, ti_iload 2, ti_callX G m_X9_lead 9 2 1 6 1 6 3 [0, 9, 0, 0], ti_i2l, ti_jret 1 6], 7)
  | 9 => ([ti_lconst (-9000000000000000001), ti_jret 1 6], 12)
  | n => ([], n)
set_option maxRecDepth 20000 in
theorem sc_L_lead (G : jx_G) : jCdH G m_L_lead hh_L_lead (cd_L_lead G) := by
  intro p e R s m args below meth c Qf ad0 n0 Q hcx htab0 hend pc
  have htab : c.exceptionTable.toList = [⟨0, 7, 8, 15⟩] := htab0
  obtain ⟨hx, hb, hml, hown, hts, hG, hlk, hr, hnm, hRm⟩ := hcx
  have hend : jEnd G p e R s m args below meth c Qf ad0 n0 4 1 6 Q := hend
  have hb : c.code = cL_lead := hb
  have hml : c.maxLocals = 4 := hml
  have hown : s.vm.findClass "LeadCasesLaw" = some m.cls := hown
  have hr : meth.sig.returnType = (some .long) := hr
  have hRm : jRm R 8 1 6 := hRm
  unfold cd_L_lead
  split
  · exact SndL.cons (sd_aload_n (pc := 0) hx hb (by decide +kernel : decode cL_lead 0 = .ok (.aload_n 0, 1)) rfl) (SndL.cons (sd_iload_n (pc := 1) hx hb (by decide +kernel : decode cL_lead 1 = .ok (.iload_n 1, 1)) rfl) (SndL.cons (sd_iload_n (pc := 2) hx hb (by decide +kernel : decode cL_lead 2 = .ok (.iload_n 2, 1)) rfl) (SndL.cons (sd_callX (r := 9) (ev := 3) (hsL := [0, 9, 0, 0]) (C := RX9) (T := TX9) (N := 14) (lv := 8) (mc := 1) (ms := 6) (mc' := 1) (ms' := 6) (y := m_X9_lead) (n := 2) (pc := 3) hx hb hown hts hG hml hRm rfl rfl (by decide) (Or.inl (by decide)) (by decide) rfl lk_881 lk_882 lk_883 lk_30 rfl lk_884 ⟨by decide +kernel, by decide +kernel, by decide +kernel⟩ (fun k hk9 hz9 => by
      rcases hk9 with rfl | rfl | rfl
      · exact fun H9 locs9 c9 s9 lsA rest9 q9 ce9 g1 g2 g3 lv9 g4 kk9 => vx_catch hown [] ⟨0, 7, 8, 15⟩ [] htab (fun z hz => by cases hz) (by decide) (by decide) (hts _ lk_285) (va_Nw.use rfl (hG.2.2.2.2.2.2.2.2.2.2.2.2.2.1 "java/lang/IndexOutOfBoundsException" (by decide +kernel))) g1 g2 g3 (lv_astore_n hx hb (by decide +kernel : decode cL_lead 8 = .ok (.astore_n 3, 1)) rfl g4 (by decide) rfl kk9)
      · exact absurd rfl hz9
      · exact absurd rfl hz9) (by decide +kernel) (by decide +kernel : decode cL_lead 3 = .ok (.invokevirtual 95, 3))) (SndL.cons (sd_i2l (pc := 6) hx hb (by decide +kernel : decode cL_lead 6 = .ok (.i2l, 1))) (SndL.cons (sd_jret (pc := 7) hx hb hend hlk hr (by decide +kernel : decode cL_lead 7 = .ok (.lreturn, 1))) SndL.nil)))))
  · exact SndL.cons (sd_ldc2 (v := (-9000000000000000001)) (pc := 9) hx hb hown hts lk_462 (by decide +kernel : decode cL_lead 9 = .ok (.ldc2_w 17, 3))) (SndL.cons (sd_jret (pc := 12) hx hb hend hlk hr (by decide +kernel : decode cL_lead 12 = .ok (.lreturn, 1))) SndL.nil)
  · exact SndL.nil
def hh_L_leadAnew : List (Nat × Nat × Nat × Nat) := [(0, 7, 8, 15)]
def m_L_leadAnew : jx_Y := (yL_leadAnew, cL_leadAnew, 4, (some .long), 8, 1, 6)
def cd_L_leadAnew (G : jx_G) : jx_C := fun pc => match pc with
  | 0 => ([ti_aload 0, ti_iload 1, ti_iload 2, ti_callX G m_X9_leadAnew 9 2 1 6 1 6 3 [0, 9, 0, 0], ti_i2l, ti_jret 1 6], 7)
  | 9 => ([ti_lconst (-9000000000000000001), ti_jret 1 6], 12)
  | n => ([], n)
set_option maxRecDepth 20000 in
theorem sc_L_leadAnew (G : jx_G) : jCdH G m_L_leadAnew hh_L_leadAnew (cd_L_leadAnew G) := by
  intro p e R s m args below meth c Qf ad0 n0 Q hcx htab0 hend pc
  have htab : c.exceptionTable.toList = [⟨0, 7, 8, 15⟩] := htab0
  obtain ⟨hx, hb, hml, hown, hts, hG, hlk, hr, hnm, hRm⟩ := hcx
  have hend : jEnd G p e R s m args below meth c Qf ad0 n0 4 1 6 Q := hend
  have hb : c.code = cL_leadAnew := hb
  have hml : c.maxLocals = 4 := hml
  have hown : s.vm.findClass "LeadCasesLaw" = some m.cls := hown
  have hr : meth.sig.returnType = (some .long) := hr
  have hRm : jRm R 8 1 6 := hRm
  unfold cd_L_leadAnew
  split
  · exact SndL.cons (sd_aload_n (pc := 0) hx hb (by decide +kernel : decode cL_leadAnew 0 = .ok (.aload_n 0, 1)) rfl) (SndL.cons (sd_iload_n (pc := 1) hx hb (by decide +kernel : decode cL_leadAnew 1 = .ok (.iload_n 1, 1)) rfl) (SndL.cons (sd_iload_n (pc := 2) hx hb (by decide +kernel : decode cL_leadAnew 2 = .ok (.iload_n 2, 1)) rfl) (SndL.cons (sd_callX (r := 9) (ev := 3) (hsL := [0, 9, 0, 0]) (C := RX9) (T := TX9) (N := 14) (lv := 8) (mc := 1) (ms := 6) (mc' := 1) (ms' := 6) (y := m_X9_leadAnew) (n := 2) (pc := 3) hx hb hown hts hG hml hRm rfl rfl (by decide) (Or.inl (by decide)) (by decide) rfl lk_895 lk_896 lk_897 lk_30 rfl lk_898 ⟨by decide +kernel, by decide +kernel, by decide +kernel⟩ (fun k hk9 hz9 => by
      rcases hk9 with rfl | rfl | rfl
      · exact fun H9 locs9 c9 s9 lsA rest9 q9 ce9 g1 g2 g3 lv9 g4 kk9 => vx_catch hown [] ⟨0, 7, 8, 15⟩ [] htab (fun z hz => by cases hz) (by decide) (by decide) (hts _ lk_285) (va_Nw.use rfl (hG.2.2.2.2.2.2.2.2.2.2.2.2.2.1 "java/lang/IndexOutOfBoundsException" (by decide +kernel))) g1 g2 g3 (lv_astore_n hx hb (by decide +kernel : decode cL_leadAnew 8 = .ok (.astore_n 3, 1)) rfl g4 (by decide) rfl kk9)
      · exact absurd rfl hz9
      · exact absurd rfl hz9) (by decide +kernel) (by decide +kernel : decode cL_leadAnew 3 = .ok (.invokevirtual 98, 3))) (SndL.cons (sd_i2l (pc := 6) hx hb (by decide +kernel : decode cL_leadAnew 6 = .ok (.i2l, 1))) (SndL.cons (sd_jret (pc := 7) hx hb hend hlk hr (by decide +kernel : decode cL_leadAnew 7 = .ok (.lreturn, 1))) SndL.nil)))))
  · exact SndL.cons (sd_ldc2 (v := (-9000000000000000001)) (pc := 9) hx hb hown hts lk_462 (by decide +kernel : decode cL_leadAnew 9 = .ok (.ldc2_w 17, 3))) (SndL.cons (sd_jret (pc := 12) hx hb hend hlk hr (by decide +kernel : decode cL_leadAnew 12 = .ok (.lreturn, 1))) SndL.nil)
  · exact SndL.nil
def hh_L_ahead : List (Nat × Nat × Nat × Nat) := [(0, 6, 7, 15)]
def m_L_ahead : jx_Y := (yL_ahead, cL_ahead, 3, (some .long), 8, 1, 6)
def cd_L_ahead (G : jx_G) : jx_C := fun pc => match pc with
  | 0 => ([ti_aload 0, ti_iload 1, ti_callX G m_X9_ahead 9 1 1 6 1 6 2 [0, 8, 0, 0], ti_i2l, ti_jret 1 6], 6)
  | 8 => ([ti_lconst (-9000000000000000001), ti_jret 1 6], 11)
  | n => ([], n)
set_option maxRecDepth 20000 in
theorem sc_L_ahead (G : jx_G) : jCdH G m_L_ahead hh_L_ahead (cd_L_ahead G) := by
  intro p e R s m args below meth c Qf ad0 n0 Q hcx htab0 hend pc
  have htab : c.exceptionTable.toList = [⟨0, 6, 7, 15⟩] := htab0
  obtain ⟨hx, hb, hml, hown, hts, hG, hlk, hr, hnm, hRm⟩ := hcx
  have hend : jEnd G p e R s m args below meth c Qf ad0 n0 3 1 6 Q := hend
  have hb : c.code = cL_ahead := hb
  have hml : c.maxLocals = 3 := hml
  have hown : s.vm.findClass "LeadCasesLaw" = some m.cls := hown
  have hr : meth.sig.returnType = (some .long) := hr
  have hRm : jRm R 8 1 6 := hRm
  unfold cd_L_ahead
  split
  · exact SndL.cons (sd_aload_n (pc := 0) hx hb (by decide +kernel : decode cL_ahead 0 = .ok (.aload_n 0, 1)) rfl) (SndL.cons (sd_iload_n (pc := 1) hx hb (by decide +kernel : decode cL_ahead 1 = .ok (.iload_n 1, 1)) rfl) (SndL.cons (sd_callX (r := 9) (ev := 2) (hsL := [0, 8, 0, 0]) (C := RX9) (T := TX9) (N := 14) (lv := 8) (mc := 1) (ms := 6) (mc' := 1) (ms' := 6) (y := m_X9_ahead) (n := 1) (pc := 2) hx hb hown hts hG hml hRm rfl rfl (by decide) (Or.inl (by decide)) (by decide) rfl lk_830 lk_831 lk_832 lk_30 rfl lk_833 ⟨by decide +kernel, by decide +kernel, by decide +kernel⟩ (fun k hk9 hz9 => by
      rcases hk9 with rfl | rfl | rfl
      · exact fun H9 locs9 c9 s9 lsA rest9 q9 ce9 g1 g2 g3 lv9 g4 kk9 => vx_catch hown [] ⟨0, 6, 7, 15⟩ [] htab (fun z hz => by cases hz) (by decide) (by decide) (hts _ lk_285) (va_Nw.use rfl (hG.2.2.2.2.2.2.2.2.2.2.2.2.2.1 "java/lang/IndexOutOfBoundsException" (by decide +kernel))) g1 g2 g3 (lv_astore_n hx hb (by decide +kernel : decode cL_ahead 7 = .ok (.astore_n 2, 1)) rfl g4 (by decide) rfl kk9)
      · exact absurd rfl hz9
      · exact absurd rfl hz9) (by decide +kernel) (by decide +kernel : decode cL_ahead 2 = .ok (.invokevirtual 101, 3))) (SndL.cons (sd_i2l (pc := 5) hx hb (by decide +kernel : decode cL_ahead 5 = .ok (.i2l, 1))) (SndL.cons (sd_jret (pc := 6) hx hb hend hlk hr (by decide +kernel : decode cL_ahead 6 = .ok (.lreturn, 1))) SndL.nil))))
  · exact SndL.cons (sd_ldc2 (v := (-9000000000000000001)) (pc := 8) hx hb hown hts lk_462 (by decide +kernel : decode cL_ahead 8 = .ok (.ldc2_w 17, 3))) (SndL.cons (sd_jret (pc := 11) hx hb hend hlk hr (by decide +kernel : decode cL_ahead 11 = .ok (.lreturn, 1))) SndL.nil)
  · exact SndL.nil
