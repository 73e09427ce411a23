def hh_L_cast : List (Nat × Nat × Nat × Nat) := [(0, 12, 15, 13), (0, 12, 19, 15), (0, 12, 23, 17)]
def m_L_cast : jx_Y := (yL_cast, cL_cast, 6, (some .int), 8, 40, 360)
def cd_L_cast (G : jx_G) : jx_C := fun pc => match pc with
  | 0 => ([ti_aload 4, ti_const 0, ti_aload 0, ti_iload 1, ti_iload 2, ti_iload 3, ti_callX G m_X9_cast 9 3 40 360 40 360 5 [0, 17, 21, 25], ti_i2l, ti_astJ, ti_goto 27], 12)
  | 17 => ([ti_const 1, ti_iret 40 360], 18)
  | 21 => ([ti_const 2, ti_iret 40 360], 22)
  | 25 => ([ti_const 3, ti_iret 40 360], 26)
  | 27 => ([ti_const 0, ti_iret 40 360], 28)
  | n => ([], n)
set_option maxRecDepth 20000 in
theorem sc_L_cast (G : jx_G) : jCdH G m_L_cast hh_L_cast (cd_L_cast G) := by
  intro p e R s m args below meth c Qf ad0 n0 Q hcx htab0 hend pc
  have htab : c.exceptionTable.toList = [⟨0, 12, 15, 13⟩, ⟨0, 12, 19, 15⟩, ⟨0, 12, 23, 17⟩] := htab0
  obtain ⟨hx, hb, hml, hown, hts, hG, hlk, hr, hnm, hRm⟩ := hcx
  have hend : jEnd G p e R s m args below meth c Qf ad0 n0 6 40 360 Q := hend
  have hb : c.code = cL_cast := hb
  have hml : c.maxLocals = 6 := hml
  have hown : s.vm.findClass "LeadCasesLaw" = some m.cls := hown
  have hr : meth.sig.returnType = (some .int) := hr
  have hRm : jRm R 8 40 360 := hRm
  unfold cd_L_cast
  split
  · exact SndL.cons (sd_aload (pc := 0) hx hb (by decide +kernel : decode cL_cast 0 = .ok (.aload 4, 2))) (SndL.cons (sd_iconst (v := 0) (pc := 2) hx hb (by decide +kernel : decode cL_cast 2 = .ok (.iconst 0, 1)) (by decide +kernel)) (SndL.cons (sd_aload_n (pc := 3) hx hb (by decide +kernel : decode cL_cast 3 = .ok (.aload_n 0, 1)) rfl) (SndL.cons (sd_iload_n (pc := 4) hx hb (by decide +kernel : decode cL_cast 4 = .ok (.iload_n 1, 1)) rfl) (SndL.cons (sd_iload_n (pc := 5) hx hb (by decide +kernel : decode cL_cast 5 = .ok (.iload_n 2, 1)) rfl) (SndL.cons (sd_iload_n (pc := 6) hx hb (by decide +kernel : decode cL_cast 6 = .ok (.iload_n 3, 1)) rfl) (SndL.cons (sd_callX (r := 9) (ev := 5) (hsL := [0, 17, 21, 25]) (C := RX9) (T := TX9) (N := 14) (lv := 8) (mc := 40) (ms := 360) (mc' := 40) (ms' := 360) (y := m_X9_cast) (n := 3) (pc := 7) hx hb hown hts hG hml hRm rfl rfl (by decide) (by decide) (by decide) rfl lk_317 lk_318 lk_319 lk_59 rfl lk_320 ⟨by decide +kernel, by decide +kernel, by decide +kernel⟩ (fun k hk9 hz9 => by
      rcases hk9 with rfl | rfl | rfl
      · exact fun H9 locs9 c9 s9 lsA rest9 q9 ce9 g1 g2 g3 lv9 g4 kk9 => vx_catch hown [] ⟨0, 12, 15, 13⟩ [⟨0, 12, 19, 15⟩, ⟨0, 12, 23, 17⟩] htab (fun z hz => by cases hz) (by decide) (by decide) (hts _ lk_314) (va_Nw.use rfl (hG.2.2.2.2.2.2.2.2.2.2.2.2.2.1 "java/lang/IndexOutOfBoundsException" (by decide +kernel))) g1 g2 g3 (lv_astore hx hb (by decide +kernel : decode cL_cast 15 = .ok (.astore 5, 2)) g4 (by decide) rfl kk9)
      · exact fun H9 locs9 c9 s9 lsA rest9 q9 ce9 g1 g2 g3 lv9 g4 kk9 => vx_catch hown [⟨0, 12, 15, 13⟩] ⟨0, 12, 19, 15⟩ [⟨0, 12, 23, 17⟩] htab (fun z hz => by rcases List.mem_cons.mp hz with rfl | hz; exact (Or.inr ⟨by decide, "java/lang/IndexOutOfBoundsException", hts _ lk_314, hG.2.2.2.2.2.2.2.2.2.2.2.2.2.2.1 "java/lang/IllegalArgumentException" (by decide +kernel) "java/lang/IndexOutOfBoundsException" (by decide +kernel) (by decide)⟩); cases hz) (by decide) (by decide) (hts _ lk_315) (va_Nw.use rfl (hG.2.2.2.2.2.2.2.2.2.2.2.2.2.1 "java/lang/IllegalArgumentException" (by decide +kernel))) g1 g2 g3 (lv_astore hx hb (by decide +kernel : decode cL_cast 19 = .ok (.astore 5, 2)) g4 (by decide) rfl kk9)
      · exact fun H9 locs9 c9 s9 lsA rest9 q9 ce9 g1 g2 g3 lv9 g4 kk9 => vx_catch hown [⟨0, 12, 15, 13⟩, ⟨0, 12, 19, 15⟩] ⟨0, 12, 23, 17⟩ [] htab (fun z hz => by rcases List.mem_cons.mp hz with rfl | hz; exact (Or.inr ⟨by decide, "java/lang/IndexOutOfBoundsException", hts _ lk_314, hG.2.2.2.2.2.2.2.2.2.2.2.2.2.2.1 "java/lang/IllegalStateException" (by decide +kernel) "java/lang/IndexOutOfBoundsException" (by decide +kernel) (by decide)⟩); rcases List.mem_cons.mp hz with rfl | hz; exact (Or.inr ⟨by decide, "java/lang/IllegalArgumentException", hts _ lk_315, hG.2.2.2.2.2.2.2.2.2.2.2.2.2.2.1 "java/lang/IllegalStateException" (by decide +kernel) "java/lang/IllegalArgumentException" (by decide +kernel) (by decide)⟩); cases hz) (by decide) (by decide) (hts _ lk_316) (va_Nw.use rfl (hG.2.2.2.2.2.2.2.2.2.2.2.2.2.1 "java/lang/IllegalStateException" (by decide +kernel))) g1 g2 g3 (lv_astore hx hb (by decide +kernel : decode cL_cast 23 = .ok (.astore 5, 2)) g4 (by decide) rfl kk9)) (by decide +kernel : decode cL_cast 7 = .ok (.invokevirtual 7, 3))) (SndL.cons (sd_i2l (pc := 10) hx hb (by decide +kernel : decode cL_cast 10 = .ok (.i2l, 1))) (SndL.cons (sd_last (pc := 11) hx hb hG (by decide +kernel : decode cL_cast 11 = .ok (.lastore, 1))) (SndL.cons (sd_goto (tgt := 27) (pc := 12) hx hb (by decide +kernel : decode cL_cast 12 = .ok (.goto 15, 3)) (by decide)) SndL.nil)))))))))
  · exact SndL.cons (sd_iconst (v := 1) (pc := 17) hx hb (by decide +kernel : decode cL_cast 17 = .ok (.iconst 1, 1)) (by decide +kernel)) (SndL.cons (sd_iret (pc := 18) hx hb hend hlk hr (by decide +kernel : decode cL_cast 18 = .ok (.ireturn, 1))) SndL.nil)
  · exact SndL.cons (sd_iconst (v := 2) (pc := 21) hx hb (by decide +kernel : decode cL_cast 21 = .ok (.iconst 2, 1)) (by decide +kernel)) (SndL.cons (sd_iret (pc := 22) hx hb hend hlk hr (by decide +kernel : decode cL_cast 22 = .ok (.ireturn, 1))) SndL.nil)
  · exact SndL.cons (sd_iconst (v := 3) (pc := 25) hx hb (by decide +kernel : decode cL_cast 25 = .ok (.iconst 3, 1)) (by decide +kernel)) (SndL.cons (sd_iret (pc := 26) hx hb hend hlk hr (by decide +kernel : decode cL_cast 26 = .ok (.ireturn, 1))) SndL.nil)
  · exact SndL.cons (sd_iconst (v := 0) (pc := 27) hx hb (by decide +kernel : decode cL_cast 27 = .ok (.iconst 0, 1)) (by decide +kernel)) (SndL.cons (sd_iret (pc := 28) hx hb hend hlk hr (by decide +kernel : decode cL_cast 28 = .ok (.ireturn, 1))) SndL.nil)
  · exact SndL.nil
def hh_L_spaces : List (Nat × Nat × Nat × Nat) := [(0, 10, 13, 15), (0, 10, 17, 17)]
def m_L_spaces : jx_Y := (yL_spaces, cL_spaces, 5, (some .int), 8, 1, 6)
def cd_L_spaces (G : jx_G) : jx_C := fun pc => match pc with
  | 0 => ([ti_aload 3, ti_const 0, ti_aload 0, ti_iload 1, ti_iload 2, ti_callX G m_X9_spaces 9 2 1 6 1 6 4 [0, 0, 15, 19], ti_i2l, ti_astJ, ti_goto 21], 10)
  | 15 => ([ti_const 1, ti_iret 1 6], 16)
  | 19 => ([ti_const 2, ti_iret 1 6], 20)
  | 21 => ([ti_const 0, ti_iret 1 6], 22)
  | n => ([], n)
set_option maxRecDepth 20000 in
theorem sc_L_spaces (G : jx_G) : jCdH G m_L_spaces hh_L_spaces (cd_L_spaces G) := by
  intro p e R s m args below meth c Qf ad0 n0 Q hcx htab0 hend pc
  have htab : c.exceptionTable.toList = [⟨0, 10, 13, 15⟩, ⟨0, 10, 17, 17⟩] := htab0
  obtain ⟨hx, hb, hml, hown, hts, hG, hlk, hr, hnm, hRm⟩ := hcx
  have hend : jEnd G p e R s m args below meth c Qf ad0 n0 5 1 6 Q := hend
  have hb : c.code = cL_spaces := hb
  have hml : c.maxLocals = 5 := hml
  have hown : s.vm.findClass "LeadCasesLaw" = some m.cls := hown
  have hr : meth.sig.returnType = (some .int) := hr
  have hRm : jRm R 8 1 6 := hRm
  unfold cd_L_spaces
  split
  · exact SndL.cons (sd_aload_n (pc := 0) hx hb (by decide +kernel : decode cL_spaces 0 = .ok (.aload_n 3, 1)) rfl) (SndL.cons (sd_iconst (v := 0) (pc := 1) hx hb (by decide +kernel : decode cL_spaces 1 = .ok (.iconst 0, 1)) (by decide +kernel)) (SndL.cons (sd_aload_n (pc := 2) hx hb (by decide +kernel : decode cL_spaces 2 = .ok (.aload_n 0, 1)) rfl) (SndL.cons (sd_iload_n (pc := 3) hx hb (by decide +kernel : decode cL_spaces 3 = .ok (.iload_n 1, 1)) rfl) (SndL.cons (sd_iload_n (pc := 4) hx hb (by decide +kernel : decode cL_spaces 4 = .ok (.iload_n 2, 1)) rfl) (SndL.cons (sd_callX (r := 9) (ev := 4) (hsL := [0, 0, 15, 19]) (C := RX9) (T := TX9) (N := 14) (lv := 8) (mc := 1) (ms := 6) (mc' := 1) (ms' := 6) (y := m_X9_spaces) (n := 2) (pc := 5) hx hb hown hts hG hml hRm rfl rfl (by decide) (by decide) (by decide) rfl lk_494 lk_495 lk_496 lk_59 rfl lk_497 ⟨by decide +kernel, by decide +kernel, by decide +kernel⟩ (fun k hk9 hz9 => by
      rcases hk9 with rfl | rfl | rfl
      · exact absurd rfl hz9
      · exact fun H9 locs9 c9 s9 lsA rest9 q9 ce9 g1 g2 g3 lv9 g4 kk9 => vx_catch hown [] ⟨0, 10, 13, 15⟩ [⟨0, 10, 17, 17⟩] htab (fun z hz => by cases hz) (by decide) (by decide) (hts _ lk_315) (va_Nw.use rfl (hG.2.2.2.2.2.2.2.2.2.2.2.2.2.1 "java/lang/IllegalArgumentException" (by decide +kernel))) g1 g2 g3 (lv_astore hx hb (by decide +kernel : decode cL_spaces 13 = .ok (.astore 4, 2)) g4 (by decide) rfl kk9)
      · exact fun H9 locs9 c9 s9 lsA rest9 q9 ce9 g1 g2 g3 lv9 g4 kk9 => vx_catch hown [⟨0, 10, 13, 15⟩] ⟨0, 10, 17, 17⟩ [] htab (fun z hz => by rcases List.mem_cons.mp hz with rfl | hz; exact (Or.inr ⟨by decide, "java/lang/IllegalArgumentException", hts _ lk_315, hG.2.2.2.2.2.2.2.2.2.2.2.2.2.2.1 "java/lang/IllegalStateException" (by decide +kernel) "java/lang/IllegalArgumentException" (by decide +kernel) (by decide)⟩); cases hz) (by decide) (by decide) (hts _ lk_316) (va_Nw.use rfl (hG.2.2.2.2.2.2.2.2.2.2.2.2.2.1 "java/lang/IllegalStateException" (by decide +kernel))) g1 g2 g3 (lv_astore hx hb (by decide +kernel : decode cL_spaces 17 = .ok (.astore 4, 2)) g4 (by decide) rfl kk9)) (by decide +kernel : decode cL_spaces 5 = .ok (.invokevirtual 19, 3))) (SndL.cons (sd_i2l (pc := 8) hx hb (by decide +kernel : decode cL_spaces 8 = .ok (.i2l, 1))) (SndL.cons (sd_last (pc := 9) hx hb hG (by decide +kernel : decode cL_spaces 9 = .ok (.lastore, 1))) (SndL.cons (sd_goto (tgt := 21) (pc := 10) hx hb (by decide +kernel : decode cL_spaces 10 = .ok (.goto 11, 3)) (by decide)) SndL.nil))))))))
  · exact SndL.cons (sd_iconst (v := 1) (pc := 15) hx hb (by decide +kernel : decode cL_spaces 15 = .ok (.iconst 1, 1)) (by decide +kernel)) (SndL.cons (sd_iret (pc := 16) hx hb hend hlk hr (by decide +kernel : decode cL_spaces 16 = .ok (.ireturn, 1))) SndL.nil)
  · exact SndL.cons (sd_iconst (v := 2) (pc := 19) hx hb (by decide +kernel : decode cL_spaces 19 = .ok (.iconst 2, 1)) (by decide +kernel)) (SndL.cons (sd_iret (pc := 20) hx hb hend hlk hr (by decide +kernel : decode cL_spaces 20 = .ok (.ireturn, 1))) SndL.nil)
  · exact SndL.cons (sd_iconst (v := 0) (pc := 21) hx hb (by decide +kernel : decode cL_spaces 21 = .ok (.iconst 0, 1)) (by decide +kernel)) (SndL.cons (sd_iret (pc := 22) hx hb hend hlk hr (by decide +kernel : decode cL_spaces 22 = .ok (.ireturn, 1))) SndL.nil)
  · exact SndL.nil
def hh_L_type : List (Nat × Nat × Nat × Nat) := [(0, 9, 12, 15), (0, 9, 15, 17)]
def m_L_type : jx_Y := (yL_type, cL_type, 4, (some .int), 8, 1, 6)
def cd_L_type (G : jx_G) : jx_C := fun pc => match pc with
  | 0 => ([ti_aload 2, ti_const 0, ti_aload 0, ti_iload 1, ti_callX G m_X9_type 9 1 1 6 1 6 3 [0, 0, 13, 16], ti_i2l, ti_astJ, ti_goto 18], 9)
  | 13 => ([ti_const 1, ti_iret 1 6], 14)
  | 16 => ([ti_const 2, ti_iret 1 6], 17)
  | 18 => ([ti_const 0, ti_iret 1 6], 19)
  | n => ([], n)
set_option maxRecDepth 20000 in
theorem sc_L_type (G : jx_G) : jCdH G m_L_type hh_L_type (cd_L_type G) := by
  intro p e R s m args below meth c Qf ad0 n0 Q hcx htab0 hend pc
  have htab : c.exceptionTable.toList = [⟨0, 9, 12, 15⟩, ⟨0, 9, 15, 17⟩] := htab0
  obtain ⟨hx, hb, hml, hown, hts, hG, hlk, hr, hnm, hRm⟩ := hcx
  have hend : jEnd G p e R s m args below meth c Qf ad0 n0 4 1 6 Q := hend
  have hb : c.code = cL_type := hb
  have hml : c.maxLocals = 4 := hml
  have hown : s.vm.findClass "LeadCasesLaw" = some m.cls := hown
  have hr : meth.sig.returnType = (some .int) := hr
  have hRm : jRm R 8 1 6 := hRm
  unfold cd_L_type
  split
  · exact SndL.cons (sd_aload_n (pc := 0) hx hb (by decide +kernel : decode cL_type 0 = .ok (.aload_n 2, 1)) rfl) (SndL.cons (sd_iconst (v := 0) (pc := 1) hx hb (by decide +kernel : decode cL_type 1 = .ok (.iconst 0, 1)) (by decide +kernel)) (SndL.cons (sd_aload_n (pc := 2) hx hb (by decide +kernel : decode cL_type 2 = .ok (.aload_n 0, 1)) rfl) (SndL.cons (sd_iload_n (pc := 3) hx hb (by decide +kernel : decode cL_type 3 = .ok (.iload_n 1, 1)) rfl) (SndL.cons (sd_callX (r := 9) (ev := 3) (hsL := [0, 0, 13, 16]) (C := RX9) (T := TX9) (N := 14) (lv := 8) (mc := 1) (ms := 6) (mc' := 1) (ms' := 6) (y := m_X9_type) (n := 1) (pc := 4) hx hb hown hts hG hml hRm rfl rfl (by decide) (by decide) (by decide) rfl lk_515 lk_516 lk_517 lk_59 rfl lk_518 ⟨by decide +kernel, by decide +kernel, by decide +kernel⟩ (fun k hk9 hz9 => by
      rcases hk9 with rfl | rfl | rfl
      · exact absurd rfl hz9
      · exact fun H9 locs9 c9 s9 lsA rest9 q9 ce9 g1 g2 g3 lv9 g4 kk9 => vx_catch hown [] ⟨0, 9, 12, 15⟩ [⟨0, 9, 15, 17⟩] htab (fun z hz => by cases hz) (by decide) (by decide) (hts _ lk_315) (va_Nw.use rfl (hG.2.2.2.2.2.2.2.2.2.2.2.2.2.1 "java/lang/IllegalArgumentException" (by decide +kernel))) g1 g2 g3 (lv_astore_n hx hb (by decide +kernel : decode cL_type 12 = .ok (.astore_n 3, 1)) rfl g4 (by decide) rfl kk9)
      · exact fun H9 locs9 c9 s9 lsA rest9 q9 ce9 g1 g2 g3 lv9 g4 kk9 => vx_catch hown [⟨0, 9, 12, 15⟩] ⟨0, 9, 15, 17⟩ [] htab (fun z hz => by rcases List.mem_cons.mp hz with rfl | hz; exact (Or.inr ⟨by decide, "java/lang/IllegalArgumentException", hts _ lk_315, hG.2.2.2.2.2.2.2.2.2.2.2.2.2.2.1 "java/lang/IllegalStateException" (by decide +kernel) "java/lang/IllegalArgumentException" (by decide +kernel) (by decide)⟩); cases hz) (by decide) (by decide) (hts _ lk_316) (va_Nw.use rfl (hG.2.2.2.2.2.2.2.2.2.2.2.2.2.1 "java/lang/IllegalStateException" (by decide +kernel))) g1 g2 g3 (lv_astore_n hx hb (by decide +kernel : decode cL_type 15 = .ok (.astore_n 3, 1)) rfl g4 (by decide) rfl kk9)) (by decide +kernel : decode cL_type 4 = .ok (.invokevirtual 23, 3))) (SndL.cons (sd_i2l (pc := 7) hx hb (by decide +kernel : decode cL_type 7 = .ok (.i2l, 1))) (SndL.cons (sd_last (pc := 8) hx hb hG (by decide +kernel : decode cL_type 8 = .ok (.lastore, 1))) (SndL.cons (sd_goto (tgt := 18) (pc := 9) hx hb (by decide +kernel : decode cL_type 9 = .ok (.goto 9, 3)) (by decide)) SndL.nil)))))))
  · exact SndL.cons (sd_iconst (v := 1) (pc := 13) hx hb (by decide +kernel : decode cL_type 13 = .ok (.iconst 1, 1)) (by decide +kernel)) (SndL.cons (sd_iret (pc := 14) hx hb hend hlk hr (by decide +kernel : decode cL_type 14 = .ok (.ireturn, 1))) SndL.nil)
  · exact SndL.cons (sd_iconst (v := 2) (pc := 16) hx hb (by decide +kernel : decode cL_type 16 = .ok (.iconst 2, 1)) (by decide +kernel)) (SndL.cons (sd_iret (pc := 17) hx hb hend hlk hr (by decide +kernel : decode cL_type 17 = .ok (.ireturn, 1))) SndL.nil)
  · exact SndL.cons (sd_iconst (v := 0) (pc := 18) hx hb (by decide +kernel : decode cL_type 18 = .ok (.iconst 0, 1)) (by decide +kernel)) (SndL.cons (sd_iret (pc := 19) hx hb hend hlk hr (by decide +kernel : decode cL_type 19 = .ok (.ireturn, 1))) SndL.nil)
  · exact SndL.nil
def hh_L_measure : List (Nat × Nat × Nat × Nat) := [(0, 9, 12, 15), (0, 9, 15, 17)]
def m_L_measure : jx_Y := (yL_measure, cL_measure, 4, (some .int), 8, 1, 6)
def cd_L_measure (G : jx_G) : jx_C := fun pc => match pc with
  | 0 => ([ti_aload 2, ti_const 0, ti_aload 0, ti_iload 1, ti_callX G m_X9_measure 9 1 1 6 1 6 3 [0, 0, 13, 16], ti_i2l, ti_astJ, ti_goto 18], 9)
  | 13 => ([ti_const 1, ti_iret 1 6], 14)
  | 16 => ([ti_const 2, ti_iret 1 6], 17)
  | 18 => ([ti_const 0, ti_iret 1 6], 19)
  | n => ([], n)
set_option maxRecDepth 20000 in
theorem sc_L_measure (G : jx_G) : jCdH G m_L_measure hh_L_measure (cd_L_measure G) := by
  intro p e R s m args below meth c Qf ad0 n0 Q hcx htab0 hend pc
  have htab : c.exceptionTable.toList = [⟨0, 9, 12, 15⟩, ⟨0, 9, 15, 17⟩] := htab0
  obtain ⟨hx, hb, hml, hown, hts, hG, hlk, hr, hnm, hRm⟩ := hcx
  have hend : jEnd G p e R s m args below meth c Qf ad0 n0 4 1 6 Q := hend
  have hb : c.code = cL_measure := hb
  have hml : c.maxLocals = 4 := hml
  have hown : s.vm.findClass "LeadCasesLaw" = some m.cls := hown
  have hr : meth.sig.returnType = (some .int) := hr
  have hRm : jRm R 8 1 6 := hRm
  unfold cd_L_measure
  split
  · exact SndL.cons (sd_aload_n (pc := 0) hx hb (by decide +kernel : decode cL_measure 0 = .ok (.aload_n 2, 1)) rfl) (SndL.cons (sd_iconst (v := 0) (pc := 1) hx hb (by decide +kernel : decode cL_measure 1 = .ok (.iconst 0, 1)) (by decide +kernel)) (SndL.cons (sd_aload_n (pc := 2) hx hb (by decide +kernel : decode cL_measure 2 = .ok (.aload_n 0, 1)) rfl) (SndL.cons (sd_iload_n (pc := 3) hx hb (by decide +kernel : decode cL_measure 3 = .ok (.iload_n 1, 1)) rfl) (SndL.cons (sd_callX (r := 9) (ev := 3) (hsL := [0, 0, 13, 16]) (C := RX9) (T := TX9) (N := 14) (lv := 8) (mc := 1) (ms := 6) (mc' := 1) (ms' := 6) (y := m_X9_measure) (n := 1) (pc := 4) hx hb hown hts hG hml hRm rfl rfl (by decide) (by decide) (by decide) rfl lk_535 lk_536 lk_537 lk_59 rfl lk_538 ⟨by decide +kernel, by decide +kernel, by decide +kernel⟩ (fun k hk9 hz9 => by
      rcases hk9 with rfl | rfl | rfl
      · exact absurd rfl hz9
      · exact fun H9 locs9 c9 s9 lsA rest9 q9 ce9 g1 g2 g3 lv9 g4 kk9 => vx_catch hown [] ⟨0, 9, 12, 15⟩ [⟨0, 9, 15, 17⟩] htab (fun z hz => by cases hz) (by decide) (by decide) (hts _ lk_315) (va_Nw.use rfl (hG.2.2.2.2.2.2.2.2.2.2.2.2.2.1 "java/lang/IllegalArgumentException" (by decide +kernel))) g1 g2 g3 (lv_astore_n hx hb (by decide +kernel : decode cL_measure 12 = .ok (.astore_n 3, 1)) rfl g4 (by decide) rfl kk9)
      · exact fun H9 locs9 c9 s9 lsA rest9 q9 ce9 g1 g2 g3 lv9 g4 kk9 => vx_catch hown [⟨0, 9, 12, 15⟩] ⟨0, 9, 15, 17⟩ [] htab (fun z hz => by rcases List.mem_cons.mp hz with rfl | hz; exact (Or.inr ⟨by decide, "java/lang/IllegalArgumentException", hts _ lk_315, hG.2.2.2.2.2.2.2.2.2.2.2.2.2.2.1 "java/lang/IllegalStateException" (by decide +kernel) "java/lang/IllegalArgumentException" (by decide +kernel) (by decide)⟩); cases hz) (by decide) (by decide) (hts _ lk_316) (va_Nw.use rfl (hG.2.2.2.2.2.2.2.2.2.2.2.2.2.1 "java/lang/IllegalStateException" (by decide +kernel))) g1 g2 g3 (lv_astore_n hx hb (by decide +kernel : decode cL_measure 15 = .ok (.astore_n 3, 1)) rfl g4 (by decide) rfl kk9)) (by decide +kernel : decode cL_measure 4 = .ok (.invokevirtual 27, 3))) (SndL.cons (sd_i2l (pc := 7) hx hb (by decide +kernel : decode cL_measure 7 = .ok (.i2l, 1))) (SndL.cons (sd_last (pc := 8) hx hb hG (by decide +kernel : decode cL_measure 8 = .ok (.lastore, 1))) (SndL.cons (sd_goto (tgt := 18) (pc := 9) hx hb (by decide +kernel : decode cL_measure 9 = .ok (.goto 9, 3)) (by decide)) SndL.nil)))))))
  · exact SndL.cons (sd_iconst (v := 1) (pc := 13) hx hb (by decide +kernel : decode cL_measure 13 = .ok (.iconst 1, 1)) (by decide +kernel)) (SndL.cons (sd_iret (pc := 14) hx hb hend hlk hr (by decide +kernel : decode cL_measure 14 = .ok (.ireturn, 1))) SndL.nil)
  · exact SndL.cons (sd_iconst (v := 2) (pc := 16) hx hb (by decide +kernel : decode cL_measure 16 = .ok (.iconst 2, 1)) (by decide +kernel)) (SndL.cons (sd_iret (pc := 17) hx hb hend hlk hr (by decide +kernel : decode cL_measure 17 = .ok (.ireturn, 1))) SndL.nil)
  · exact SndL.cons (sd_iconst (v := 0) (pc := 18) hx hb (by decide +kernel : decode cL_measure 18 = .ok (.iconst 0, 1)) (by decide +kernel)) (SndL.cons (sd_iret (pc := 19) hx hb hend hlk hr (by decide +kernel : decode cL_measure 19 = .ok (.ireturn, 1))) SndL.nil)
  · exact SndL.nil
def hh_L_set : List (Nat × Nat × Nat × Nat) := [(0, 10, 13, 13), (0, 10, 17, 17)]
def m_L_set : jx_Y := (yL_set, cL_set, 5, (some .int), 8, 1, 6)
def cd_L_set (G : jx_G) : jx_C := fun pc => match pc with
  | 0 => ([ti_aload 3, ti_const 0, ti_aload 0, ti_iload 1, ti_iload 2, ti_callX G m_X9_set 9 2 1 6 1 6 4 [0, 15, 0, 19], ti_i2l, ti_astJ, ti_goto 21], 10)
  | 15 => ([ti_const 1, ti_iret 1 6], 16)
  | 19 => ([ti_const 2, ti_iret 1 6], 20)
  | 21 => ([ti_const 0, ti_iret 1 6], 22)
  | n => ([], n)
set_option maxRecDepth 20000 in
theorem sc_L_set (G : jx_G) : jCdH G m_L_set hh_L_set (cd_L_set G) := by
  intro p e R s m args below meth c Qf ad0 n0 Q hcx htab0 hend pc
  have htab : c.exceptionTable.toList = [⟨0, 10, 13, 13⟩, ⟨0, 10, 17, 17⟩] := htab0
  obtain ⟨hx, hb, hml, hown, hts, hG, hlk, hr, hnm, hRm⟩ := hcx
  have hend : jEnd G p e R s m args below meth c Qf ad0 n0 5 1 6 Q := hend
  have hb : c.code = cL_set := hb
  have hml : c.maxLocals = 5 := hml
  have hown : s.vm.findClass "LeadCasesLaw" = some m.cls := hown
  have hr : meth.sig.returnType = (some .int) := hr
  have hRm : jRm R 8 1 6 := hRm
  unfold cd_L_set
  split
  · exact SndL.cons (sd_aload_n (pc := 0) hx hb (by decide +kernel : decode cL_set 0 = .ok (.aload_n 3, 1)) rfl) (SndL.cons (sd_iconst (v := 0) (pc := 1) hx hb (by decide +kernel : decode cL_set 1 = .ok (.iconst 0, 1)) (by decide +kernel)) (SndL.cons (sd_aload_n (pc := 2) hx hb (by decide +kernel : decode cL_set 2 = .ok (.aload_n 0, 1)) rfl) (SndL.cons (sd_iload_n (pc := 3) hx hb (by decide +kernel : decode cL_set 3 = .ok (.iload_n 1, 1)) rfl) (SndL.cons (sd_iload_n (pc := 4) hx hb (by decide +kernel : decode cL_set 4 = .ok (.iload_n 2, 1)) rfl) (SndL.cons (sd_callX (r := 9) (ev := 4) (hsL := [0, 15, 0, 19]) (C := RX9) (T := TX9) (N := 14) (lv := 8) (mc := 1) (ms := 6) (mc' := 1) (ms' := 6) (y := m_X9_set) (n := 2) (pc := 5) hx hb hown hts hG hml hRm rfl rfl (by decide) (by decide) (by decide) rfl lk_544 lk_545 lk_546 lk_59 rfl lk_547 ⟨by decide +kernel, by decide +kernel, by decide +kernel⟩ (fun k hk9 hz9 => by
      rcases hk9 with rfl | rfl | rfl
      · exact fun H9 locs9 c9 s9 lsA rest9 q9 ce9 g1 g2 g3 lv9 g4 kk9 => vx_catch hown [] ⟨0, 10, 13, 13⟩ [⟨0, 10, 17, 17⟩] htab (fun z hz => by cases hz) (by decide) (by decide) (hts _ lk_314) (va_Nw.use rfl (hG.2.2.2.2.2.2.2.2.2.2.2.2.2.1 "java/lang/IndexOutOfBoundsException" (by decide +kernel))) g1 g2 g3 (lv_astore hx hb (by decide +kernel : decode cL_set 13 = .ok (.astore 4, 2)) g4 (by decide) rfl kk9)
      · exact absurd rfl hz9
      · exact fun H9 locs9 c9 s9 lsA rest9 q9 ce9 g1 g2 g3 lv9 g4 kk9 => vx_catch hown [⟨0, 10, 13, 13⟩] ⟨0, 10, 17, 17⟩ [] htab (fun z hz => by rcases List.mem_cons.mp hz with rfl | hz; exact (Or.inr ⟨by decide, "java/lang/IndexOutOfBoundsException", hts _ lk_314, hG.2.2.2.2.2.2.2.2.2.2.2.2.2.2.1 "java/lang/IllegalStateException" (by decide +kernel) "java/lang/IndexOutOfBoundsException" (by decide +kernel) (by decide)⟩); cases hz) (by decide) (by decide) (hts _ lk_316) (va_Nw.use rfl (hG.2.2.2.2.2.2.2.2.2.2.2.2.2.1 "java/lang/IllegalStateException" (by decide +kernel))) g1 g2 g3 (lv_astore hx hb (by decide +kernel : decode cL_set 17 = .ok (.astore 4, 2)) g4 (by decide) rfl kk9)) (by decide +kernel : decode cL_set 5 = .ok (.invokevirtual 31, 3))) (SndL.cons (sd_i2l (pc := 8) hx hb (by decide +kernel : decode cL_set 8 = .ok (.i2l, 1))) (SndL.cons (sd_last (pc := 9) hx hb hG (by decide +kernel : decode cL_set 9 = .ok (.lastore, 1))) (SndL.cons (sd_goto (tgt := 21) (pc := 10) hx hb (by decide +kernel : decode cL_set 10 = .ok (.goto 11, 3)) (by decide)) SndL.nil))))))))
  · exact SndL.cons (sd_iconst (v := 1) (pc := 15) hx hb (by decide +kernel : decode cL_set 15 = .ok (.iconst 1, 1)) (by decide +kernel)) (SndL.cons (sd_iret (pc := 16) hx hb hend hlk hr (by decide +kernel : decode cL_set 16 = .ok (.ireturn, 1))) SndL.nil)
  · exact SndL.cons (sd_iconst (v := 2) (pc := 19) hx hb (by decide +kernel : decode cL_set 19 = .ok (.iconst 2, 1)) (by decide +kernel)) (SndL.cons (sd_iret (pc := 20) hx hb hend hlk hr (by decide +kernel : decode cL_set 20 = .ok (.ireturn, 1))) SndL.nil)
  · exact SndL.cons (sd_iconst (v := 0) (pc := 21) hx hb (by decide +kernel : decode cL_set 21 = .ok (.iconst 0, 1)) (by decide +kernel)) (SndL.cons (sd_iret (pc := 22) hx hb hend hlk hr (by decide +kernel : decode cL_set 22 = .ok (.ireturn, 1))) SndL.nil)
  · exact SndL.nil
def hh_L_mend : List (Nat × Nat × Nat × Nat) := [(0, 10, 13, 13), (0, 10, 17, 17)]
def m_L_mend : jx_Y := (yL_mend, cL_mend, 5, (some .int), 8, 1, 6)
def cd_L_mend (G : jx_G) : jx_C := fun pc => match pc with
  | 0 => ([ti_aload 3, ti_const 0, ti_aload 0, ti_iload 1, ti_iload 2, ti_callX G m_X9_mend 9 2 1 6 1 6 4 [0, 15, 0, 19], ti_i2l, ti_astJ, ti_goto 21], 10)
  | 15 => ([ti_const 1, ti_iret 1 6], 16)
  | 19 => ([ti_const 2, ti_iret 1 6], 20)
  | 21 => ([ti_const 0, ti_iret 1 6], 22)
  | n => ([], n)
set_option maxRecDepth 20000 in
theorem sc_L_mend (G : jx_G) : jCdH G m_L_mend hh_L_mend (cd_L_mend G) := by
  intro p e R s m args below meth c Qf ad0 n0 Q hcx htab0 hend pc
  have htab : c.exceptionTable.toList = [⟨0, 10, 13, 13⟩, ⟨0, 10, 17, 17⟩] := htab0
  obtain ⟨hx, hb, hml, hown, hts, hG, hlk, hr, hnm, hRm⟩ := hcx
  have hend : jEnd G p e R s m args below meth c Qf ad0 n0 5 1 6 Q := hend
  have hb : c.code = cL_mend := hb
  have hml : c.maxLocals = 5 := hml
  have hown : s.vm.findClass "LeadCasesLaw" = some m.cls := hown
  have hr : meth.sig.returnType = (some .int) := hr
  have hRm : jRm R 8 1 6 := hRm
  unfold cd_L_mend
  split
  · exact SndL.cons (sd_aload_n (pc := 0) hx hb (by decide +kernel : decode cL_mend 0 = .ok (.aload_n 3, 1)) rfl) (SndL.cons (sd_iconst (v := 0) (pc := 1) hx hb (by decide +kernel : decode cL_mend 1 = .ok (.iconst 0, 1)) (by decide +kernel)) (SndL.cons (sd_aload_n (pc := 2) hx hb (by decide +kernel : decode cL_mend 2 = .ok (.aload_n 0, 1)) rfl) (SndL.cons (sd_iload_n (pc := 3) hx hb (by decide +kernel : decode cL_mend 3 = .ok (.iload_n 1, 1)) rfl) (SndL.cons (sd_iload_n (pc := 4) hx hb (by decide +kernel : decode cL_mend 4 = .ok (.iload_n 2, 1)) rfl) (SndL.cons (sd_callX (r := 9) (ev := 4) (hsL := [0, 15, 0, 19]) (C := RX9) (T := TX9) (N := 14) (lv := 8) (mc := 1) (ms := 6) (mc' := 1) (ms' := 6) (y := m_X9_mend) (n := 2) (pc := 5) hx hb hown hts hG hml hRm rfl rfl (by decide) (by decide) (by decide) rfl lk_667 lk_668 lk_669 lk_59 rfl lk_670 ⟨by decide +kernel, by decide +kernel, by decide +kernel⟩ (fun k hk9 hz9 => by
      rcases hk9 with rfl | rfl | rfl
      · exact fun H9 locs9 c9 s9 lsA rest9 q9 ce9 g1 g2 g3 lv9 g4 kk9 => vx_catch hown [] ⟨0, 10, 13, 13⟩ [⟨0, 10, 17, 17⟩] htab (fun z hz => by cases hz) (by decide) (by decide) (hts _ lk_314) (va_Nw.use rfl (hG.2.2.2.2.2.2.2.2.2.2.2.2.2.1 "java/lang/IndexOutOfBoundsException" (by decide +kernel))) g1 g2 g3 (lv_astore hx hb (by decide +kernel : decode cL_mend 13 = .ok (.astore 4, 2)) g4 (by decide) rfl kk9)
      · exact absurd rfl hz9
      · exact fun H9 locs9 c9 s9 lsA rest9 q9 ce9 g1 g2 g3 lv9 g4 kk9 => vx_catch hown [⟨0, 10, 13, 13⟩] ⟨0, 10, 17, 17⟩ [] htab (fun z hz => by rcases List.mem_cons.mp hz with rfl | hz; exact (Or.inr ⟨by decide, "java/lang/IndexOutOfBoundsException", hts _ lk_314, hG.2.2.2.2.2.2.2.2.2.2.2.2.2.2.1 "java/lang/IllegalStateException" (by decide +kernel) "java/lang/IndexOutOfBoundsException" (by decide +kernel) (by decide)⟩); cases hz) (by decide) (by decide) (hts _ lk_316) (va_Nw.use rfl (hG.2.2.2.2.2.2.2.2.2.2.2.2.2.1 "java/lang/IllegalStateException" (by decide +kernel))) g1 g2 g3 (lv_astore hx hb (by decide +kernel : decode cL_mend 17 = .ok (.astore 4, 2)) g4 (by decide) rfl kk9)) (by decide +kernel : decode cL_mend 5 = .ok (.invokevirtual 35, 3))) (SndL.cons (sd_i2l (pc := 8) hx hb (by decide +kernel : decode cL_mend 8 = .ok (.i2l, 1))) (SndL.cons (sd_last (pc := 9) hx hb hG (by decide +kernel : decode cL_mend 9 = .ok (.lastore, 1))) (SndL.cons (sd_goto (tgt := 21) (pc := 10) hx hb (by decide +kernel : decode cL_mend 10 = .ok (.goto 11, 3)) (by decide)) SndL.nil))))))))
  · exact SndL.cons (sd_iconst (v := 1) (pc := 15) hx hb (by decide +kernel : decode cL_mend 15 = .ok (.iconst 1, 1)) (by decide +kernel)) (SndL.cons (sd_iret (pc := 16) hx hb hend hlk hr (by decide +kernel : decode cL_mend 16 = .ok (.ireturn, 1))) SndL.nil)
  · exact SndL.cons (sd_iconst (v := 2) (pc := 19) hx hb (by decide +kernel : decode cL_mend 19 = .ok (.iconst 2, 1)) (by decide +kernel)) (SndL.cons (sd_iret (pc := 20) hx hb hend hlk hr (by decide +kernel : decode cL_mend 20 = .ok (.ireturn, 1))) SndL.nil)
  · exact SndL.cons (sd_iconst (v := 0) (pc := 21) hx hb (by decide +kernel : decode cL_mend 21 = .ok (.iconst 0, 1)) (by decide +kernel)) (SndL.cons (sd_iret (pc := 22) hx hb hend hlk hr (by decide +kernel : decode cL_mend 22 = .ok (.ireturn, 1))) SndL.nil)
  · exact SndL.nil
def hh_L_putBack : List (Nat × Nat × Nat × Nat) := [(0, 9, 12, 13), (0, 9, 15, 17)]
def m_L_putBack : jx_Y := (yL_putBack, cL_putBack, 4, (some .int), 8, 1, 6)
def cd_L_putBack (G : jx_G) : jx_C := fun pc => match pc with
  | 0 => ([ti_aload 2, ti_const 0, ti_aload 0, ti_iload 1, ti_callX G m_X9_putBack 9 1 1 6 1 6 3 [0, 13, 0, 16], ti_i2l, ti_astJ, ti_goto 18], 9)
  | 13 => ([ti_const 1, ti_iret 1 6], 14)
  | 16 => ([ti_const 2, ti_iret 1 6], 17)
  | 18 => ([ti_const 0, ti_iret 1 6], 19)
  | n => ([], n)
set_option maxRecDepth 20000 in
theorem sc_L_putBack (G : jx_G) : jCdH G m_L_putBack hh_L_putBack (cd_L_putBack G) := by
  intro p e R s m args below meth c Qf ad0 n0 Q hcx htab0 hend pc
  have htab : c.exceptionTable.toList = [⟨0, 9, 12, 13⟩, ⟨0, 9, 15, 17⟩] := htab0
  obtain ⟨hx, hb, hml, hown, hts, hG, hlk, hr, hnm, hRm⟩ := hcx
  have hend : jEnd G p e R s m args below meth c Qf ad0 n0 4 1 6 Q := hend
  have hb : c.code = cL_putBack := hb
  have hml : c.maxLocals = 4 := hml
  have hown : s.vm.findClass "LeadCasesLaw" = some m.cls := hown
  have hr : meth.sig.returnType = (some .int) := hr
  have hRm : jRm R 8 1 6 := hRm
  unfold cd_L_putBack
  split
  · exact SndL.cons (sd_aload_n (pc := 0) hx hb (by decide +kernel : decode cL_putBack 0 = .ok (.aload_n 2, 1)) rfl) (SndL.cons (sd_iconst (v := 0) (pc := 1) hx hb (by decide +kernel : decode cL_putBack 1 = .ok (.iconst 0, 1)) (by decide +kernel)) (SndL.cons (sd_aload_n (pc := 2) hx hb (by decide +kernel : decode cL_putBack 2 = .ok (.aload_n 0, 1)) rfl) (SndL.cons (sd_iload_n (pc := 3) hx hb (by decide +kernel : decode cL_putBack 3 = .ok (.iload_n 1, 1)) rfl) (SndL.cons (sd_callX (r := 9) (ev := 3) (hsL := [0, 13, 0, 16]) (C := RX9) (T := TX9) (N := 14) (lv := 8) (mc := 1) (ms := 6) (mc' := 1) (ms' := 6) (y := m_X9_putBack) (n := 1) (pc := 4) hx hb hown hts hG hml hRm rfl rfl (by decide) (by decide) (by decide) rfl lk_735 lk_736 lk_737 lk_59 rfl lk_738 ⟨by decide +kernel, by decide +kernel, by decide +kernel⟩ (fun k hk9 hz9 => by
      rcases hk9 with rfl | rfl | rfl
      · exact fun H9 locs9 c9 s9 lsA rest9 q9 ce9 g1 g2 g3 lv9 g4 kk9 => vx_catch hown [] ⟨0, 9, 12, 13⟩ [⟨0, 9, 15, 17⟩] htab (fun z hz => by cases hz) (by decide) (by decide) (hts _ lk_314) (va_Nw.use rfl (hG.2.2.2.2.2.2.2.2.2.2.2.2.2.1 "java/lang/IndexOutOfBoundsException" (by decide +kernel))) g1 g2 g3 (lv_astore_n hx hb (by decide +kernel : decode cL_putBack 12 = .ok (.astore_n 3, 1)) rfl g4 (by decide) rfl kk9)
      · exact absurd rfl hz9
      · exact fun H9 locs9 c9 s9 lsA rest9 q9 ce9 g1 g2 g3 lv9 g4 kk9 => vx_catch hown [⟨0, 9, 12, 13⟩] ⟨0, 9, 15, 17⟩ [] htab (fun z hz => by rcases List.mem_cons.mp hz with rfl | hz; exact (Or.inr ⟨by decide, "java/lang/IndexOutOfBoundsException", hts _ lk_314, hG.2.2.2.2.2.2.2.2.2.2.2.2.2.2.1 "java/lang/IllegalStateException" (by decide +kernel) "java/lang/IndexOutOfBoundsException" (by decide +kernel) (by decide)⟩); cases hz) (by decide) (by decide) (hts _ lk_316) (va_Nw.use rfl (hG.2.2.2.2.2.2.2.2.2.2.2.2.2.1 "java/lang/IllegalStateException" (by decide +kernel))) g1 g2 g3 (lv_astore_n hx hb (by decide +kernel : decode cL_putBack 15 = .ok (.astore_n 3, 1)) rfl g4 (by decide) rfl kk9)) (by decide +kernel : decode cL_putBack 4 = .ok (.invokevirtual 38, 3))) (SndL.cons (sd_i2l (pc := 7) hx hb (by decide +kernel : decode cL_putBack 7 = .ok (.i2l, 1))) (SndL.cons (sd_last (pc := 8) hx hb hG (by decide +kernel : decode cL_putBack 8 = .ok (.lastore, 1))) (SndL.cons (sd_goto (tgt := 18) (pc := 9) hx hb (by decide +kernel : decode cL_putBack 9 = .ok (.goto 9, 3)) (by decide)) SndL.nil)))))))
  · exact SndL.cons (sd_iconst (v := 1) (pc := 13) hx hb (by decide +kernel : decode cL_putBack 13 = .ok (.iconst 1, 1)) (by decide +kernel)) (SndL.cons (sd_iret (pc := 14) hx hb hend hlk hr (by decide +kernel : decode cL_putBack 14 = .ok (.ireturn, 1))) SndL.nil)
  · exact SndL.cons (sd_iconst (v := 2) (pc := 16) hx hb (by decide +kernel : decode cL_putBack 16 = .ok (.iconst 2, 1)) (by decide +kernel)) (SndL.cons (sd_iret (pc := 17) hx hb hend hlk hr (by decide +kernel : decode cL_putBack 17 = .ok (.ireturn, 1))) SndL.nil)
  · exact SndL.cons (sd_iconst (v := 0) (pc := 18) hx hb (by decide +kernel : decode cL_putBack 18 = .ok (.iconst 0, 1)) (by decide +kernel)) (SndL.cons (sd_iret (pc := 19) hx hb hend hlk hr (by decide +kernel : decode cL_putBack 19 = .ok (.ireturn, 1))) SndL.nil)
  · exact SndL.nil
def hh_L_foul : List (Nat × Nat × Nat × Nat) := [(0, 12, 15, 13), (0, 12, 19, 15), (0, 12, 23, 17)]
def m_L_foul : jx_Y := (yL_foul, cL_foul, 6, (some .int), 8, 1, 6)
def cd_L_foul (G : jx_G) : jx_C := fun pc => match pc with
  | 0 => ([ti_aload 4, ti_const 0, ti_aload 0, ti_iload 1, ti_iload 2, ti_iload 3, ti_callX G m_X9_foul 9 3 1 6 1 6 5 [0, 17, 21, 25], ti_i2l, ti_astJ, ti_goto 27], 12)
  | 17 => ([ti_const 1, ti_iret 1 6], 18)
  | 21 => ([ti_const 2, ti_iret 1 6], 22)
  | 25 => ([ti_const 3, ti_iret 1 6], 26)
  | 27 => ([ti_const 0, ti_iret 1 6], 28)
  | n => ([], n)
set_option maxRecDepth 20000 in
theorem sc_L_foul (G : jx_G) : jCdH G m_L_foul hh_L_foul (cd_L_foul G) := by
  intro p e R s m args below meth c Qf ad0 n0 Q hcx htab0 hend pc
  have htab : c.exceptionTable.toList = [⟨0, 12, 15, 13⟩, ⟨0, 12, 19, 15⟩, ⟨0, 12, 23, 17⟩] := htab0
  obtain ⟨hx, hb, hml, hown, hts, hG, hlk, hr, hnm, hRm⟩ := hcx
  have hend : jEnd G p e R s m args below meth c Qf ad0 n0 6 1 6 Q := hend
  have hb : c.code = cL_foul := hb
  have hml : c.maxLocals = 6 := hml
  have hown : s.vm.findClass "LeadCasesLaw" = some m.cls := hown
  have hr : meth.sig.returnType = (some .int) := hr
  have hRm : jRm R 8 1 6 := hRm
  unfold cd_L_foul
  split
  · exact SndL.cons (sd_aload (pc := 0) hx hb (by decide +kernel : decode cL_foul 0 = .ok (.aload 4, 2))) (SndL.cons (sd_iconst (v := 0) (pc := 2) hx hb (by decide +kernel : decode cL_foul 2 = .ok (.iconst 0, 1)) (by decide +kernel)) (SndL.cons (sd_aload_n (pc := 3) hx hb (by decide +kernel : decode cL_foul 3 = .ok (.aload_n 0, 1)) rfl) (SndL.cons (sd_iload_n (pc := 4) hx hb (by decide +kernel : decode cL_foul 4 = .ok (.iload_n 1, 1)) rfl) (SndL.cons (sd_iload_n (pc := 5) hx hb (by decide +kernel : decode cL_foul 5 = .ok (.iload_n 2, 1)) rfl) (SndL.cons (sd_iload_n (pc := 6) hx hb (by decide +kernel : decode cL_foul 6 = .ok (.iload_n 3, 1)) rfl) (SndL.cons (sd_callX (r := 9) (ev := 5) (hsL := [0, 17, 21, 25]) (C := RX9) (T := TX9) (N := 14) (lv := 8) (mc := 1) (ms := 6) (mc' := 1) (ms' := 6) (y := m_X9_foul) (n := 3) (pc := 7) hx hb hown hts hG hml hRm rfl rfl (by decide) (by decide) (by decide) rfl lk_752 lk_753 lk_754 lk_59 rfl lk_755 ⟨by decide +kernel, by decide +kernel, by decide +kernel⟩ (fun k hk9 hz9 => by
      rcases hk9 with rfl | rfl | rfl
      · exact fun H9 locs9 c9 s9 lsA rest9 q9 ce9 g1 g2 g3 lv9 g4 kk9 => vx_catch hown [] ⟨0, 12, 15, 13⟩ [⟨0, 12, 19, 15⟩, ⟨0, 12, 23, 17⟩] htab (fun z hz => by cases hz) (by decide) (by decide) (hts _ lk_314) (va_Nw.use rfl (hG.2.2.2.2.2.2.2.2.2.2.2.2.2.1 "java/lang/IndexOutOfBoundsException" (by decide +kernel))) g1 g2 g3 (lv_astore hx hb (by decide +kernel : decode cL_foul 15 = .ok (.astore 5, 2)) g4 (by decide) rfl kk9)
      · exact fun H9 locs9 c9 s9 lsA rest9 q9 ce9 g1 g2 g3 lv9 g4 kk9 => vx_catch hown [⟨0, 12, 15, 13⟩] ⟨0, 12, 19, 15⟩ [⟨0, 12, 23, 17⟩] htab (fun z hz => by rcases List.mem_cons.mp hz with rfl | hz; exact (Or.inr ⟨by decide, "java/lang/IndexOutOfBoundsException", hts _ lk_314, hG.2.2.2.2.2.2.2.2.2.2.2.2.2.2.1 "java/lang/IllegalArgumentException" (by decide +kernel) "java/lang/IndexOutOfBoundsException" (by decide +kernel) (by decide)⟩); cases hz) (by decide) (by decide) (hts _ lk_315) (va_Nw.use rfl (hG.2.2.2.2.2.2.2.2.2.2.2.2.2.1 "java/lang/IllegalArgumentException" (by decide +kernel))) g1 g2 g3 (lv_astore hx hb (by decide +kernel : decode cL_foul 19 = .ok (.astore 5, 2)) g4 (by decide) rfl kk9)
      · exact fun H9 locs9 c9 s9 lsA rest9 q9 ce9 g1 g2 g3 lv9 g4 kk9 => vx_catch hown [⟨0, 12, 15, 13⟩, ⟨0, 12, 19, 15⟩] ⟨0, 12, 23, 17⟩ [] htab (fun z hz => by rcases List.mem_cons.mp hz with rfl | hz; exact (Or.inr ⟨by decide, "java/lang/IndexOutOfBoundsException", hts _ lk_314, hG.2.2.2.2.2.2.2.2.2.2.2.2.2.2.1 "java/lang/IllegalStateException" (by decide +kernel) "java/lang/IndexOutOfBoundsException" (by decide +kernel) (by decide)⟩); rcases List.mem_cons.mp hz with rfl | hz; exact (Or.inr ⟨by decide, "java/lang/IllegalArgumentException", hts _ lk_315, hG.2.2.2.2.2.2.2.2.2.2.2.2.2.2.1 "java/lang/IllegalStateException" (by decide +kernel) "java/lang/IllegalArgumentException" (by decide +kernel) (by decide)⟩); cases hz) (by decide) (by decide) (hts _ lk_316) (va_Nw.use rfl (hG.2.2.2.2.2.2.2.2.2.2.2.2.2.1 "java/lang/IllegalStateException" (by decide +kernel))) g1 g2 g3 (lv_astore hx hb (by decide +kernel : decode cL_foul 23 = .ok (.astore 5, 2)) g4 (by decide) rfl kk9)) (by decide +kernel : decode cL_foul 7 = .ok (.invokevirtual 41, 3))) (SndL.cons (sd_i2l (pc := 10) hx hb (by decide +kernel : decode cL_foul 10 = .ok (.i2l, 1))) (SndL.cons (sd_last (pc := 11) hx hb hG (by decide +kernel : decode cL_foul 11 = .ok (.lastore, 1))) (SndL.cons (sd_goto (tgt := 27) (pc := 12) hx hb (by decide +kernel : decode cL_foul 12 = .ok (.goto 15, 3)) (by decide)) SndL.nil)))))))))
  · exact SndL.cons (sd_iconst (v := 1) (pc := 17) hx hb (by decide +kernel : decode cL_foul 17 = .ok (.iconst 1, 1)) (by decide +kernel)) (SndL.cons (sd_iret (pc := 18) hx hb hend hlk hr (by decide +kernel : decode cL_foul 18 = .ok (.ireturn, 1))) SndL.nil)
  · exact SndL.cons (sd_iconst (v := 2) (pc := 21) hx hb (by decide +kernel : decode cL_foul 21 = .ok (.iconst 2, 1)) (by decide +kernel)) (SndL.cons (sd_iret (pc := 22) hx hb hend hlk hr (by decide +kernel : decode cL_foul 22 = .ok (.ireturn, 1))) SndL.nil)
  · exact SndL.cons (sd_iconst (v := 3) (pc := 25) hx hb (by decide +kernel : decode cL_foul 25 = .ok (.iconst 3, 1)) (by decide +kernel)) (SndL.cons (sd_iret (pc := 26) hx hb hend hlk hr (by decide +kernel : decode cL_foul 26 = .ok (.ireturn, 1))) SndL.nil)
  · exact SndL.cons (sd_iconst (v := 0) (pc := 27) hx hb (by decide +kernel : decode cL_foul 27 = .ok (.iconst 0, 1)) (by decide +kernel)) (SndL.cons (sd_iret (pc := 28) hx hb hend hlk hr (by decide +kernel : decode cL_foul 28 = .ok (.ireturn, 1))) SndL.nil)
  · exact SndL.nil
def hh_L_sortPie : List (Nat × Nat × Nat × Nat) := [(0, 9, 12, 15)]
def m_L_sortPie : jx_Y := (yL_sortPie, cL_sortPie, 4, (some .int), 8, 1, 6)
def cd_L_sortPie (G : jx_G) : jx_C := fun pc => match pc with
  | 0 => ([ti_aload 2, ti_const 0, ti_aload 0, ti_iload 1, ti_callX G m_X9_sortPie 9 1 1 6 1 6 3 [0, 0, 13, 0], ti_i2l, ti_astJ, ti_goto 15], 9)
  | 13 => ([ti_const 1, ti_iret 1 6], 14)
  | 15 => ([ti_const 0, ti_iret 1 6], 16)
  | n => ([], n)
set_option maxRecDepth 20000 in
theorem sc_L_sortPie (G : jx_G) : jCdH G m_L_sortPie hh_L_sortPie (cd_L_sortPie G) := by
  intro p e R s m args below meth c Qf ad0 n0 Q hcx htab0 hend pc
  have htab : c.exceptionTable.toList = [⟨0, 9, 12, 15⟩] := htab0
  obtain ⟨hx, hb, hml, hown, hts, hG, hlk, hr, hnm, hRm⟩ := hcx
  have hend : jEnd G p e R s m args below meth c Qf ad0 n0 4 1 6 Q := hend
  have hb : c.code = cL_sortPie := hb
  have hml : c.maxLocals = 4 := hml
  have hown : s.vm.findClass "LeadCasesLaw" = some m.cls := hown
  have hr : meth.sig.returnType = (some .int) := hr
  have hRm : jRm R 8 1 6 := hRm
  unfold cd_L_sortPie
  split
  · exact SndL.cons (sd_aload_n (pc := 0) hx hb (by decide +kernel : decode cL_sortPie 0 = .ok (.aload_n 2, 1)) rfl) (SndL.cons (sd_iconst (v := 0) (pc := 1) hx hb (by decide +kernel : decode cL_sortPie 1 = .ok (.iconst 0, 1)) (by decide +kernel)) (SndL.cons (sd_aload_n (pc := 2) hx hb (by decide +kernel : decode cL_sortPie 2 = .ok (.aload_n 0, 1)) rfl) (SndL.cons (sd_iload_n (pc := 3) hx hb (by decide +kernel : decode cL_sortPie 3 = .ok (.iload_n 1, 1)) rfl) (SndL.cons (sd_callX (r := 9) (ev := 3) (hsL := [0, 0, 13, 0]) (C := RX9) (T := TX9) (N := 14) (lv := 8) (mc := 1) (ms := 6) (mc' := 1) (ms' := 6) (y := m_X9_sortPie) (n := 1) (pc := 4) hx hb hown hts hG hml hRm rfl rfl (by decide) (by decide) (by decide) rfl lk_761 lk_762 lk_763 lk_59 rfl lk_764 ⟨by decide +kernel, by decide +kernel, by decide +kernel⟩ (fun k hk9 hz9 => by
      rcases hk9 with rfl | rfl | rfl
      · exact absurd rfl hz9
      · exact fun H9 locs9 c9 s9 lsA rest9 q9 ce9 g1 g2 g3 lv9 g4 kk9 => vx_catch hown [] ⟨0, 9, 12, 15⟩ [] htab (fun z hz => by cases hz) (by decide) (by decide) (hts _ lk_315) (va_Nw.use rfl (hG.2.2.2.2.2.2.2.2.2.2.2.2.2.1 "java/lang/IllegalArgumentException" (by decide +kernel))) g1 g2 g3 (lv_astore_n hx hb (by decide +kernel : decode cL_sortPie 12 = .ok (.astore_n 3, 1)) rfl g4 (by decide) rfl kk9)
      · exact absurd rfl hz9) (by decide +kernel : decode cL_sortPie 4 = .ok (.invokevirtual 44, 3))) (SndL.cons (sd_i2l (pc := 7) hx hb (by decide +kernel : decode cL_sortPie 7 = .ok (.i2l, 1))) (SndL.cons (sd_last (pc := 8) hx hb hG (by decide +kernel : decode cL_sortPie 8 = .ok (.lastore, 1))) (SndL.cons (sd_goto (tgt := 15) (pc := 9) hx hb (by decide +kernel : decode cL_sortPie 9 = .ok (.goto 6, 3)) (by decide)) SndL.nil)))))))
  · exact SndL.cons (sd_iconst (v := 1) (pc := 13) hx hb (by decide +kernel : decode cL_sortPie 13 = .ok (.iconst 1, 1)) (by decide +kernel)) (SndL.cons (sd_iret (pc := 14) hx hb hend hlk hr (by decide +kernel : decode cL_sortPie 14 = .ok (.ireturn, 1))) SndL.nil)
  · exact SndL.cons (sd_iconst (v := 0) (pc := 15) hx hb (by decide +kernel : decode cL_sortPie 15 = .ok (.iconst 0, 1)) (by decide +kernel)) (SndL.cons (sd_iret (pc := 16) hx hb hend hlk hr (by decide +kernel : decode cL_sortPie 16 = .ok (.ireturn, 1))) SndL.nil)
  · exact SndL.nil
def hh_L_lock : List (Nat × Nat × Nat × Nat) := [(0, 10, 13, 13), (0, 10, 17, 15), (0, 10, 21, 17)]
def m_L_lock : jx_Y := (yL_lock, cL_lock, 5, (some .int), 8, 1, 6)
def cd_L_lock (G : jx_G) : jx_C := fun pc => match pc with
  | 0 => ([ti_aload 3, ti_const 0, ti_aload 0, ti_iload 1, ti_iload 2, ti_callX G m_X9_lock 9 2 1 6 1 6 4 [0, 15, 19, 23], ti_i2l, ti_astJ, ti_goto 25], 10)
  | 15 => ([ti_const 1, ti_iret 1 6], 16)
  | 19 => ([ti_const 2, ti_iret 1 6], 20)
  | 23 => ([ti_const 3, ti_iret 1 6], 24)
  | 25 => ([ti_const 0, ti_iret 1 6], 26)
  | n => ([], n)
set_option maxRecDepth 20000 in
theorem sc_L_lock (G : jx_G) : jCdH G m_L_lock hh_L_lock (cd_L_lock G) := by
  intro p e R s m args below meth c Qf ad0 n0 Q hcx htab0 hend pc
  have htab : c.exceptionTable.toList = [⟨0, 10, 13, 13⟩, ⟨0, 10, 17, 15⟩, ⟨0, 10, 21, 17⟩] := htab0
  obtain ⟨hx, hb, hml, hown, hts, hG, hlk, hr, hnm, hRm⟩ := hcx
  have hend : jEnd G p e R s m args below meth c Qf ad0 n0 5 1 6 Q := hend
  have hb : c.code = cL_lock := hb
  have hml : c.maxLocals = 5 := hml
  have hown : s.vm.findClass "LeadCasesLaw" = some m.cls := hown
  have hr : meth.sig.returnType = (some .int) := hr
  have hRm : jRm R 8 1 6 := hRm
  unfold cd_L_lock
  split
  · exact SndL.cons (sd_aload_n (pc := 0) hx hb (by decide +kernel : decode cL_lock 0 = .ok (.aload_n 3, 1)) rfl) (SndL.cons (sd_iconst (v := 0) (pc := 1) hx hb (by decide +kernel : decode cL_lock 1 = .ok (.iconst 0, 1)) (by decide +kernel)) (SndL.cons (sd_aload_n (pc := 2) hx hb (by decide +kernel : decode cL_lock 2 = .ok (.aload_n 0, 1)) rfl) (SndL.cons (sd_iload_n (pc := 3) hx hb (by decide +kernel : decode cL_lock 3 = .ok (.iload_n 1, 1)) rfl) (SndL.cons (sd_iload_n (pc := 4) hx hb (by decide +kernel : decode cL_lock 4 = .ok (.iload_n 2, 1)) rfl) (SndL.cons (sd_callX (r := 9) (ev := 4) (hsL := [0, 15, 19, 23]) (C := RX9) (T := TX9) (N := 14) (lv := 8) (mc := 1) (ms := 6) (mc' := 1) (ms' := 6) (y := m_X9_lock) (n := 2) (pc := 5) hx hb hown hts hG hml hRm rfl rfl (by decide) (by decide) (by decide) rfl lk_777 lk_778 lk_779 lk_59 rfl lk_780 ⟨by decide +kernel, by decide +kernel, by decide +kernel⟩ (fun k hk9 hz9 => by
      rcases hk9 with rfl | rfl | rfl
      · exact fun H9 locs9 c9 s9 lsA rest9 q9 ce9 g1 g2 g3 lv9 g4 kk9 => vx_catch hown [] ⟨0, 10, 13, 13⟩ [⟨0, 10, 17, 15⟩, ⟨0, 10, 21, 17⟩] htab (fun z hz => by cases hz) (by decide) (by decide) (hts _ lk_314) (va_Nw.use rfl (hG.2.2.2.2.2.2.2.2.2.2.2.2.2.1 "java/lang/IndexOutOfBoundsException" (by decide +kernel))) g1 g2 g3 (lv_astore hx hb (by decide +kernel : decode cL_lock 13 = .ok (.astore 4, 2)) g4 (by decide) rfl kk9)
      · exact fun H9 locs9 c9 s9 lsA rest9 q9 ce9 g1 g2 g3 lv9 g4 kk9 => vx_catch hown [⟨0, 10, 13, 13⟩] ⟨0, 10, 17, 15⟩ [⟨0, 10, 21, 17⟩] htab (fun z hz => by rcases List.mem_cons.mp hz with rfl | hz; exact (Or.inr ⟨by decide, "java/lang/IndexOutOfBoundsException", hts _ lk_314, hG.2.2.2.2.2.2.2.2.2.2.2.2.2.2.1 "java/lang/IllegalArgumentException" (by decide +kernel) "java/lang/IndexOutOfBoundsException" (by decide +kernel) (by decide)⟩); cases hz) (by decide) (by decide) (hts _ lk_315) (va_Nw.use rfl (hG.2.2.2.2.2.2.2.2.2.2.2.2.2.1 "java/lang/IllegalArgumentException" (by decide +kernel))) g1 g2 g3 (lv_astore hx hb (by decide +kernel : decode cL_lock 17 = .ok (.astore 4, 2)) g4 (by decide) rfl kk9)
      · exact fun H9 locs9 c9 s9 lsA rest9 q9 ce9 g1 g2 g3 lv9 g4 kk9 => vx_catch hown [⟨0, 10, 13, 13⟩, ⟨0, 10, 17, 15⟩] ⟨0, 10, 21, 17⟩ [] htab (fun z hz => by rcases List.mem_cons.mp hz with rfl | hz; exact (Or.inr ⟨by decide, "java/lang/IndexOutOfBoundsException", hts _ lk_314, hG.2.2.2.2.2.2.2.2.2.2.2.2.2.2.1 "java/lang/IllegalStateException" (by decide +kernel) "java/lang/IndexOutOfBoundsException" (by decide +kernel) (by decide)⟩); rcases List.mem_cons.mp hz with rfl | hz; exact (Or.inr ⟨by decide, "java/lang/IllegalArgumentException", hts _ lk_315, hG.2.2.2.2.2.2.2.2.2.2.2.2.2.2.1 "java/lang/IllegalStateException" (by decide +kernel) "java/lang/IllegalArgumentException" (by decide +kernel) (by decide)⟩); cases hz) (by decide) (by decide) (hts _ lk_316) (va_Nw.use rfl (hG.2.2.2.2.2.2.2.2.2.2.2.2.2.1 "java/lang/IllegalStateException" (by decide +kernel))) g1 g2 g3 (lv_astore hx hb (by decide +kernel : decode cL_lock 21 = .ok (.astore 4, 2)) g4 (by decide) rfl kk9)) (by decide +kernel : decode cL_lock 5 = .ok (.invokevirtual 47, 3))) (SndL.cons (sd_i2l (pc := 8) hx hb (by decide +kernel : decode cL_lock 8 = .ok (.i2l, 1))) (SndL.cons (sd_last (pc := 9) hx hb hG (by decide +kernel : decode cL_lock 9 = .ok (.lastore, 1))) (SndL.cons (sd_goto (tgt := 25) (pc := 10) hx hb (by decide +kernel : decode cL_lock 10 = .ok (.goto 15, 3)) (by decide)) SndL.nil))))))))
  · exact SndL.cons (sd_iconst (v := 1) (pc := 15) hx hb (by decide +kernel : decode cL_lock 15 = .ok (.iconst 1, 1)) (by decide +kernel)) (SndL.cons (sd_iret (pc := 16) hx hb hend hlk hr (by decide +kernel : decode cL_lock 16 = .ok (.ireturn, 1))) SndL.nil)
  · exact SndL.cons (sd_iconst (v := 2) (pc := 19) hx hb (by decide +kernel : decode cL_lock 19 = .ok (.iconst 2, 1)) (by decide +kernel)) (SndL.cons (sd_iret (pc := 20) hx hb hend hlk hr (by decide +kernel : decode cL_lock 20 = .ok (.ireturn, 1))) SndL.nil)
  · exact SndL.cons (sd_iconst (v := 3) (pc := 23) hx hb (by decide +kernel : decode cL_lock 23 = .ok (.iconst 3, 1)) (by decide +kernel)) (SndL.cons (sd_iret (pc := 24) hx hb hend hlk hr (by decide +kernel : decode cL_lock 24 = .ok (.ireturn, 1))) SndL.nil)
  · exact SndL.cons (sd_iconst (v := 0) (pc := 25) hx hb (by decide +kernel : decode cL_lock 25 = .ok (.iconst 0, 1)) (by decide +kernel)) (SndL.cons (sd_iret (pc := 26) hx hb hend hlk hr (by decide +kernel : decode cL_lock 26 = .ok (.ireturn, 1))) SndL.nil)
  · exact SndL.nil
def hh_L_lift : List (Nat × Nat × Nat × Nat) := [(0, 9, 12, 13), (0, 9, 15, 17)]
def m_L_lift : jx_Y := (yL_lift, cL_lift, 4, (some .int), 8, 1, 6)
def cd_L_lift (G : jx_G) : jx_C := fun pc => match pc with
  | 0 => ([ti_aload 2, ti_const 0, ti_aload 0, ti_iload 1, ti_callX G m_X9_lift 9 1 1 6 1 6 3 [0, 13, 0, 16], ti_i2l, ti_astJ, ti_goto 18], 9)
  | 13 => ([ti_const 1, ti_iret 1 6], 14)
  | 16 => ([ti_const 2, ti_iret 1 6], 17)
  | 18 => ([ti_const 0, ti_iret 1 6], 19)
  | n => ([], n)
set_option maxRecDepth 20000 in
theorem sc_L_lift (G : jx_G) : jCdH G m_L_lift hh_L_lift (cd_L_lift G) := by
  intro p e R s m args below meth c Qf ad0 n0 Q hcx htab0 hend pc
  have htab : c.exceptionTable.toList = [⟨0, 9, 12, 13⟩, ⟨0, 9, 15, 17⟩] := htab0
  obtain ⟨hx, hb, hml, hown, hts, hG, hlk, hr, hnm, hRm⟩ := hcx
  have hend : jEnd G p e R s m args below meth c Qf ad0 n0 4 1 6 Q := hend
  have hb : c.code = cL_lift := hb
  have hml : c.maxLocals = 4 := hml
  have hown : s.vm.findClass "LeadCasesLaw" = some m.cls := hown
  have hr : meth.sig.returnType = (some .int) := hr
  have hRm : jRm R 8 1 6 := hRm
  unfold cd_L_lift
  split
  · exact SndL.cons (sd_aload_n (pc := 0) hx hb (by decide +kernel : decode cL_lift 0 = .ok (.aload_n 2, 1)) rfl) (SndL.cons (sd_iconst (v := 0) (pc := 1) hx hb (by decide +kernel : decode cL_lift 1 = .ok (.iconst 0, 1)) (by decide +kernel)) (SndL.cons (sd_aload_n (pc := 2) hx hb (by decide +kernel : decode cL_lift 2 = .ok (.aload_n 0, 1)) rfl) (SndL.cons (sd_iload_n (pc := 3) hx hb (by decide +kernel : decode cL_lift 3 = .ok (.iload_n 1, 1)) rfl) (SndL.cons (sd_callX (r := 9) (ev := 3) (hsL := [0, 13, 0, 16]) (C := RX9) (T := TX9) (N := 14) (lv := 8) (mc := 1) (ms := 6) (mc' := 1) (ms' := 6) (y := m_X9_lift) (n := 1) (pc := 4) hx hb hown hts hG hml hRm rfl rfl (by decide) (by decide) (by decide) rfl lk_790 lk_791 lk_792 lk_59 rfl lk_793 ⟨by decide +kernel, by decide +kernel, by decide +kernel⟩ (fun k hk9 hz9 => by
      rcases hk9 with rfl | rfl | rfl
      · exact fun H9 locs9 c9 s9 lsA rest9 q9 ce9 g1 g2 g3 lv9 g4 kk9 => vx_catch hown [] ⟨0, 9, 12, 13⟩ [⟨0, 9, 15, 17⟩] htab (fun z hz => by cases hz) (by decide) (by decide) (hts _ lk_314) (va_Nw.use rfl (hG.2.2.2.2.2.2.2.2.2.2.2.2.2.1 "java/lang/IndexOutOfBoundsException" (by decide +kernel))) g1 g2 g3 (lv_astore_n hx hb (by decide +kernel : decode cL_lift 12 = .ok (.astore_n 3, 1)) rfl g4 (by decide) rfl kk9)
      · exact absurd rfl hz9
      · exact fun H9 locs9 c9 s9 lsA rest9 q9 ce9 g1 g2 g3 lv9 g4 kk9 => vx_catch hown [⟨0, 9, 12, 13⟩] ⟨0, 9, 15, 17⟩ [] htab (fun z hz => by rcases List.mem_cons.mp hz with rfl | hz; exact (Or.inr ⟨by decide, "java/lang/IndexOutOfBoundsException", hts _ lk_314, hG.2.2.2.2.2.2.2.2.2.2.2.2.2.2.1 "java/lang/IllegalStateException" (by decide +kernel) "java/lang/IndexOutOfBoundsException" (by decide +kernel) (by decide)⟩); cases hz) (by decide) (by decide) (hts _ lk_316) (va_Nw.use rfl (hG.2.2.2.2.2.2.2.2.2.2.2.2.2.1 "java/lang/IllegalStateException" (by decide +kernel))) g1 g2 g3 (lv_astore_n hx hb (by decide +kernel : decode cL_lift 15 = .ok (.astore_n 3, 1)) rfl g4 (by decide) rfl kk9)) (by decide +kernel : decode cL_lift 4 = .ok (.invokevirtual 50, 3))) (SndL.cons (sd_i2l (pc := 7) hx hb (by decide +kernel : decode cL_lift 7 = .ok (.i2l, 1))) (SndL.cons (sd_last (pc := 8) hx hb hG (by decide +kernel : decode cL_lift 8 = .ok (.lastore, 1))) (SndL.cons (sd_goto (tgt := 18) (pc := 9) hx hb (by decide +kernel : decode cL_lift 9 = .ok (.goto 9, 3)) (by decide)) SndL.nil)))))))
  · exact SndL.cons (sd_iconst (v := 1) (pc := 13) hx hb (by decide +kernel : decode cL_lift 13 = .ok (.iconst 1, 1)) (by decide +kernel)) (SndL.cons (sd_iret (pc := 14) hx hb hend hlk hr (by decide +kernel : decode cL_lift 14 = .ok (.ireturn, 1))) SndL.nil)
  · exact SndL.cons (sd_iconst (v := 2) (pc := 16) hx hb (by decide +kernel : decode cL_lift 16 = .ok (.iconst 2, 1)) (by decide +kernel)) (SndL.cons (sd_iret (pc := 17) hx hb hend hlk hr (by decide +kernel : decode cL_lift 17 = .ok (.ireturn, 1))) SndL.nil)
  · exact SndL.cons (sd_iconst (v := 0) (pc := 18) hx hb (by decide +kernel : decode cL_lift 18 = .ok (.iconst 0, 1)) (by decide +kernel)) (SndL.cons (sd_iret (pc := 19) hx hb hend hlk hr (by decide +kernel : decode cL_lift 19 = .ok (.ireturn, 1))) SndL.nil)
  · exact SndL.nil
def hh_L_proof : List (Nat × Nat × Nat × Nat) := [(0, 9, 12, 13), (0, 9, 15, 17)]
def m_L_proof : jx_Y := (yL_proof, cL_proof, 4, (some .int), 8, 1, 6)
def cd_L_proof (G : jx_G) : jx_C := fun pc => match pc with
  | 0 => ([ti_aload 2, ti_const 0, ti_aload 0, ti_iload 1, ti_callX G m_X9_proof 9 1 1 6 1 6 3 [0, 13, 0, 16], ti_i2l, ti_astJ, ti_goto 18], 9)
  | 13 => ([ti_const 1, ti_iret 1 6], 14)
  | 16 => ([ti_const 2, ti_iret 1 6], 17)
  | 18 => ([ti_const 0, ti_iret 1 6], 19)
  | n => ([], n)
set_option maxRecDepth 20000 in
theorem sc_L_proof (G : jx_G) : jCdH G m_L_proof hh_L_proof (cd_L_proof G) := by
  intro p e R s m args below meth c Qf ad0 n0 Q hcx htab0 hend pc
  have htab : c.exceptionTable.toList = [⟨0, 9, 12, 13⟩, ⟨0, 9, 15, 17⟩] := htab0
  obtain ⟨hx, hb, hml, hown, hts, hG, hlk, hr, hnm, hRm⟩ := hcx
  have hend : jEnd G p e R s m args below meth c Qf ad0 n0 4 1 6 Q := hend
  have hb : c.code = cL_proof := hb
  have hml : c.maxLocals = 4 := hml
  have hown : s.vm.findClass "LeadCasesLaw" = some m.cls := hown
  have hr : meth.sig.returnType = (some .int) := hr
  have hRm : jRm R 8 1 6 := hRm
  unfold cd_L_proof
  split
  · exact SndL.cons (sd_aload_n (pc := 0) hx hb (by decide +kernel : decode cL_proof 0 = .ok (.aload_n 2, 1)) rfl) (SndL.cons (sd_iconst (v := 0) (pc := 1) hx hb (by decide +kernel : decode cL_proof 1 = .ok (.iconst 0, 1)) (by decide +kernel)) (SndL.cons (sd_aload_n (pc := 2) hx hb (by decide +kernel : decode cL_proof 2 = .ok (.aload_n 0, 1)) rfl) (SndL.cons (sd_iload_n (pc := 3) hx hb (by decide +kernel : decode cL_proof 3 = .ok (.iload_n 1, 1)) rfl) (SndL.cons (sd_callX (r := 9) (ev := 3) (hsL := [0, 13, 0, 16]) (C := RX9) (T := TX9) (N := 14) (lv := 8) (mc := 1) (ms := 6) (mc' := 1) (ms' := 6) (y := m_X9_proof) (n := 1) (pc := 4) hx hb hown hts hG hml hRm rfl rfl (by decide) (by decide) (by decide) rfl lk_840 lk_841 lk_842 lk_59 rfl lk_843 ⟨by decide +kernel, by decide +kernel, by decide +kernel⟩ (fun k hk9 hz9 => by
      rcases hk9 with rfl | rfl | rfl
      · exact fun H9 locs9 c9 s9 lsA rest9 q9 ce9 g1 g2 g3 lv9 g4 kk9 => vx_catch hown [] ⟨0, 9, 12, 13⟩ [⟨0, 9, 15, 17⟩] htab (fun z hz => by cases hz) (by decide) (by decide) (hts _ lk_314) (va_Nw.use rfl (hG.2.2.2.2.2.2.2.2.2.2.2.2.2.1 "java/lang/IndexOutOfBoundsException" (by decide +kernel))) g1 g2 g3 (lv_astore_n hx hb (by decide +kernel : decode cL_proof 12 = .ok (.astore_n 3, 1)) rfl g4 (by decide) rfl kk9)
      · exact absurd rfl hz9
      · exact fun H9 locs9 c9 s9 lsA rest9 q9 ce9 g1 g2 g3 lv9 g4 kk9 => vx_catch hown [⟨0, 9, 12, 13⟩] ⟨0, 9, 15, 17⟩ [] htab (fun z hz => by rcases List.mem_cons.mp hz with rfl | hz; exact (Or.inr ⟨by decide, "java/lang/IndexOutOfBoundsException", hts _ lk_314, hG.2.2.2.2.2.2.2.2.2.2.2.2.2.2.1 "java/lang/IllegalStateException" (by decide +kernel) "java/lang/IndexOutOfBoundsException" (by decide +kernel) (by decide)⟩); cases hz) (by decide) (by decide) (hts _ lk_316) (va_Nw.use rfl (hG.2.2.2.2.2.2.2.2.2.2.2.2.2.1 "java/lang/IllegalStateException" (by decide +kernel))) g1 g2 g3 (lv_astore_n hx hb (by decide +kernel : decode cL_proof 15 = .ok (.astore_n 3, 1)) rfl g4 (by decide) rfl kk9)) (by decide +kernel : decode cL_proof 4 = .ok (.invokevirtual 53, 3))) (SndL.cons (sd_i2l (pc := 7) hx hb (by decide +kernel : decode cL_proof 7 = .ok (.i2l, 1))) (SndL.cons (sd_last (pc := 8) hx hb hG (by decide +kernel : decode cL_proof 8 = .ok (.lastore, 1))) (SndL.cons (sd_goto (tgt := 18) (pc := 9) hx hb (by decide +kernel : decode cL_proof 9 = .ok (.goto 9, 3)) (by decide)) SndL.nil)))))))
  · exact SndL.cons (sd_iconst (v := 1) (pc := 13) hx hb (by decide +kernel : decode cL_proof 13 = .ok (.iconst 1, 1)) (by decide +kernel)) (SndL.cons (sd_iret (pc := 14) hx hb hend hlk hr (by decide +kernel : decode cL_proof 14 = .ok (.ireturn, 1))) SndL.nil)
  · exact SndL.cons (sd_iconst (v := 2) (pc := 16) hx hb (by decide +kernel : decode cL_proof 16 = .ok (.iconst 2, 1)) (by decide +kernel)) (SndL.cons (sd_iret (pc := 17) hx hb hend hlk hr (by decide +kernel : decode cL_proof 17 = .ok (.ireturn, 1))) SndL.nil)
  · exact SndL.cons (sd_iconst (v := 0) (pc := 18) hx hb (by decide +kernel : decode cL_proof 18 = .ok (.iconst 0, 1)) (by decide +kernel)) (SndL.cons (sd_iret (pc := 19) hx hb hend hlk hr (by decide +kernel : decode cL_proof 19 = .ok (.ireturn, 1))) SndL.nil)
  · exact SndL.nil
def hh_L_unlock : List (Nat × Nat × Nat × Nat) := [(0, 9, 12, 13), (0, 9, 15, 17)]
def m_L_unlock : jx_Y := (yL_unlock, cL_unlock, 4, (some .int), 8, 1, 6)
def cd_L_unlock (G : jx_G) : jx_C := fun pc => match pc with
  | 0 => ([ti_aload 2, ti_const 0, ti_aload 0, ti_iload 1, ti_callX G m_X9_unlock 9 1 1 6 1 6 3 [0, 13, 0, 16], ti_i2l, ti_astJ, ti_goto 18], 9)
  | 13 => ([ti_const 1, ti_iret 1 6], 14)
  | 16 => ([ti_const 2, ti_iret 1 6], 17)
  | 18 => ([ti_const 0, ti_iret 1 6], 19)
  | n => ([], n)
set_option maxRecDepth 20000 in
theorem sc_L_unlock (G : jx_G) : jCdH G m_L_unlock hh_L_unlock (cd_L_unlock G) := by
  intro p e R s m args below meth c Qf ad0 n0 Q hcx htab0 hend pc
  have htab : c.exceptionTable.toList = [⟨0, 9, 12, 13⟩, ⟨0, 9, 15, 17⟩] := htab0
  obtain ⟨hx, hb, hml, hown, hts, hG, hlk, hr, hnm, hRm⟩ := hcx
  have hend : jEnd G p e R s m args below meth c Qf ad0 n0 4 1 6 Q := hend
  have hb : c.code = cL_unlock := hb
  have hml : c.maxLocals = 4 := hml
  have hown : s.vm.findClass "LeadCasesLaw" = some m.cls := hown
  have hr : meth.sig.returnType = (some .int) := hr
  have hRm : jRm R 8 1 6 := hRm
  unfold cd_L_unlock
  split
  · exact SndL.cons (sd_aload_n (pc := 0) hx hb (by decide +kernel : decode cL_unlock 0 = .ok (.aload_n 2, 1)) rfl) (SndL.cons (sd_iconst (v := 0) (pc := 1) hx hb (by decide +kernel : decode cL_unlock 1 = .ok (.iconst 0, 1)) (by decide +kernel)) (SndL.cons (sd_aload_n (pc := 2) hx hb (by decide +kernel : decode cL_unlock 2 = .ok (.aload_n 0, 1)) rfl) (SndL.cons (sd_iload_n (pc := 3) hx hb (by decide +kernel : decode cL_unlock 3 = .ok (.iload_n 1, 1)) rfl) (SndL.cons (sd_callX (r := 9) (ev := 3) (hsL := [0, 13, 0, 16]) (C := RX9) (T := TX9) (N := 14) (lv := 8) (mc := 1) (ms := 6) (mc' := 1) (ms' := 6) (y := m_X9_unlock) (n := 1) (pc := 4) hx hb hown hts hG hml hRm rfl rfl (by decide) (by decide) (by decide) rfl lk_871 lk_872 lk_873 lk_59 rfl lk_874 ⟨by decide +kernel, by decide +kernel, by decide +kernel⟩ (fun k hk9 hz9 => by
      rcases hk9 with rfl | rfl | rfl
      · exact fun H9 locs9 c9 s9 lsA rest9 q9 ce9 g1 g2 g3 lv9 g4 kk9 => vx_catch hown [] ⟨0, 9, 12, 13⟩ [⟨0, 9, 15, 17⟩] htab (fun z hz => by cases hz) (by decide) (by decide) (hts _ lk_314) (va_Nw.use rfl (hG.2.2.2.2.2.2.2.2.2.2.2.2.2.1 "java/lang/IndexOutOfBoundsException" (by decide +kernel))) g1 g2 g3 (lv_astore_n hx hb (by decide +kernel : decode cL_unlock 12 = .ok (.astore_n 3, 1)) rfl g4 (by decide) rfl kk9)
      · exact absurd rfl hz9
      · exact fun H9 locs9 c9 s9 lsA rest9 q9 ce9 g1 g2 g3 lv9 g4 kk9 => vx_catch hown [⟨0, 9, 12, 13⟩] ⟨0, 9, 15, 17⟩ [] htab (fun z hz => by rcases List.mem_cons.mp hz with rfl | hz; exact (Or.inr ⟨by decide, "java/lang/IndexOutOfBoundsException", hts _ lk_314, hG.2.2.2.2.2.2.2.2.2.2.2.2.2.2.1 "java/lang/IllegalStateException" (by decide +kernel) "java/lang/IndexOutOfBoundsException" (by decide +kernel) (by decide)⟩); cases hz) (by decide) (by decide) (hts _ lk_316) (va_Nw.use rfl (hG.2.2.2.2.2.2.2.2.2.2.2.2.2.1 "java/lang/IllegalStateException" (by decide +kernel))) g1 g2 g3 (lv_astore_n hx hb (by decide +kernel : decode cL_unlock 15 = .ok (.astore_n 3, 1)) rfl g4 (by decide) rfl kk9)) (by decide +kernel : decode cL_unlock 4 = .ok (.invokevirtual 56, 3))) (SndL.cons (sd_i2l (pc := 7) hx hb (by decide +kernel : decode cL_unlock 7 = .ok (.i2l, 1))) (SndL.cons (sd_last (pc := 8) hx hb hG (by decide +kernel : decode cL_unlock 8 = .ok (.lastore, 1))) (SndL.cons (sd_goto (tgt := 18) (pc := 9) hx hb (by decide +kernel : decode cL_unlock 9 = .ok (.goto 9, 3)) (by decide)) SndL.nil)))))))
  · exact SndL.cons (sd_iconst (v := 1) (pc := 13) hx hb (by decide +kernel : decode cL_unlock 13 = .ok (.iconst 1, 1)) (by decide +kernel)) (SndL.cons (sd_iret (pc := 14) hx hb hend hlk hr (by decide +kernel : decode cL_unlock 14 = .ok (.ireturn, 1))) SndL.nil)
  · exact SndL.cons (sd_iconst (v := 2) (pc := 16) hx hb (by decide +kernel : decode cL_unlock 16 = .ok (.iconst 2, 1)) (by decide +kernel)) (SndL.cons (sd_iret (pc := 17) hx hb hend hlk hr (by decide +kernel : decode cL_unlock 17 = .ok (.ireturn, 1))) SndL.nil)
  · exact SndL.cons (sd_iconst (v := 0) (pc := 18) hx hb (by decide +kernel : decode cL_unlock 18 = .ok (.iconst 0, 1)) (by decide +kernel)) (SndL.cons (sd_iret (pc := 19) hx hb hend hlk hr (by decide +kernel : decode cL_unlock 19 = .ok (.ireturn, 1))) SndL.nil)
  · exact SndL.nil
def hh_L_inBox : List (Nat × Nat × Nat × Nat) := [(0, 10, 13, 13)]
def m_L_inBox : jx_Y := (yL_inBox, cL_inBox, 5, (some .int), 8, 1, 6)
def cd_L_inBox (G : jx_G) : jx_C := fun pc => match pc with
  | 0 => ([ti_aload 3, ti_const 0, ti_aload 0, ti_iload 1, ti_iload 2, ti_callX G m_X9_inBox 9 2 1 6 1 6 4 [0, 15, 0, 0], ti_i2l, ti_astJ, ti_goto 17], 10)
  | 15 => ([ti_const 1, ti_iret 1 6], 16)
  | 17 => ([ti_const 0, ti_iret 1 6], 18)
  | n => ([], n)
set_option maxRecDepth 20000 in
theorem sc_L_inBox (G : jx_G) : jCdH G m_L_inBox hh_L_inBox (cd_L_inBox G) := by
  intro p e R s m args below meth c Qf ad0 n0 Q hcx htab0 hend pc
  have htab : c.exceptionTable.toList = [⟨0, 10, 13, 13⟩] := htab0
  obtain ⟨hx, hb, hml, hown, hts, hG, hlk, hr, hnm, hRm⟩ := hcx
  have hend : jEnd G p e R s m args below meth c Qf ad0 n0 5 1 6 Q := hend
  have hb : c.code = cL_inBox := hb
  have hml : c.maxLocals = 5 := hml
  have hown : s.vm.findClass "LeadCasesLaw" = some m.cls := hown
  have hr : meth.sig.returnType = (some .int) := hr
  have hRm : jRm R 8 1 6 := hRm
  unfold cd_L_inBox
  split
  · exact SndL.cons (sd_aload_n (pc := 0) hx hb (by decide +kernel : decode cL_inBox 0 = .ok (.aload_n 3, 1)) rfl) (SndL.cons (sd_iconst (v := 0) (pc := 1) hx hb (by decide +kernel : decode cL_inBox 1 = .ok (.iconst 0, 1)) (by decide +kernel)) (SndL.cons (sd_aload_n (pc := 2) hx hb (by decide +kernel : decode cL_inBox 2 = .ok (.aload_n 0, 1)) rfl) (SndL.cons (sd_iload_n (pc := 3) hx hb (by decide +kernel : decode cL_inBox 3 = .ok (.iload_n 1, 1)) rfl) (SndL.cons (sd_iload_n (pc := 4) hx hb (by decide +kernel : decode cL_inBox 4 = .ok (.iload_n 2, 1)) rfl) (SndL.cons (sd_callX (r := 9) (ev := 4) (hsL := [0, 15, 0, 0]) (C := RX9) (T := TX9) (N := 14) (lv := 8) (mc := 1) (ms := 6) (mc' := 1) (ms' := 6) (y := m_X9_inBox) (n := 2) (pc := 5) hx hb hown hts hG hml hRm rfl rfl (by decide) (by decide) (by decide) rfl lk_878 lk_879 lk_880 lk_59 rfl lk_881 ⟨by decide +kernel, by decide +kernel, by decide +kernel⟩ (fun k hk9 hz9 => by
      rcases hk9 with rfl | rfl | rfl
      · exact fun H9 locs9 c9 s9 lsA rest9 q9 ce9 g1 g2 g3 lv9 g4 kk9 => vx_catch hown [] ⟨0, 10, 13, 13⟩ [] htab (fun z hz => by cases hz) (by decide) (by decide) (hts _ lk_314) (va_Nw.use rfl (hG.2.2.2.2.2.2.2.2.2.2.2.2.2.1 "java/lang/IndexOutOfBoundsException" (by decide +kernel))) g1 g2 g3 (lv_astore hx hb (by decide +kernel : decode cL_inBox 13 = .ok (.astore 4, 2)) g4 (by decide) rfl kk9)
      · exact absurd rfl hz9
      · exact absurd rfl hz9) (by decide +kernel : decode cL_inBox 5 = .ok (.invokevirtual 59, 3))) (SndL.cons (sd_i2l (pc := 8) hx hb (by decide +kernel : decode cL_inBox 8 = .ok (.i2l, 1))) (SndL.cons (sd_last (pc := 9) hx hb hG (by decide +kernel : decode cL_inBox 9 = .ok (.lastore, 1))) (SndL.cons (sd_goto (tgt := 17) (pc := 10) hx hb (by decide +kernel : decode cL_inBox 10 = .ok (.goto 7, 3)) (by decide)) SndL.nil))))))))
  · exact SndL.cons (sd_iconst (v := 1) (pc := 15) hx hb (by decide +kernel : decode cL_inBox 15 = .ok (.iconst 1, 1)) (by decide +kernel)) (SndL.cons (sd_iret (pc := 16) hx hb hend hlk hr (by decide +kernel : decode cL_inBox 16 = .ok (.ireturn, 1))) SndL.nil)
  · exact SndL.cons (sd_iconst (v := 0) (pc := 17) hx hb (by decide +kernel : decode cL_inBox 17 = .ok (.iconst 0, 1)) (by decide +kernel)) (SndL.cons (sd_iret (pc := 18) hx hb hend hlk hr (by decide +kernel : decode cL_inBox 18 = .ok (.ireturn, 1))) SndL.nil)
  · exact SndL.nil
def hh_L_top : List (Nat × Nat × Nat × Nat) := [(0, 10, 13, 13)]
def m_L_top : jx_Y := (yL_top, cL_top, 5, (some .int), 8, 1, 6)
def cd_L_top (G : jx_G) : jx_C := fun pc => match pc with
  | 0 => ([ti_aload 3, ti_const 0, ti_aload 0, ti_iload 1, ti_iload 2, ti_callX G m_X9_top 9 2 1 6 1 6 4 [0, 15, 0, 0], ti_i2l, ti_astJ, ti_goto 17], 10)
  | 15 => ([ti_const 1, ti_iret 1 6], 16)
  | 17 => ([ti_const 0, ti_iret 1 6], 18)
  | n => ([], n)
set_option maxRecDepth 20000 in
theorem sc_L_top (G : jx_G) : jCdH G m_L_top hh_L_top (cd_L_top G) := by
  intro p e R s m args below meth c Qf ad0 n0 Q hcx htab0 hend pc
  have htab : c.exceptionTable.toList = [⟨0, 10, 13, 13⟩] := htab0
  obtain ⟨hx, hb, hml, hown, hts, hG, hlk, hr, hnm, hRm⟩ := hcx
  have hend : jEnd G p e R s m args below meth c Qf ad0 n0 5 1 6 Q := hend
  have hb : c.code = cL_top := hb
  have hml : c.maxLocals = 5 := hml
  have hown : s.vm.findClass "LeadCasesLaw" = some m.cls := hown
  have hr : meth.sig.returnType = (some .int) := hr
  have hRm : jRm R 8 1 6 := hRm
  unfold cd_L_top
  split
  · exact SndL.cons (sd_aload_n (pc := 0) hx hb (by decide +kernel : decode cL_top 0 = .ok (.aload_n 3, 1)) rfl) (SndL.cons (sd_iconst (v := 0) (pc := 1) hx hb (by decide +kernel : decode cL_top 1 = .ok (.iconst 0, 1)) (by decide +kernel)) (SndL.cons (sd_aload_n (pc := 2) hx hb (by decide +kernel : decode cL_top 2 = .ok (.aload_n 0, 1)) rfl) (SndL.cons (sd_iload_n (pc := 3) hx hb (by decide +kernel : decode cL_top 3 = .ok (.iload_n 1, 1)) rfl) (SndL.cons (sd_iload_n (pc := 4) hx hb (by decide +kernel : decode cL_top 4 = .ok (.iload_n 2, 1)) rfl) (SndL.cons (sd_callX (r := 9) (ev := 4) (hsL := [0, 15, 0, 0]) (C := RX9) (T := TX9) (N := 14) (lv := 8) (mc := 1) (ms := 6) (mc' := 1) (ms' := 6) (y := m_X9_top) (n := 2) (pc := 5) hx hb hown hts hG hml hRm rfl rfl (by decide) (by decide) (by decide) rfl lk_885 lk_886 lk_887 lk_59 rfl lk_888 ⟨by decide +kernel, by decide +kernel, by decide +kernel⟩ (fun k hk9 hz9 => by
      rcases hk9 with rfl | rfl | rfl
      · exact fun H9 locs9 c9 s9 lsA rest9 q9 ce9 g1 g2 g3 lv9 g4 kk9 => vx_catch hown [] ⟨0, 10, 13, 13⟩ [] htab (fun z hz => by cases hz) (by decide) (by decide) (hts _ lk_314) (va_Nw.use rfl (hG.2.2.2.2.2.2.2.2.2.2.2.2.2.1 "java/lang/IndexOutOfBoundsException" (by decide +kernel))) g1 g2 g3 (lv_astore hx hb (by decide +kernel : decode cL_top 13 = .ok (.astore 4, 2)) g4 (by decide) rfl kk9)
      · exact absurd rfl hz9
      · exact absurd rfl hz9) (by decide +kernel : decode cL_top 5 = .ok (.invokevirtual 62, 3))) (SndL.cons (sd_i2l (pc := 8) hx hb (by decide +kernel : decode cL_top 8 = .ok (.i2l, 1))) (SndL.cons (sd_last (pc := 9) hx hb hG (by decide +kernel : decode cL_top 9 = .ok (.lastore, 1))) (SndL.cons (sd_goto (tgt := 17) (pc := 10) hx hb (by decide +kernel : decode cL_top 10 = .ok (.goto 7, 3)) (by decide)) SndL.nil))))))))
  · exact SndL.cons (sd_iconst (v := 1) (pc := 15) hx hb (by decide +kernel : decode cL_top 15 = .ok (.iconst 1, 1)) (by decide +kernel)) (SndL.cons (sd_iret (pc := 16) hx hb hend hlk hr (by decide +kernel : decode cL_top 16 = .ok (.ireturn, 1))) SndL.nil)
  · exact SndL.cons (sd_iconst (v := 0) (pc := 17) hx hb (by decide +kernel : decode cL_top 17 = .ok (.iconst 0, 1)) (by decide +kernel)) (SndL.cons (sd_iret (pc := 18) hx hb hend hlk hr (by decide +kernel : decode cL_top 18 = .ok (.ireturn, 1))) SndL.nil)
  · exact SndL.nil
def hh_L_inSpaces : List (Nat × Nat × Nat × Nat) := [(0, 9, 12, 15)]
def m_L_inSpaces : jx_Y := (yL_inSpaces, cL_inSpaces, 4, (some .int), 8, 1, 6)
def cd_L_inSpaces (G : jx_G) : jx_C := fun pc => match pc with
  | 0 => ([ti_aload 2, ti_const 0, ti_aload 0, ti_iload 1, ti_callX G m_X9_inSpaces 9 1 1 6 1 6 3 [0, 0, 13, 0], ti_i2l, ti_astJ, ti_goto 15], 9)
  | 13 => ([ti_const 1, ti_iret 1 6], 14)
  | 15 => ([ti_const 0, ti_iret 1 6], 16)
  | n => ([], n)
set_option maxRecDepth 20000 in
theorem sc_L_inSpaces (G : jx_G) : jCdH G m_L_inSpaces hh_L_inSpaces (cd_L_inSpaces G) := by
  intro p e R s m args below meth c Qf ad0 n0 Q hcx htab0 hend pc
  have htab : c.exceptionTable.toList = [⟨0, 9, 12, 15⟩] := htab0
  obtain ⟨hx, hb, hml, hown, hts, hG, hlk, hr, hnm, hRm⟩ := hcx
  have hend : jEnd G p e R s m args below meth c Qf ad0 n0 4 1 6 Q := hend
  have hb : c.code = cL_inSpaces := hb
  have hml : c.maxLocals = 4 := hml
  have hown : s.vm.findClass "LeadCasesLaw" = some m.cls := hown
  have hr : meth.sig.returnType = (some .int) := hr
  have hRm : jRm R 8 1 6 := hRm
  unfold cd_L_inSpaces
  split
  · exact SndL.cons (sd_aload_n (pc := 0) hx hb (by decide +kernel : decode cL_inSpaces 0 = .ok (.aload_n 2, 1)) rfl) (SndL.cons (sd_iconst (v := 0) (pc := 1) hx hb (by decide +kernel : decode cL_inSpaces 1 = .ok (.iconst 0, 1)) (by decide +kernel)) (SndL.cons (sd_aload_n (pc := 2) hx hb (by decide +kernel : decode cL_inSpaces 2 = .ok (.aload_n 0, 1)) rfl) (SndL.cons (sd_iload_n (pc := 3) hx hb (by decide +kernel : decode cL_inSpaces 3 = .ok (.iload_n 1, 1)) rfl) (SndL.cons (sd_callX (r := 9) (ev := 3) (hsL := [0, 0, 13, 0]) (C := RX9) (T := TX9) (N := 14) (lv := 8) (mc := 1) (ms := 6) (mc' := 1) (ms' := 6) (y := m_X9_inSpaces) (n := 1) (pc := 4) hx hb hown hts hG hml hRm rfl rfl (by decide) (by decide) (by decide) rfl lk_892 lk_893 lk_894 lk_59 rfl lk_895 ⟨by decide +kernel, by decide +kernel, by decide +kernel⟩ (fun k hk9 hz9 => by
      rcases hk9 with rfl | rfl | rfl
      · exact absurd rfl hz9
      · exact fun H9 locs9 c9 s9 lsA rest9 q9 ce9 g1 g2 g3 lv9 g4 kk9 => vx_catch hown [] ⟨0, 9, 12, 15⟩ [] htab (fun z hz => by cases hz) (by decide) (by decide) (hts _ lk_315) (va_Nw.use rfl (hG.2.2.2.2.2.2.2.2.2.2.2.2.2.1 "java/lang/IllegalArgumentException" (by decide +kernel))) g1 g2 g3 (lv_astore_n hx hb (by decide +kernel : decode cL_inSpaces 12 = .ok (.astore_n 3, 1)) rfl g4 (by decide) rfl kk9)
      · exact absurd rfl hz9) (by decide +kernel : decode cL_inSpaces 4 = .ok (.invokevirtual 65, 3))) (SndL.cons (sd_i2l (pc := 7) hx hb (by decide +kernel : decode cL_inSpaces 7 = .ok (.i2l, 1))) (SndL.cons (sd_last (pc := 8) hx hb hG (by decide +kernel : decode cL_inSpaces 8 = .ok (.lastore, 1))) (SndL.cons (sd_goto (tgt := 15) (pc := 9) hx hb (by decide +kernel : decode cL_inSpaces 9 = .ok (.goto 6, 3)) (by decide)) SndL.nil)))))))
  · exact SndL.cons (sd_iconst (v := 1) (pc := 13) hx hb (by decide +kernel : decode cL_inSpaces 13 = .ok (.iconst 1, 1)) (by decide +kernel)) (SndL.cons (sd_iret (pc := 14) hx hb hend hlk hr (by decide +kernel : decode cL_inSpaces 14 = .ok (.ireturn, 1))) SndL.nil)
  · exact SndL.cons (sd_iconst (v := 0) (pc := 15) hx hb (by decide +kernel : decode cL_inSpaces 15 = .ok (.iconst 0, 1)) (by decide +kernel)) (SndL.cons (sd_iret (pc := 16) hx hb hend hlk hr (by decide +kernel : decode cL_inSpaces 16 = .ok (.ireturn, 1))) SndL.nil)
  · exact SndL.nil
def hh_L_sort : List (Nat × Nat × Nat × Nat) := [(0, 10, 13, 13), (0, 10, 17, 15)]
def m_L_sort : jx_Y := (yL_sort, cL_sort, 5, (some .int), 8, 1, 6)
def cd_L_sort (G : jx_G) : jx_C := fun pc => match pc with
  | 0 => ([ti_aload 3, ti_const 0, ti_aload 0, ti_iload 1, ti_iload 2, ti_callX G m_X9_sort 9 2 1 6 1 6 4 [0, 15, 19, 0], ti_i2l, ti_astJ, ti_goto 21], 10)
  | 15 => ([ti_const 1, ti_iret 1 6], 16)
  | 19 => ([ti_const 2, ti_iret 1 6], 20)
  | 21 => ([ti_const 0, ti_iret 1 6], 22)
  | n => ([], n)
set_option maxRecDepth 20000 in
theorem sc_L_sort (G : jx_G) : jCdH G m_L_sort hh_L_sort (cd_L_sort G) := by
  intro p e R s m args below meth c Qf ad0 n0 Q hcx htab0 hend pc
  have htab : c.exceptionTable.toList = [⟨0, 10, 13, 13⟩, ⟨0, 10, 17, 15⟩] := htab0
  obtain ⟨hx, hb, hml, hown, hts, hG, hlk, hr, hnm, hRm⟩ := hcx
  have hend : jEnd G p e R s m args below meth c Qf ad0 n0 5 1 6 Q := hend
  have hb : c.code = cL_sort := hb
  have hml : c.maxLocals = 5 := hml
  have hown : s.vm.findClass "LeadCasesLaw" = some m.cls := hown
  have hr : meth.sig.returnType = (some .int) := hr
  have hRm : jRm R 8 1 6 := hRm
  unfold cd_L_sort
  split
  · exact SndL.cons (sd_aload_n (pc := 0) hx hb (by decide +kernel : decode cL_sort 0 = .ok (.aload_n 3, 1)) rfl) (SndL.cons (sd_iconst (v := 0) (pc := 1) hx hb (by decide +kernel : decode cL_sort 1 = .ok (.iconst 0, 1)) (by decide +kernel)) (SndL.cons (sd_aload_n (pc := 2) hx hb (by decide +kernel : decode cL_sort 2 = .ok (.aload_n 0, 1)) rfl) (SndL.cons (sd_iload_n (pc := 3) hx hb (by decide +kernel : decode cL_sort 3 = .ok (.iload_n 1, 1)) rfl) (SndL.cons (sd_iload_n (pc := 4) hx hb (by decide +kernel : decode cL_sort 4 = .ok (.iload_n 2, 1)) rfl) (SndL.cons (sd_callX (r := 9) (ev := 4) (hsL := [0, 15, 19, 0]) (C := RX9) (T := TX9) (N := 14) (lv := 8) (mc := 1) (ms := 6) (mc' := 1) (ms' := 6) (y := m_X9_sort) (n := 2) (pc := 5) hx hb hown hts hG hml hRm rfl rfl (by decide) (by decide) (by decide) rfl lk_899 lk_900 lk_901 lk_59 rfl lk_902 ⟨by decide +kernel, by decide +kernel, by decide +kernel⟩ (fun k hk9 hz9 => by
      rcases hk9 with rfl | rfl | rfl
      · exact fun H9 locs9 c9 s9 lsA rest9 q9 ce9 g1 g2 g3 lv9 g4 kk9 => vx_catch hown [] ⟨0, 10, 13, 13⟩ [⟨0, 10, 17, 15⟩] htab (fun z hz => by cases hz) (by decide) (by decide) (hts _ lk_314) (va_Nw.use rfl (hG.2.2.2.2.2.2.2.2.2.2.2.2.2.1 "java/lang/IndexOutOfBoundsException" (by decide +kernel))) g1 g2 g3 (lv_astore hx hb (by decide +kernel : decode cL_sort 13 = .ok (.astore 4, 2)) g4 (by decide) rfl kk9)
      · exact fun H9 locs9 c9 s9 lsA rest9 q9 ce9 g1 g2 g3 lv9 g4 kk9 => vx_catch hown [⟨0, 10, 13, 13⟩] ⟨0, 10, 17, 15⟩ [] htab (fun z hz => by rcases List.mem_cons.mp hz with rfl | hz; exact (Or.inr ⟨by decide, "java/lang/IndexOutOfBoundsException", hts _ lk_314, hG.2.2.2.2.2.2.2.2.2.2.2.2.2.2.1 "java/lang/IllegalArgumentException" (by decide +kernel) "java/lang/IndexOutOfBoundsException" (by decide +kernel) (by decide)⟩); cases hz) (by decide) (by decide) (hts _ lk_315) (va_Nw.use rfl (hG.2.2.2.2.2.2.2.2.2.2.2.2.2.1 "java/lang/IllegalArgumentException" (by decide +kernel))) g1 g2 g3 (lv_astore hx hb (by decide +kernel : decode cL_sort 17 = .ok (.astore 4, 2)) g4 (by decide) rfl kk9)
      · exact absurd rfl hz9) (by decide +kernel : decode cL_sort 5 = .ok (.invokevirtual 68, 3))) (SndL.cons (sd_i2l (pc := 8) hx hb (by decide +kernel : decode cL_sort 8 = .ok (.i2l, 1))) (SndL.cons (sd_last (pc := 9) hx hb hG (by decide +kernel : decode cL_sort 9 = .ok (.lastore, 1))) (SndL.cons (sd_goto (tgt := 21) (pc := 10) hx hb (by decide +kernel : decode cL_sort 10 = .ok (.goto 11, 3)) (by decide)) SndL.nil))))))))
  · exact SndL.cons (sd_iconst (v := 1) (pc := 15) hx hb (by decide +kernel : decode cL_sort 15 = .ok (.iconst 1, 1)) (by decide +kernel)) (SndL.cons (sd_iret (pc := 16) hx hb hend hlk hr (by decide +kernel : decode cL_sort 16 = .ok (.ireturn, 1))) SndL.nil)
  · exact SndL.cons (sd_iconst (v := 2) (pc := 19) hx hb (by decide +kernel : decode cL_sort 19 = .ok (.iconst 2, 1)) (by decide +kernel)) (SndL.cons (sd_iret (pc := 20) hx hb hend hlk hr (by decide +kernel : decode cL_sort 20 = .ok (.ireturn, 1))) SndL.nil)
  · exact SndL.cons (sd_iconst (v := 0) (pc := 21) hx hb (by decide +kernel : decode cL_sort 21 = .ok (.iconst 0, 1)) (by decide +kernel)) (SndL.cons (sd_iret (pc := 22) hx hb hend hlk hr (by decide +kernel : decode cL_sort 22 = .ok (.ireturn, 1))) SndL.nil)
  · exact SndL.nil
def hh_L_line : List (Nat × Nat × Nat × Nat) := [(0, 10, 13, 13), (0, 10, 17, 15)]
def m_L_line : jx_Y := (yL_line, cL_line, 5, (some .int), 8, 1, 6)
def cd_L_line (G : jx_G) : jx_C := fun pc => match pc with
  | 0 => ([ti_aload 3, ti_const 0, ti_aload 0, ti_iload 1, ti_iload 2, ti_callX G m_X9_line 9 2 1 6 1 6 4 [0, 15, 19, 0], ti_i2l, ti_astJ, ti_goto 21], 10)
  | 15 => ([ti_const 1, ti_iret 1 6], 16)
  | 19 => ([ti_const 2, ti_iret 1 6], 20)
  | 21 => ([ti_const 0, ti_iret 1 6], 22)
  | n => ([], n)
set_option maxRecDepth 20000 in
theorem sc_L_line (G : jx_G) : jCdH G m_L_line hh_L_line (cd_L_line G) := by
  intro p e R s m args below meth c Qf ad0 n0 Q hcx htab0 hend pc
  have htab : c.exceptionTable.toList = [⟨0, 10, 13, 13⟩, ⟨0, 10, 17, 15⟩] := htab0
  obtain ⟨hx, hb, hml, hown, hts, hG, hlk, hr, hnm, hRm⟩ := hcx
  have hend : jEnd G p e R s m args below meth c Qf ad0 n0 5 1 6 Q := hend
  have hb : c.code = cL_line := hb
  have hml : c.maxLocals = 5 := hml
  have hown : s.vm.findClass "LeadCasesLaw" = some m.cls := hown
  have hr : meth.sig.returnType = (some .int) := hr
  have hRm : jRm R 8 1 6 := hRm
  unfold cd_L_line
  split
  · exact SndL.cons (sd_aload_n (pc := 0) hx hb (by decide +kernel : decode cL_line 0 = .ok (.aload_n 3, 1)) rfl) (SndL.cons (sd_iconst (v := 0) (pc := 1) hx hb (by decide +kernel : decode cL_line 1 = .ok (.iconst 0, 1)) (by decide +kernel)) (SndL.cons (sd_aload_n (pc := 2) hx hb (by decide +kernel : decode cL_line 2 = .ok (.aload_n 0, 1)) rfl) (SndL.cons (sd_iload_n (pc := 3) hx hb (by decide +kernel : decode cL_line 3 = .ok (.iload_n 1, 1)) rfl) (SndL.cons (sd_iload_n (pc := 4) hx hb (by decide +kernel : decode cL_line 4 = .ok (.iload_n 2, 1)) rfl) (SndL.cons (sd_callX (r := 9) (ev := 4) (hsL := [0, 15, 19, 0]) (C := RX9) (T := TX9) (N := 14) (lv := 8) (mc := 1) (ms := 6) (mc' := 1) (ms' := 6) (y := m_X9_line) (n := 2) (pc := 5) hx hb hown hts hG hml hRm rfl rfl (by decide) (by decide) (by decide) rfl lk_921 lk_922 lk_923 lk_59 rfl lk_924 ⟨by decide +kernel, by decide +kernel, by decide +kernel⟩ (fun k hk9 hz9 => by
      rcases hk9 with rfl | rfl | rfl
      · exact fun H9 locs9 c9 s9 lsA rest9 q9 ce9 g1 g2 g3 lv9 g4 kk9 => vx_catch hown [] ⟨0, 10, 13, 13⟩ [⟨0, 10, 17, 15⟩] htab (fun z hz => by cases hz) (by decide) (by decide) (hts _ lk_314) (va_Nw.use rfl (hG.2.2.2.2.2.2.2.2.2.2.2.2.2.1 "java/lang/IndexOutOfBoundsException" (by decide +kernel))) g1 g2 g3 (lv_astore hx hb (by decide +kernel : decode cL_line 13 = .ok (.astore 4, 2)) g4 (by decide) rfl kk9)
      · exact fun H9 locs9 c9 s9 lsA rest9 q9 ce9 g1 g2 g3 lv9 g4 kk9 => vx_catch hown [⟨0, 10, 13, 13⟩] ⟨0, 10, 17, 15⟩ [] htab (fun z hz => by rcases List.mem_cons.mp hz with rfl | hz; exact (Or.inr ⟨by decide, "java/lang/IndexOutOfBoundsException", hts _ lk_314, hG.2.2.2.2.2.2.2.2.2.2.2.2.2.2.1 "java/lang/IllegalArgumentException" (by decide +kernel) "java/lang/IndexOutOfBoundsException" (by decide +kernel) (by decide)⟩); cases hz) (by decide) (by decide) (hts _ lk_315) (va_Nw.use rfl (hG.2.2.2.2.2.2.2.2.2.2.2.2.2.1 "java/lang/IllegalArgumentException" (by decide +kernel))) g1 g2 g3 (lv_astore hx hb (by decide +kernel : decode cL_line 17 = .ok (.astore 4, 2)) g4 (by decide) rfl kk9)
      · exact absurd rfl hz9) (by decide +kernel : decode cL_line 5 = .ok (.invokevirtual 71, 3))) (SndL.cons (sd_i2l (pc := 8) hx hb (by decide +kernel : decode cL_line 8 = .ok (.i2l, 1))) (SndL.cons (sd_last (pc := 9) hx hb hG (by decide +kernel : decode cL_line 9 = .ok (.lastore, 1))) (SndL.cons (sd_goto (tgt := 21) (pc := 10) hx hb (by decide +kernel : decode cL_line 10 = .ok (.goto 11, 3)) (by decide)) SndL.nil))))))))
  · exact SndL.cons (sd_iconst (v := 1) (pc := 15) hx hb (by decide +kernel : decode cL_line 15 = .ok (.iconst 1, 1)) (by decide +kernel)) (SndL.cons (sd_iret (pc := 16) hx hb hend hlk hr (by decide +kernel : decode cL_line 16 = .ok (.ireturn, 1))) SndL.nil)
  · exact SndL.cons (sd_iconst (v := 2) (pc := 19) hx hb (by decide +kernel : decode cL_line 19 = .ok (.iconst 2, 1)) (by decide +kernel)) (SndL.cons (sd_iret (pc := 20) hx hb hend hlk hr (by decide +kernel : decode cL_line 20 = .ok (.ireturn, 1))) SndL.nil)
  · exact SndL.cons (sd_iconst (v := 0) (pc := 21) hx hb (by decide +kernel : decode cL_line 21 = .ok (.iconst 0, 1)) (by decide +kernel)) (SndL.cons (sd_iret (pc := 22) hx hb hend hlk hr (by decide +kernel : decode cL_line 22 = .ok (.ireturn, 1))) SndL.nil)
  · exact SndL.nil
def hh_L_sortAt : List (Nat × Nat × Nat × Nat) := [(0, 10, 13, 13)]
def m_L_sortAt : jx_Y := (yL_sortAt, cL_sortAt, 5, (some .int), 8, 1, 6)
def cd_L_sortAt (G : jx_G) : jx_C := fun pc => match pc with
  | 0 => ([ti_aload 3, ti_const 0, ti_aload 0, ti_iload 1, ti_iload 2, ti_callX G m_X9_sortAt 9 2 1 6 1 6 4 [0, 15, 0, 0], ti_i2l, ti_astJ, ti_goto 17], 10)
  | 15 => ([ti_const 1, ti_iret 1 6], 16)
  | 17 => ([ti_const 0, ti_iret 1 6], 18)
  | n => ([], n)
set_option maxRecDepth 20000 in
theorem sc_L_sortAt (G : jx_G) : jCdH G m_L_sortAt hh_L_sortAt (cd_L_sortAt G) := by
  intro p e R s m args below meth c Qf ad0 n0 Q hcx htab0 hend pc
  have htab : c.exceptionTable.toList = [⟨0, 10, 13, 13⟩] := htab0
  obtain ⟨hx, hb, hml, hown, hts, hG, hlk, hr, hnm, hRm⟩ := hcx
  have hend : jEnd G p e R s m args below meth c Qf ad0 n0 5 1 6 Q := hend
  have hb : c.code = cL_sortAt := hb
  have hml : c.maxLocals = 5 := hml
  have hown : s.vm.findClass "LeadCasesLaw" = some m.cls := hown
  have hr : meth.sig.returnType = (some .int) := hr
  have hRm : jRm R 8 1 6 := hRm
  unfold cd_L_sortAt
  split
  · exact SndL.cons (sd_aload_n (pc := 0) hx hb (by decide +kernel : decode cL_sortAt 0 = .ok (.aload_n 3, 1)) rfl) (SndL.cons (sd_iconst (v := 0) (pc := 1) hx hb (by decide +kernel : decode cL_sortAt 1 = .ok (.iconst 0, 1)) (by decide +kernel)) (SndL.cons (sd_aload_n (pc := 2) hx hb (by decide +kernel : decode cL_sortAt 2 = .ok (.aload_n 0, 1)) rfl) (SndL.cons (sd_iload_n (pc := 3) hx hb (by decide +kernel : decode cL_sortAt 3 = .ok (.iload_n 1, 1)) rfl) (SndL.cons (sd_iload_n (pc := 4) hx hb (by decide +kernel : decode cL_sortAt 4 = .ok (.iload_n 2, 1)) rfl) (SndL.cons (sd_callX (r := 9) (ev := 4) (hsL := [0, 15, 0, 0]) (C := RX9) (T := TX9) (N := 14) (lv := 8) (mc := 1) (ms := 6) (mc' := 1) (ms' := 6) (y := m_X9_sortAt) (n := 2) (pc := 5) hx hb hown hts hG hml hRm rfl rfl (by decide) (by decide) (by decide) rfl lk_943 lk_944 lk_945 lk_59 rfl lk_946 ⟨by decide +kernel, by decide +kernel, by decide +kernel⟩ (fun k hk9 hz9 => by
      rcases hk9 with rfl | rfl | rfl
      · exact fun H9 locs9 c9 s9 lsA rest9 q9 ce9 g1 g2 g3 lv9 g4 kk9 => vx_catch hown [] ⟨0, 10, 13, 13⟩ [] htab (fun z hz => by cases hz) (by decide) (by decide) (hts _ lk_314) (va_Nw.use rfl (hG.2.2.2.2.2.2.2.2.2.2.2.2.2.1 "java/lang/IndexOutOfBoundsException" (by decide +kernel))) g1 g2 g3 (lv_astore hx hb (by decide +kernel : decode cL_sortAt 13 = .ok (.astore 4, 2)) g4 (by decide) rfl kk9)
      · exact absurd rfl hz9
      · exact absurd rfl hz9) (by decide +kernel : decode cL_sortAt 5 = .ok (.invokevirtual 74, 3))) (SndL.cons (sd_i2l (pc := 8) hx hb (by decide +kernel : decode cL_sortAt 8 = .ok (.i2l, 1))) (SndL.cons (sd_last (pc := 9) hx hb hG (by decide +kernel : decode cL_sortAt 9 = .ok (.lastore, 1))) (SndL.cons (sd_goto (tgt := 17) (pc := 10) hx hb (by decide +kernel : decode cL_sortAt 10 = .ok (.goto 7, 3)) (by decide)) SndL.nil))))))))
  · exact SndL.cons (sd_iconst (v := 1) (pc := 15) hx hb (by decide +kernel : decode cL_sortAt 15 = .ok (.iconst 1, 1)) (by decide +kernel)) (SndL.cons (sd_iret (pc := 16) hx hb hend hlk hr (by decide +kernel : decode cL_sortAt 16 = .ok (.ireturn, 1))) SndL.nil)
  · exact SndL.cons (sd_iconst (v := 0) (pc := 17) hx hb (by decide +kernel : decode cL_sortAt 17 = .ok (.iconst 0, 1)) (by decide +kernel)) (SndL.cons (sd_iret (pc := 18) hx hb hend hlk hr (by decide +kernel : decode cL_sortAt 18 = .ok (.ireturn, 1))) SndL.nil)
  · exact SndL.nil
def hh_L_gap : List (Nat × Nat × Nat × Nat) := [(0, 10, 13, 13)]
def m_L_gap : jx_Y := (yL_gap, cL_gap, 5, (some .int), 8, 1, 6)
def cd_L_gap (G : jx_G) : jx_C := fun pc => match pc with
  | 0 => ([ti_aload 3, ti_const 0, ti_aload 0, ti_iload 1, ti_iload 2, ti_callX G m_X9_gap 9 2 1 6 1 6 4 [0, 15, 0, 0], ti_i2l, ti_astJ, ti_goto 17], 10)
  | 15 => ([ti_const 1, ti_iret 1 6], 16)
  | 17 => ([ti_const 0, ti_iret 1 6], 18)
  | n => ([], n)
set_option maxRecDepth 20000 in
theorem sc_L_gap (G : jx_G) : jCdH G m_L_gap hh_L_gap (cd_L_gap G) := by
  intro p e R s m args below meth c Qf ad0 n0 Q hcx htab0 hend pc
  have htab : c.exceptionTable.toList = [⟨0, 10, 13, 13⟩] := htab0
  obtain ⟨hx, hb, hml, hown, hts, hG, hlk, hr, hnm, hRm⟩ := hcx
  have hend : jEnd G p e R s m args below meth c Qf ad0 n0 5 1 6 Q := hend
  have hb : c.code = cL_gap := hb
  have hml : c.maxLocals = 5 := hml
  have hown : s.vm.findClass "LeadCasesLaw" = some m.cls := hown
  have hr : meth.sig.returnType = (some .int) := hr
  have hRm : jRm R 8 1 6 := hRm
  unfold cd_L_gap
  split
  · exact SndL.cons (sd_aload_n (pc := 0) hx hb (by decide +kernel : decode cL_gap 0 = .ok (.aload_n 3, 1)) rfl) (SndL.cons (sd_iconst (v := 0) (pc := 1) hx hb (by decide +kernel : decode cL_gap 1 = .ok (.iconst 0, 1)) (by decide +kernel)) (SndL.cons (sd_aload_n (pc := 2) hx hb (by decide +kernel : decode cL_gap 2 = .ok (.aload_n 0, 1)) rfl) (SndL.cons (sd_iload_n (pc := 3) hx hb (by decide +kernel : decode cL_gap 3 = .ok (.iload_n 1, 1)) rfl) (SndL.cons (sd_iload_n (pc := 4) hx hb (by decide +kernel : decode cL_gap 4 = .ok (.iload_n 2, 1)) rfl) (SndL.cons (sd_callX (r := 9) (ev := 4) (hsL := [0, 15, 0, 0]) (C := RX9) (T := TX9) (N := 14) (lv := 8) (mc := 1) (ms := 6) (mc' := 1) (ms' := 6) (y := m_X9_gap) (n := 2) (pc := 5) hx hb hown hts hG hml hRm rfl rfl (by decide) (by decide) (by decide) rfl lk_950 lk_951 lk_952 lk_59 rfl lk_953 ⟨by decide +kernel, by decide +kernel, by decide +kernel⟩ (fun k hk9 hz9 => by
      rcases hk9 with rfl | rfl | rfl
      · exact fun H9 locs9 c9 s9 lsA rest9 q9 ce9 g1 g2 g3 lv9 g4 kk9 => vx_catch hown [] ⟨0, 10, 13, 13⟩ [] htab (fun z hz => by cases hz) (by decide) (by decide) (hts _ lk_314) (va_Nw.use rfl (hG.2.2.2.2.2.2.2.2.2.2.2.2.2.1 "java/lang/IndexOutOfBoundsException" (by decide +kernel))) g1 g2 g3 (lv_astore hx hb (by decide +kernel : decode cL_gap 13 = .ok (.astore 4, 2)) g4 (by decide) rfl kk9)
      · exact absurd rfl hz9
      · exact absurd rfl hz9) (by decide +kernel : decode cL_gap 5 = .ok (.invokevirtual 77, 3))) (SndL.cons (sd_i2l (pc := 8) hx hb (by decide +kernel : decode cL_gap 8 = .ok (.i2l, 1))) (SndL.cons (sd_last (pc := 9) hx hb hG (by decide +kernel : decode cL_gap 9 = .ok (.lastore, 1))) (SndL.cons (sd_goto (tgt := 17) (pc := 10) hx hb (by decide +kernel : decode cL_gap 10 = .ok (.goto 7, 3)) (by decide)) SndL.nil))))))))
  · exact SndL.cons (sd_iconst (v := 1) (pc := 15) hx hb (by decide +kernel : decode cL_gap 15 = .ok (.iconst 1, 1)) (by decide +kernel)) (SndL.cons (sd_iret (pc := 16) hx hb hend hlk hr (by decide +kernel : decode cL_gap 16 = .ok (.ireturn, 1))) SndL.nil)
  · exact SndL.cons (sd_iconst (v := 0) (pc := 17) hx hb (by decide +kernel : decode cL_gap 17 = .ok (.iconst 0, 1)) (by decide +kernel)) (SndL.cons (sd_iret (pc := 18) hx hb hend hlk hr (by decide +kernel : decode cL_gap 18 = .ok (.ireturn, 1))) SndL.nil)
  · exact SndL.nil
def hh_L_form : List (Nat × Nat × Nat × Nat) := [(0, 10, 13, 13), (0, 10, 17, 15)]
def m_L_form : jx_Y := (yL_form, cL_form, 5, (some .int), 8, 1, 6)
def cd_L_form (G : jx_G) : jx_C := fun pc => match pc with
  | 0 => ([ti_aload 3, ti_const 0, ti_aload 0, ti_iload 1, ti_iload 2, ti_callX G m_X9_form 9 2 1 6 1 6 4 [0, 15, 19, 0], ti_i2l, ti_astJ, ti_goto 21], 10)
  | 15 => ([ti_const 1, ti_iret 1 6], 16)
  | 19 => ([ti_const 2, ti_iret 1 6], 20)
  | 21 => ([ti_const 0, ti_iret 1 6], 22)
  | n => ([], n)
set_option maxRecDepth 20000 in
theorem sc_L_form (G : jx_G) : jCdH G m_L_form hh_L_form (cd_L_form G) := by
  intro p e R s m args below meth c Qf ad0 n0 Q hcx htab0 hend pc
  have htab : c.exceptionTable.toList = [⟨0, 10, 13, 13⟩, ⟨0, 10, 17, 15⟩] := htab0
  obtain ⟨hx, hb, hml, hown, hts, hG, hlk, hr, hnm, hRm⟩ := hcx
  have hend : jEnd G p e R s m args below meth c Qf ad0 n0 5 1 6 Q := hend
  have hb : c.code = cL_form := hb
  have hml : c.maxLocals = 5 := hml
  have hown : s.vm.findClass "LeadCasesLaw" = some m.cls := hown
  have hr : meth.sig.returnType = (some .int) := hr
  have hRm : jRm R 8 1 6 := hRm
  unfold cd_L_form
  split
  · exact SndL.cons (sd_aload_n (pc := 0) hx hb (by decide +kernel : decode cL_form 0 = .ok (.aload_n 3, 1)) rfl) (SndL.cons (sd_iconst (v := 0) (pc := 1) hx hb (by decide +kernel : decode cL_form 1 = .ok (.iconst 0, 1)) (by decide +kernel)) (SndL.cons (sd_aload_n (pc := 2) hx hb (by decide +kernel : decode cL_form 2 = .ok (.aload_n 0, 1)) rfl) (SndL.cons (sd_iload_n (pc := 3) hx hb (by decide +kernel : decode cL_form 3 = .ok (.iload_n 1, 1)) rfl) (SndL.cons (sd_iload_n (pc := 4) hx hb (by decide +kernel : decode cL_form 4 = .ok (.iload_n 2, 1)) rfl) (SndL.cons (sd_callX (r := 9) (ev := 4) (hsL := [0, 15, 19, 0]) (C := RX9) (T := TX9) (N := 14) (lv := 8) (mc := 1) (ms := 6) (mc' := 1) (ms' := 6) (y := m_X9_form) (n := 2) (pc := 5) hx hb hown hts hG hml hRm rfl rfl (by decide) (by decide) (by decide) rfl lk_958 lk_959 lk_960 lk_59 rfl lk_961 ⟨by decide +kernel, by decide +kernel, by decide +kernel⟩ (fun k hk9 hz9 => by
      rcases hk9 with rfl | rfl | rfl
      · exact fun H9 locs9 c9 s9 lsA rest9 q9 ce9 g1 g2 g3 lv9 g4 kk9 => vx_catch hown [] ⟨0, 10, 13, 13⟩ [⟨0, 10, 17, 15⟩] htab (fun z hz => by cases hz) (by decide) (by decide) (hts _ lk_314) (va_Nw.use rfl (hG.2.2.2.2.2.2.2.2.2.2.2.2.2.1 "java/lang/IndexOutOfBoundsException" (by decide +kernel))) g1 g2 g3 (lv_astore hx hb (by decide +kernel : decode cL_form 13 = .ok (.astore 4, 2)) g4 (by decide) rfl kk9)
      · exact fun H9 locs9 c9 s9 lsA rest9 q9 ce9 g1 g2 g3 lv9 g4 kk9 => vx_catch hown [⟨0, 10, 13, 13⟩] ⟨0, 10, 17, 15⟩ [] htab (fun z hz => by rcases List.mem_cons.mp hz with rfl | hz; exact (Or.inr ⟨by decide, "java/lang/IndexOutOfBoundsException", hts _ lk_314, hG.2.2.2.2.2.2.2.2.2.2.2.2.2.2.1 "java/lang/IllegalArgumentException" (by decide +kernel) "java/lang/IndexOutOfBoundsException" (by decide +kernel) (by decide)⟩); cases hz) (by decide) (by decide) (hts _ lk_315) (va_Nw.use rfl (hG.2.2.2.2.2.2.2.2.2.2.2.2.2.1 "java/lang/IllegalArgumentException" (by decide +kernel))) g1 g2 g3 (lv_astore hx hb (by decide +kernel : decode cL_form 17 = .ok (.astore 4, 2)) g4 (by decide) rfl kk9)
      · exact absurd rfl hz9) (by decide +kernel : decode cL_form 5 = .ok (.invokevirtual 80, 3))) (SndL.cons (sd_i2l (pc := 8) hx hb (by decide +kernel : decode cL_form 8 = .ok (.i2l, 1))) (SndL.cons (sd_last (pc := 9) hx hb hG (by decide +kernel : decode cL_form 9 = .ok (.lastore, 1))) (SndL.cons (sd_goto (tgt := 21) (pc := 10) hx hb (by decide +kernel : decode cL_form 10 = .ok (.goto 11, 3)) (by decide)) SndL.nil))))))))
  · exact SndL.cons (sd_iconst (v := 1) (pc := 15) hx hb (by decide +kernel : decode cL_form 15 = .ok (.iconst 1, 1)) (by decide +kernel)) (SndL.cons (sd_iret (pc := 16) hx hb hend hlk hr (by decide +kernel : decode cL_form 16 = .ok (.ireturn, 1))) SndL.nil)
  · exact SndL.cons (sd_iconst (v := 2) (pc := 19) hx hb (by decide +kernel : decode cL_form 19 = .ok (.iconst 2, 1)) (by decide +kernel)) (SndL.cons (sd_iret (pc := 20) hx hb hend hlk hr (by decide +kernel : decode cL_form 20 = .ok (.ireturn, 1))) SndL.nil)
  · exact SndL.cons (sd_iconst (v := 0) (pc := 21) hx hb (by decide +kernel : decode cL_form 21 = .ok (.iconst 0, 1)) (by decide +kernel)) (SndL.cons (sd_iret (pc := 22) hx hb hend hlk hr (by decide +kernel : decode cL_form 22 = .ok (.ireturn, 1))) SndL.nil)
  · exact SndL.nil
def hh_L_printed : List (Nat × Nat × Nat × Nat) := [(0, 9, 12, 13)]
def m_L_printed : jx_Y := (yL_printed, cL_printed, 4, (some .int), 8, 1, 6)
def cd_L_printed (G : jx_G) : jx_C := fun pc => match pc with
  | 0 => ([ti_aload 2, ti_const 0, ti_aload 0, ti_iload 1, ti_callX G m_X9_printed 9 1 1 6 1 6 3 [0, 13, 0, 0], ti_i2l, ti_astJ, ti_goto 15], 9)
  | 13 => ([ti_const 1, ti_iret 1 6], 14)
  | 15 => ([ti_const 0, ti_iret 1 6], 16)
  | n => ([], n)
set_option maxRecDepth 20000 in
theorem sc_L_printed (G : jx_G) : jCdH G m_L_printed hh_L_printed (cd_L_printed G) := by
  intro p e R s m args below meth c Qf ad0 n0 Q hcx htab0 hend pc
  have htab : c.exceptionTable.toList = [⟨0, 9, 12, 13⟩] := htab0
  obtain ⟨hx, hb, hml, hown, hts, hG, hlk, hr, hnm, hRm⟩ := hcx
  have hend : jEnd G p e R s m args below meth c Qf ad0 n0 4 1 6 Q := hend
  have hb : c.code = cL_printed := hb
  have hml : c.maxLocals = 4 := hml
  have hown : s.vm.findClass "LeadCasesLaw" = some m.cls := hown
  have hr : meth.sig.returnType = (some .int) := hr
  have hRm : jRm R 8 1 6 := hRm
  unfold cd_L_printed
  split
  · exact SndL.cons (sd_aload_n (pc := 0) hx hb (by decide +kernel : decode cL_printed 0 = .ok (.aload_n 2, 1)) rfl) (SndL.cons (sd_iconst (v := 0) (pc := 1) hx hb (by decide +kernel : decode cL_printed 1 = .ok (.iconst 0, 1)) (by decide +kernel)) (SndL.cons (sd_aload_n (pc := 2) hx hb (by decide +kernel : decode cL_printed 2 = .ok (.aload_n 0, 1)) rfl) (SndL.cons (sd_iload_n (pc := 3) hx hb (by decide +kernel : decode cL_printed 3 = .ok (.iload_n 1, 1)) rfl) (SndL.cons (sd_callX (r := 9) (ev := 3) (hsL := [0, 13, 0, 0]) (C := RX9) (T := TX9) (N := 14) (lv := 8) (mc := 1) (ms := 6) (mc' := 1) (ms' := 6) (y := m_X9_printed) (n := 1) (pc := 4) hx hb hown hts hG hml hRm rfl rfl (by decide) (by decide) (by decide) rfl lk_966 lk_967 lk_968 lk_59 rfl lk_969 ⟨by decide +kernel, by decide +kernel, by decide +kernel⟩ (fun k hk9 hz9 => by
      rcases hk9 with rfl | rfl | rfl
      · exact fun H9 locs9 c9 s9 lsA rest9 q9 ce9 g1 g2 g3 lv9 g4 kk9 => vx_catch hown [] ⟨0, 9, 12, 13⟩ [] htab (fun z hz => by cases hz) (by decide) (by decide) (hts _ lk_314) (va_Nw.use rfl (hG.2.2.2.2.2.2.2.2.2.2.2.2.2.1 "java/lang/IndexOutOfBoundsException" (by decide +kernel))) g1 g2 g3 (lv_astore_n hx hb (by decide +kernel : decode cL_printed 12 = .ok (.astore_n 3, 1)) rfl g4 (by decide) rfl kk9)
      · exact absurd rfl hz9
      · exact absurd rfl hz9) (by decide +kernel : decode cL_printed 4 = .ok (.invokevirtual 83, 3))) (SndL.cons (sd_i2l (pc := 7) hx hb (by decide +kernel : decode cL_printed 7 = .ok (.i2l, 1))) (SndL.cons (sd_last (pc := 8) hx hb hG (by decide +kernel : decode cL_printed 8 = .ok (.lastore, 1))) (SndL.cons (sd_goto (tgt := 15) (pc := 9) hx hb (by decide +kernel : decode cL_printed 9 = .ok (.goto 6, 3)) (by decide)) SndL.nil)))))))
  · exact SndL.cons (sd_iconst (v := 1) (pc := 13) hx hb (by decide +kernel : decode cL_printed 13 = .ok (.iconst 1, 1)) (by decide +kernel)) (SndL.cons (sd_iret (pc := 14) hx hb hend hlk hr (by decide +kernel : decode cL_printed 14 = .ok (.ireturn, 1))) SndL.nil)
  · exact SndL.cons (sd_iconst (v := 0) (pc := 15) hx hb (by decide +kernel : decode cL_printed 15 = .ok (.iconst 0, 1)) (by decide +kernel)) (SndL.cons (sd_iret (pc := 16) hx hb hend hlk hr (by decide +kernel : decode cL_printed 16 = .ok (.ireturn, 1))) SndL.nil)
  · exact SndL.nil
def hh_L_lead : List (Nat × Nat × Nat × Nat) := [(0, 10, 13, 13)]
def m_L_lead : jx_Y := (yL_lead, cL_lead, 5, (some .int), 8, 1, 6)
def cd_L_lead (G : jx_G) : jx_C := fun pc => match pc with
  | 0 => ([ti_aload 3, ti_const 0, ti_aload 0, ti_iload 1, ti_iload 2, ti_callX G m_X9_lead 9 2 1 6 1 6 4 [0, 15, 0, 0], ti_i2l, ti_astJ, ti_goto 17], 10)
  | 15 => ([ti_const 1, ti_iret 1 6], 16)
  | 17 => ([ti_const 0, ti_iret 1 6], 18)
  | n => ([], n)
set_option maxRecDepth 20000 in
theorem sc_L_lead (G : jx_G) : jCdH G m_L_lead hh_L_lead (cd_L_lead G) := by
  intro p e R s m args below meth c Qf ad0 n0 Q hcx htab0 hend pc
  have htab : c.exceptionTable.toList = [⟨0, 10, 13, 13⟩] := htab0
  obtain ⟨hx, hb, hml, hown, hts, hG, hlk, hr, hnm, hRm⟩ := hcx
  have hend : jEnd G p e R s m args below meth c Qf ad0 n0 5 1 6 Q := hend
  have hb : c.code = cL_lead := hb
  have hml : c.maxLocals = 5 := hml
  have hown : s.vm.findClass "LeadCasesLaw" = some m.cls := hown
  have hr : meth.sig.returnType = (some .int) := hr
  have hRm : jRm R 8 1 6 := hRm
  unfold cd_L_lead
  split
  · exact SndL.cons (sd_aload_n (pc := 0) hx hb (by decide +kernel : decode cL_lead 0 = .ok (.aload_n 3, 1)) rfl) (SndL.cons (sd_iconst (v := 0) (pc := 1) hx hb (by decide +kernel : decode cL_lead 1 = .ok (.iconst 0, 1)) (by decide +kernel)) (SndL.cons (sd_aload_n (pc := 2) hx hb (by decide +kernel : decode cL_lead 2 = .ok (.aload_n 0, 1)) rfl) (SndL.cons (sd_iload_n (pc := 3) hx hb (by decide +kernel : decode cL_lead 3 = .ok (.iload_n 1, 1)) rfl) (SndL.cons (sd_iload_n (pc := 4) hx hb (by decide +kernel : decode cL_lead 4 = .ok (.iload_n 2, 1)) rfl) (SndL.cons (sd_callX (r := 9) (ev := 4) (hsL := [0, 15, 0, 0]) (C := RX9) (T := TX9) (N := 14) (lv := 8) (mc := 1) (ms := 6) (mc' := 1) (ms' := 6) (y := m_X9_lead) (n := 2) (pc := 5) hx hb hown hts hG hml hRm rfl rfl (by decide) (by decide) (by decide) rfl lk_982 lk_983 lk_984 lk_59 rfl lk_985 ⟨by decide +kernel, by decide +kernel, by decide +kernel⟩ (fun k hk9 hz9 => by
      rcases hk9 with rfl | rfl | rfl
      · exact fun H9 locs9 c9 s9 lsA rest9 q9 ce9 g1 g2 g3 lv9 g4 kk9 => vx_catch hown [] ⟨0, 10, 13, 13⟩ [] htab (fun z hz => by cases hz) (by decide) (by decide) (hts _ lk_314) (va_Nw.use rfl (hG.2.2.2.2.2.2.2.2.2.2.2.2.2.1 "java/lang/IndexOutOfBoundsException" (by decide +kernel))) g1 g2 g3 (lv_astore hx hb (by decide +kernel : decode cL_lead 13 = .ok (.astore 4, 2)) g4 (by decide) rfl kk9)
      · exact absurd rfl hz9
      · exact absurd rfl hz9) (by decide +kernel : decode cL_lead 5 = .ok (.invokevirtual 87, 3))) (SndL.cons (sd_i2l (pc := 8) hx hb (by decide +kernel : decode cL_lead 8 = .ok (.i2l, 1))) (SndL.cons (sd_last (pc := 9) hx hb hG (by decide +kernel : decode cL_lead 9 = .ok (.lastore, 1))) (SndL.cons (sd_goto (tgt := 17) (pc := 10) hx hb (by decide +kernel : decode cL_lead 10 = .ok (.goto 7, 3)) (by decide)) SndL.nil))))))))
  · exact SndL.cons (sd_iconst (v := 1) (pc := 15) hx hb (by decide +kernel : decode cL_lead 15 = .ok (.iconst 1, 1)) (by decide +kernel)) (SndL.cons (sd_iret (pc := 16) hx hb hend hlk hr (by decide +kernel : decode cL_lead 16 = .ok (.ireturn, 1))) SndL.nil)
  · exact SndL.cons (sd_iconst (v := 0) (pc := 17) hx hb (by decide +kernel : decode cL_lead 17 = .ok (.iconst 0, 1)) (by decide +kernel)) (SndL.cons (sd_iret (pc := 18) hx hb hend hlk hr (by decide +kernel : decode cL_lead 18 = .ok (.ireturn, 1))) SndL.nil)
  · exact SndL.nil
def hh_L_leadAnew : List (Nat × Nat × Nat × Nat) := [(0, 10, 13, 13)]
def m_L_leadAnew : jx_Y := (yL_leadAnew, cL_leadAnew, 5, (some .int), 8, 1, 6)
def cd_L_leadAnew (G : jx_G) : jx_C := fun pc => match pc with
  | 0 => ([ti_aload 3, ti_const 0, ti_aload 0, ti_iload 1, ti_iload 2, ti_callX G m_X9_leadAnew 9 2 1 6 1 6 4 [0, 15, 0, 0], ti_i2l, ti_astJ, ti_goto 17], 10)
  | 15 => ([ti_const 1, ti_iret 1 6], 16)
  | 17 => ([ti_const 0, ti_iret 1 6], 18)
  | n => ([], n)
set_option maxRecDepth 20000 in
theorem sc_L_leadAnew (G : jx_G) : jCdH G m_L_leadAnew hh_L_leadAnew (cd_L_leadAnew G) := by
  intro p e R s m args below meth c Qf ad0 n0 Q hcx htab0 hend pc
  have htab : c.exceptionTable.toList = [⟨0, 10, 13, 13⟩] := htab0
  obtain ⟨hx, hb, hml, hown, hts, hG, hlk, hr, hnm, hRm⟩ := hcx
  have hend : jEnd G p e R s m args below meth c Qf ad0 n0 5 1 6 Q := hend
  have hb : c.code = cL_leadAnew := hb
  have hml : c.maxLocals = 5 := hml
  have hown : s.vm.findClass "LeadCasesLaw" = some m.cls := hown
  have hr : meth.sig.returnType = (some .int) := hr
  have hRm : jRm R 8 1 6 := hRm
  unfold cd_L_leadAnew
  split
  · exact SndL.cons (sd_aload_n (pc := 0) hx hb (by decide +kernel : decode cL_leadAnew 0 = .ok (.aload_n 3, 1)) rfl) (SndL.cons (sd_iconst (v := 0) (pc := 1) hx hb (by decide +kernel : decode cL_leadAnew 1 = .ok (.iconst 0, 1)) (by decide +kernel)) (SndL.cons (sd_aload_n (pc := 2) hx hb (by decide +kernel : decode cL_leadAnew 2 = .ok (.aload_n 0, 1)) rfl) (SndL.cons (sd_iload_n (pc := 3) hx hb (by decide +kernel : decode cL_leadAnew 3 = .ok (.iload_n 1, 1)) rfl) (SndL.cons (sd_iload_n (pc := 4) hx hb (by decide +kernel : decode cL_leadAnew 4 = .ok (.iload_n 2, 1)) rfl) (SndL.cons (sd_callX (r := 9) (ev := 4) (hsL := [0, 15, 0, 0]) (C := RX9) (T := TX9) (N := 14) (lv := 8) (mc := 1) (ms := 6) (mc' := 1) (ms' := 6) (y := m_X9_leadAnew) (n := 2) (pc := 5) hx hb hown hts hG hml hRm rfl rfl (by decide) (by decide) (by decide) rfl lk_989 lk_990 lk_991 lk_59 rfl lk_992 ⟨by decide +kernel, by decide +kernel, by decide +kernel⟩ (fun k hk9 hz9 => by
      rcases hk9 with rfl | rfl | rfl
      · exact fun H9 locs9 c9 s9 lsA rest9 q9 ce9 g1 g2 g3 lv9 g4 kk9 => vx_catch hown [] ⟨0, 10, 13, 13⟩ [] htab (fun z hz => by cases hz) (by decide) (by decide) (hts _ lk_314) (va_Nw.use rfl (hG.2.2.2.2.2.2.2.2.2.2.2.2.2.1 "java/lang/IndexOutOfBoundsException" (by decide +kernel))) g1 g2 g3 (lv_astore hx hb (by decide +kernel : decode cL_leadAnew 13 = .ok (.astore 4, 2)) g4 (by decide) rfl kk9)
      · exact absurd rfl hz9
      · exact absurd rfl hz9) (by decide +kernel : decode cL_leadAnew 5 = .ok (.invokevirtual 90, 3))) (SndL.cons (sd_i2l (pc := 8) hx hb (by decide +kernel : decode cL_leadAnew 8 = .ok (.i2l, 1))) (SndL.cons (sd_last (pc := 9) hx hb hG (by decide +kernel : decode cL_leadAnew 9 = .ok (.lastore, 1))) (SndL.cons (sd_goto (tgt := 17) (pc := 10) hx hb (by decide +kernel : decode cL_leadAnew 10 = .ok (.goto 7, 3)) (by decide)) SndL.nil))))))))
  · exact SndL.cons (sd_iconst (v := 1) (pc := 15) hx hb (by decide +kernel : decode cL_leadAnew 15 = .ok (.iconst 1, 1)) (by decide +kernel)) (SndL.cons (sd_iret (pc := 16) hx hb hend hlk hr (by decide +kernel : decode cL_leadAnew 16 = .ok (.ireturn, 1))) SndL.nil)
  · exact SndL.cons (sd_iconst (v := 0) (pc := 17) hx hb (by decide +kernel : decode cL_leadAnew 17 = .ok (.iconst 0, 1)) (by decide +kernel)) (SndL.cons (sd_iret (pc := 18) hx hb hend hlk hr (by decide +kernel : decode cL_leadAnew 18 = .ok (.ireturn, 1))) SndL.nil)
  · exact SndL.nil
def hh_L_ahead : List (Nat × Nat × Nat × Nat) := [(0, 9, 12, 13)]
def m_L_ahead : jx_Y := (yL_ahead, cL_ahead, 4, (some .int), 8, 1, 6)
def cd_L_ahead (G : jx_G) : jx_C := fun pc => match pc with
  | 0 => ([ti_aload 2, ti_const 0, ti_aload 0, ti_iload 1, ti_callX G m_X9_ahead 9 1 1 6 1 6 3 [0, 13, 0, 0], ti_i2l, ti_astJ, ti_goto 15], 9)
  | 13 => ([ti_const 1, ti_iret 1 6], 14)
  | 15 => ([ti_const 0, ti_iret 1 6], 16)
  | n => ([], n)
set_option maxRecDepth 20000 in
theorem sc_L_ahead (G : jx_G) : jCdH G m_L_ahead hh_L_ahead (cd_L_ahead G) := by
  intro p e R s m args below meth c Qf ad0 n0 Q hcx htab0 hend pc
  have htab : c.exceptionTable.toList = [⟨0, 9, 12, 13⟩] := htab0
  obtain ⟨hx, hb, hml, hown, hts, hG, hlk, hr, hnm, hRm⟩ := hcx
  have hend : jEnd G p e R s m args below meth c Qf ad0 n0 4 1 6 Q := hend
  have hb : c.code = cL_ahead := hb
  have hml : c.maxLocals = 4 := hml
  have hown : s.vm.findClass "LeadCasesLaw" = some m.cls := hown
  have hr : meth.sig.returnType = (some .int) := hr
  have hRm : jRm R 8 1 6 := hRm
  unfold cd_L_ahead
  split
  · exact SndL.cons (sd_aload_n (pc := 0) hx hb (by decide +kernel : decode cL_ahead 0 = .ok (.aload_n 2, 1)) rfl) (SndL.cons (sd_iconst (v := 0) (pc := 1) hx hb (by decide +kernel : decode cL_ahead 1 = .ok (.iconst 0, 1)) (by decide +kernel)) (SndL.cons (sd_aload_n (pc := 2) hx hb (by decide +kernel : decode cL_ahead 2 = .ok (.aload_n 0, 1)) rfl) (SndL.cons (sd_iload_n (pc := 3) hx hb (by decide +kernel : decode cL_ahead 3 = .ok (.iload_n 1, 1)) rfl) (SndL.cons (sd_callX (r := 9) (ev := 3) (hsL := [0, 13, 0, 0]) (C := RX9) (T := TX9) (N := 14) (lv := 8) (mc := 1) (ms := 6) (mc' := 1) (ms' := 6) (y := m_X9_ahead) (n := 1) (pc := 4) hx hb hown hts hG hml hRm rfl rfl (by decide) (by decide) (by decide) rfl lk_1009 lk_1010 lk_1011 lk_59 rfl lk_1012 ⟨by decide +kernel, by decide +kernel, by decide +kernel⟩ (fun k hk9 hz9 => by
      rcases hk9 with rfl | rfl | rfl
      · exact fun H9 locs9 c9 s9 lsA rest9 q9 ce9 g1 g2 g3 lv9 g4 kk9 => vx_catch hown [] ⟨0, 9, 12, 13⟩ [] htab (fun z hz => by cases hz) (by decide) (by decide) (hts _ lk_314) (va_Nw.use rfl (hG.2.2.2.2.2.2.2.2.2.2.2.2.2.1 "java/lang/IndexOutOfBoundsException" (by decide +kernel))) g1 g2 g3 (lv_astore_n hx hb (by decide +kernel : decode cL_ahead 12 = .ok (.astore_n 3, 1)) rfl g4 (by decide) rfl kk9)
      · exact absurd rfl hz9
      · exact absurd rfl hz9) (by decide +kernel : decode cL_ahead 4 = .ok (.invokevirtual 93, 3))) (SndL.cons (sd_i2l (pc := 7) hx hb (by decide +kernel : decode cL_ahead 7 = .ok (.i2l, 1))) (SndL.cons (sd_last (pc := 8) hx hb hG (by decide +kernel : decode cL_ahead 8 = .ok (.lastore, 1))) (SndL.cons (sd_goto (tgt := 15) (pc := 9) hx hb (by decide +kernel : decode cL_ahead 9 = .ok (.goto 6, 3)) (by decide)) SndL.nil)))))))
  · exact SndL.cons (sd_iconst (v := 1) (pc := 13) hx hb (by decide +kernel : decode cL_ahead 13 = .ok (.iconst 1, 1)) (by decide +kernel)) (SndL.cons (sd_iret (pc := 14) hx hb hend hlk hr (by decide +kernel : decode cL_ahead 14 = .ok (.ireturn, 1))) SndL.nil)
  · exact SndL.cons (sd_iconst (v := 0) (pc := 15) hx hb (by decide +kernel : decode cL_ahead 15 = .ok (.iconst 0, 1)) (by decide +kernel)) (SndL.cons (sd_iret (pc := 16) hx hb hend hlk hr (by decide +kernel : decode cL_ahead 16 = .ok (.ireturn, 1))) SndL.nil)
  · exact SndL.nil
