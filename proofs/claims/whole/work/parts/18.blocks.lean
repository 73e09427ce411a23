/-! the blocks of the methods, one equation each (by wip/whole/gen8.py) -/
theorem cb_X0_init_0 (G : jx_G) : cd_X0_init G 0 = ([ti_aload 0, ti_oinit, ti_aload 0, ti_const 0, ti_putI 0 0, ti_aload 0, ti_const 0, ti_putI 0 1, ti_aload 0, ti_const 0, ti_putZ 0 2, ti_aload 0, ti_const 0, ti_putZ 0 3, ti_vret 0 0], 24) := rfl
theorem cb_X0_note_0 (G : jx_G) : cd_X0_note G 0 = ([ti_aload 0, ti_iload 1, ti_putI 0 0, ti_aload 0, ti_iload 2, ti_putI 0 1, ti_aload 0, ti_iload 3, ti_putZ 0 2, ti_aload 0, ti_iload 4, ti_putZ 0 3, ti_vret 0 0], 21) := rfl
theorem cb_X0_isEmpty_0 (G : jx_G) : cd_X0_isEmpty G 0 = ([ti_aload 0, ti_getI 0 0, ti_aload 0, ti_getI 0 1, ti_icmp (fun x y => x < y) 15, ti_const 1, ti_goto 16], 12) := rfl
theorem cb_X0_isEmpty_15 (G : jx_G) : cd_X0_isEmpty G 15 = ([ti_const 0], 16) := rfl
theorem cb_X0_isEmpty_16 (G : jx_G) : cd_X0_isEmpty G 16 = ([ti_zret 0 0], 16) := rfl
theorem cb_X1_init_0 (G : jx_G) : cd_X1_init G 0 = ([ti_aload 0, ti_oinit, ti_aload 0, ti_const 0, ti_putI 1 1, ti_aload 0, ti_const 0, ti_putI 1 2, ti_aload 0, ti_iload 1, ti_putI 1 0, ti_vret 0 0], 19) := rfl
theorem cb_X2_init_0 (G : jx_G) : cd_X2_init G 0 = ([ti_aload 0, ti_oinit, ti_aload 0, ti_const 300, ti_newa 22 1 300, ti_putP 2 0 22, ti_aload 0, ti_const 0, ti_putI 2 1, ti_vret 1 300], 19) := rfl
theorem cb_X2_append_0 (G : jx_G) : cd_X2_append G 0 = ([ti_aload 1, ti_ifnull 53, ti_aload 0, ti_getI 2 1, ti_if (fun x => x < 0) 53, ti_aload 0, ti_getI 2 1, ti_aload 0, ti_getP 2 0 22, ti_alen 22, ti_icmp (fun x y => y ≤ x) 53, ti_aload 0, ti_getP 2 0 22, ti_aload 0, ti_getI 2 1, ti_aload 1, ti_astP 22 6, ti_aload 0, ti_dup, ti_getI 2 1, ti_const 1, ti_bin (fun x y => x + y), ti_putI 2 1, ti_aload 1, ti_const 0, ti_putZ 6 4, ti_aload 1, ti_const 2, ti_putI 6 5], 53) := rfl
theorem cb_X2_append_53 (G : jx_G) : cd_X2_append G 53 = ([ti_vret 0 0], 53) := rfl
theorem cb_X2_sortOn_0 (G : jx_G) : cd_X2_sortOn G 0 = ([ti_iload 1, ti_if (fun x => x < 0) 30, ti_iload 1, ti_aload 0, ti_getI 2 1, ti_icmp (fun x y => y ≤ x) 30, ti_iload 1, ti_aload 0, ti_getP 2 0 22, ti_alen 22, ti_icmp (fun x y => y ≤ x) 30, ti_aload 0, ti_getP 2 0 22, ti_iload 1, ti_aldP 22 6, ti_goto 31], 27) := rfl
theorem cb_X2_sortOn_30 (G : jx_G) : cd_X2_sortOn G 30 = ([ti_null 6], 31) := rfl
theorem cb_X2_sortOn_31 (G : jx_G) : cd_X2_sortOn G 31 = ([ti_aret 0 0], 31) := rfl
theorem cb_X2_placeOf_0 (G : jx_G) : cd_X2_placeOf G 0 = ([ti_const 0, ti_istore 2], 2) := rfl
theorem cb_X2_placeOf_2 (G : jx_G) : cd_X2_placeOf G 2 = ([ti_iload 2, ti_aload 0, ti_getI 2 1, ti_icmp (fun x y => y ≤ x) 37, ti_iload 2, ti_aload 0, ti_getP 2 0 22, ti_alen 22, ti_icmp (fun x y => y ≤ x) 37, ti_aload 0, ti_getP 2 0 22, ti_iload 2, ti_aldP 22 6, ti_aload 1, ti_acmpNe 31, ti_iload 2, ti_iret 0 0], 30) := rfl
theorem cb_X2_placeOf_31 (G : jx_G) : cd_X2_placeOf G 31 = ([ti_iinc 2 1, ti_goto 2], 34) := rfl
theorem cb_X2_placeOf_37 (G : jx_G) : cd_X2_placeOf G 37 = ([ti_const (-1), ti_iret 0 0], 38) := rfl
theorem cb_X6_hasFace_0 (G : jx_G) : cd_X6_hasFace G 0 = ([ti_aload 0, ti_getI 6 1, ti_iload 1, ti_icmp (fun x y => ¬ x = y) 20, ti_aload 0, ti_getI 6 2, ti_iload 2, ti_icmp (fun x y => ¬ x = y) 20, ti_const 1, ti_goto 21], 17) := rfl
theorem cb_X6_hasFace_20 (G : jx_G) : cd_X6_hasFace G 20 = ([ti_const 0], 21) := rfl
theorem cb_X6_hasFace_21 (G : jx_G) : cd_X6_hasFace G 21 = ([ti_zret 0 0], 21) := rfl
theorem cb_X2_countOf_0 (G : jx_G) : cd_X2_countOf G 0 = ([ti_const 0, ti_istore 3, ti_const 0, ti_istore 4], 5) := rfl
theorem cb_X2_countOf_5 (G : jx_G) : cd_X2_countOf G 5 = ([ti_iload 4, ti_aload 0, ti_getI 2 1, ti_icmp (fun x y => y ≤ x) 46, ti_aload 0, ti_iload 4, ti_callV G m_X2_sortOn 2 1 0 0 0 0, ti_astore 5, ti_aload 5, ti_ifnull 40, ti_aload 5, ti_iload 1, ti_iload 2, ti_callV G m_X6_hasFace 6 2 0 0 0 0, ti_if (fun x => x = 0) 40, ti_iinc 3 1], 40) := rfl
theorem cb_X2_countOf_40 (G : jx_G) : cd_X2_countOf G 40 = ([ti_iinc 4 1, ti_goto 5], 43) := rfl
theorem cb_X2_countOf_46 (G : jx_G) : cd_X2_countOf G 46 = ([ti_iload 3, ti_iret 0 0], 47) := rfl
theorem cb_X2_closeUp_0 (G : jx_G) : cd_X2_closeUp G 0 = ([ti_iload 1, ti_if (fun x => x < 0) 18, ti_iload 2, ti_if (fun x => x < 0) 18, ti_iload 2, ti_aload 0, ti_getI 2 1, ti_iload 1, ti_bin (fun x y => x - y), ti_icmp (fun x y => x ≤ y) 19], 18) := rfl
theorem cb_X2_closeUp_18 (G : jx_G) : cd_X2_closeUp G 18 = ([ti_vret 0 0], 18) := rfl
theorem cb_X2_closeUp_19 (G : jx_G) : cd_X2_closeUp G 19 = ([ti_iload 1, ti_iload 2, ti_bin (fun x y => x + y), ti_istore 3], 23) := rfl
theorem cb_X2_closeUp_23 (G : jx_G) : cd_X2_closeUp G 23 = ([ti_iload 3, ti_aload 0, ti_getI 2 1, ti_icmp (fun x y => y ≤ x) 60, ti_iload 3, ti_aload 0, ti_getP 2 0 22, ti_alen 22, ti_icmp (fun x y => y ≤ x) 60, ti_aload 0, ti_getP 2 0 22, ti_iload 3, ti_iload 2, ti_bin (fun x y => x - y), ti_aload 0, ti_getP 2 0 22, ti_iload 3, ti_aldP 22 6, ti_astP 22 6, ti_iinc 3 1, ti_goto 23], 57) := rfl
theorem cb_X2_closeUp_60 (G : jx_G) : cd_X2_closeUp G 60 = ([ti_aload 0, ti_dup, ti_getI 2 1, ti_iload 2, ti_bin (fun x y => x - y), ti_putI 2 1, ti_vret 0 0], 70) := rfl
theorem cb_X2_takeLowest_0 (G : jx_G) : cd_X2_takeLowest G 0 = ([ti_null 6, ti_astore 3, ti_const 0, ti_istore 4], 5) := rfl
theorem cb_X2_takeLowest_5 (G : jx_G) : cd_X2_takeLowest G 5 = ([ti_iload 4, ti_aload 0, ti_getI 2 1, ti_icmp (fun x y => y ≤ x) 62, ti_aload 0, ti_iload 4, ti_callV G m_X2_sortOn 2 1 0 0 0 0, ti_astore 5, ti_aload 5, ti_ifnull 56, ti_aload 5, ti_iload 1, ti_iload 2, ti_callV G m_X6_hasFace 6 2 0 0 0 0, ti_if (fun x => x = 0) 56, ti_aload 3, ti_ifnull 53, ti_aload 5, ti_getI 6 0, ti_aload 3, ti_getI 6 0, ti_icmp (fun x y => y ≤ x) 56], 53) := rfl
theorem cb_X2_takeLowest_53 (G : jx_G) : cd_X2_takeLowest G 53 = ([ti_aload 5, ti_astore 3], 56) := rfl
theorem cb_X2_takeLowest_56 (G : jx_G) : cd_X2_takeLowest G 56 = ([ti_iinc 4 1, ti_goto 5], 59) := rfl
theorem cb_X2_takeLowest_62 (G : jx_G) : cd_X2_takeLowest G 62 = ([ti_aload 3, ti_ifnull 76, ti_aload 0, ti_aload 0, ti_aload 3, ti_callV G m_X2_placeOf 2 1 0 0 0 0, ti_const 1, ti_callV G m_X2_closeUp 2 2 0 0 0 0], 76) := rfl
theorem cb_X2_takeLowest_76 (G : jx_G) : cd_X2_takeLowest G 76 = ([ti_aload 3, ti_aret 0 0], 77) := rfl
theorem cb_X2_takeOff_0 (G : jx_G) : cd_X2_takeOff G 0 = ([ti_aload 0, ti_const 0, ti_iload 1, ti_callV G m_X2_closeUp 2 2 0 0 0 0, ti_vret 0 0], 6) := rfl
theorem cb_X3_init_0 (G : jx_G) : cd_X3_init G 0 = ([ti_aload 0, ti_oinit, ti_aload 0, ti_const 60, ti_newa 16 5 246, ti_putP 3 0 16, ti_aload 0, ti_const 60, ti_newa 17 5 246, ti_putP 3 1 17, ti_aload 0, ti_const 60, ti_newa 18 5 246, ti_putP 3 2 18, ti_aload 0, ti_const 61, ti_newa 19 5 246, ti_putP 3 3 19, ti_aload 0, ti_getst 49, ti_lenU, ti_newa 20 5 246, ti_putP 3 4 20, ti_aload 0, ti_const 0, ti_putI 3 5, ti_aload 0, ti_const 0, ti_putI 3 6, ti_aload 0, ti_const 0, ti_putI 3 7, ti_aload 0, ti_const 0, ti_putZ 3 8, ti_aload 0, ti_null 1, ti_putP 3 9 1, ti_vret 5 246], 72) := rfl
theorem cb_X3_begin_0 (G : jx_G) : cd_X3_begin G 0 = ([ti_aload 0, ti_iload 1, ti_putI 3 5, ti_aload 0, ti_const 0, ti_putI 3 6, ti_aload 0, ti_const 0, ti_putI 3 7, ti_aload 0, ti_iload 2, ti_putZ 3 8, ti_aload 0, ti_null 1, ti_putP 3 9 1, ti_vret 0 0], 25) := rfl
theorem cb_X3_isFull_0 (G : jx_G) : cd_X3_isFull G 0 = ([ti_aload 0, ti_getI 3 6, ti_aload 0, ti_getP 3 0 16, ti_alen 16, ti_icmp (fun x y => x < y) 16, ti_const 1, ti_goto 17], 13) := rfl
theorem cb_X3_isFull_16 (G : jx_G) : cd_X3_isFull G 16 = ([ti_const 0], 17) := rfl
theorem cb_X3_isFull_17 (G : jx_G) : cd_X3_isFull G 17 = ([ti_zret 0 0], 17) := rfl
theorem cb_X3_append_0 (G : jx_G) : cd_X3_append G 0 = ([ti_aload 0, ti_getI 3 6, ti_if (fun x => x < 0) 71, ti_aload 0, ti_getI 3 6, ti_aload 0, ti_getP 3 0 16, ti_alen 16, ti_icmp (fun x y => y ≤ x) 71, ti_aload 0, ti_getI 3 6, ti_aload 0, ti_getP 3 1 17, ti_alen 17, ti_icmp (fun x y => y ≤ x) 71, ti_aload 0, ti_getP 3 0 16, ti_aload 0, ti_getI 3 6, ti_aload 1, ti_astP 16 6, ti_aload 0, ti_getP 3 1 17, ti_aload 0, ti_getI 3 6, ti_iload 2, ti_ast 17, ti_aload 0, ti_dup, ti_getI 3 6, ti_const 1, ti_bin (fun x y => x + y), ti_putI 3 6, ti_aload 1, ti_const 1, ti_putI 6 5, ti_aload 1, ti_aload 0, ti_putP 6 7 3], 71) := rfl
theorem cb_X3_append_71 (G : jx_G) : cd_X3_append G 71 = ([ti_vret 0 0], 71) := rfl
theorem cb_X3_openGap_0 (G : jx_G) : cd_X3_openGap G 0 = ([ti_aload 0, ti_getI 3 7, ti_if (fun x => x ≤ 0) 41, ti_aload 0, ti_getI 3 7, ti_aload 0, ti_getP 3 2 18, ti_alen 18, ti_icmp (fun x y => y < x) 41, ti_aload 0, ti_getP 3 2 18, ti_aload 0, ti_getI 3 7, ti_const 1, ti_bin (fun x y => x - y), ti_ald 18, ti_aload 0, ti_getI 3 6, ti_icmp (fun x y => ¬ x = y) 41, ti_const 1, ti_goto 42], 38) := rfl
theorem cb_X3_openGap_41 (G : jx_G) : cd_X3_openGap G 41 = ([ti_const 0], 42) := rfl
theorem cb_X3_openGap_42 (G : jx_G) : cd_X3_openGap G 42 = ([ti_istore 1, ti_iload 1, ti_if (fun x => ¬ x = 0) 89, ti_aload 0, ti_getI 3 7, ti_if (fun x => x < 0) 89, ti_aload 0, ti_getI 3 7, ti_aload 0, ti_getP 3 2 18, ti_alen 18, ti_icmp (fun x y => y ≤ x) 89, ti_aload 0, ti_getP 3 2 18, ti_aload 0, ti_getI 3 7, ti_aload 0, ti_getI 3 6, ti_ast 18, ti_aload 0, ti_dup, ti_getI 3 7, ti_const 1, ti_bin (fun x y => x + y), ti_putI 3 7], 89) := rfl
theorem cb_X3_openGap_89 (G : jx_G) : cd_X3_openGap G 89 = ([ti_vret 0 0], 89) := rfl
theorem cb_X3_isBehindGap_0 (G : jx_G) : cd_X3_isBehindGap G 0 = ([ti_iload 2, ti_if (fun x => x < 0) 35, ti_iload 2, ti_aload 0, ti_getI 3 7, ti_icmp (fun x y => y ≤ x) 35, ti_iload 2, ti_aload 0, ti_getP 3 2 18, ti_alen 18, ti_icmp (fun x y => y ≤ x) 35, ti_aload 0, ti_getP 3 2 18, ti_iload 2, ti_ald 18, ti_iload 1, ti_icmp (fun x y => ¬ x = y) 35, ti_const 1, ti_goto 36], 32) := rfl
theorem cb_X3_isBehindGap_35 (G : jx_G) : cd_X3_isBehindGap G 35 = ([ti_const 0], 36) := rfl
theorem cb_X3_isBehindGap_36 (G : jx_G) : cd_X3_isBehindGap G 36 = ([ti_zret 0 0], 36) := rfl
theorem cb_X3_sortOn_0 (G : jx_G) : cd_X3_sortOn G 0 = ([ti_iload 1, ti_if (fun x => x < 0) 30, ti_iload 1, ti_aload 0, ti_getI 3 6, ti_icmp (fun x y => y ≤ x) 30, ti_iload 1, ti_aload 0, ti_getP 3 0 16, ti_alen 16, ti_icmp (fun x y => y ≤ x) 30, ti_aload 0, ti_getP 3 0 16, ti_iload 1, ti_aldP 16 6, ti_goto 31], 27) := rfl
theorem cb_X3_sortOn_30 (G : jx_G) : cd_X3_sortOn G 30 = ([ti_null 6], 31) := rfl
theorem cb_X3_sortOn_31 (G : jx_G) : cd_X3_sortOn G 31 = ([ti_aret 0 0], 31) := rfl
theorem cb_X3_askedOn_0 (G : jx_G) : cd_X3_askedOn G 0 = ([ti_iload 1, ti_if (fun x => x < 0) 30, ti_iload 1, ti_aload 0, ti_getI 3 6, ti_icmp (fun x y => y ≤ x) 30, ti_iload 1, ti_aload 0, ti_getP 3 1 17, ti_alen 17, ti_icmp (fun x y => y ≤ x) 30, ti_aload 0, ti_getP 3 1 17, ti_iload 1, ti_ald 17, ti_goto 31], 27) := rfl
theorem cb_X3_askedOn_30 (G : jx_G) : cd_X3_askedOn G 30 = ([ti_const (-1)], 31) := rfl
theorem cb_X3_askedOn_31 (G : jx_G) : cd_X3_askedOn G 31 = ([ti_iret 0 0], 31) := rfl
theorem cb_X3_replace_0 (G : jx_G) : cd_X3_replace G 0 = ([ti_iload 1, ti_if (fun x => x < 0) 38, ti_iload 1, ti_aload 0, ti_getI 3 6, ti_icmp (fun x y => y ≤ x) 38, ti_iload 1, ti_aload 0, ti_getP 3 0 16, ti_alen 16, ti_icmp (fun x y => y ≤ x) 38, ti_aload 0, ti_getP 3 0 16, ti_iload 1, ti_aload 2, ti_astP 16 6, ti_aload 2, ti_const 1, ti_putI 6 5, ti_aload 2, ti_aload 0, ti_putP 6 7 3], 38) := rfl
theorem cb_X3_replace_38 (G : jx_G) : cd_X3_replace G 38 = ([ti_vret 0 0], 38) := rfl
theorem cb_X3_isWrong_0 (G : jx_G) : cd_X3_isWrong G 0 = ([ti_aload 0, ti_iload 1, ti_callV G m_X3_sortOn 3 1 0 0 0 0, ti_astore 2, ti_aload 2, ti_ifnull 37, ti_aload 2, ti_getI 6 4, ti_if (fun x => ¬ x = 0) 33, ti_aload 2, ti_aload 0, ti_getI 3 5, ti_aload 0, ti_iload 1, ti_callV G m_X3_askedOn 3 1 0 0 0 0, ti_callV G m_X6_hasFace 6 2 0 0 0 0, ti_if (fun x => ¬ x = 0) 37], 33) := rfl
theorem cb_X3_isWrong_33 (G : jx_G) : cd_X3_isWrong G 33 = ([ti_const 1, ti_goto 38], 34) := rfl
theorem cb_X3_isWrong_37 (G : jx_G) : cd_X3_isWrong G 37 = ([ti_const 0], 38) := rfl
theorem cb_X3_isWrong_38 (G : jx_G) : cd_X3_isWrong G 38 = ([ti_zret 0 0], 38) := rfl
theorem cb_X3_firstWrong_0 (G : jx_G) : cd_X3_firstWrong G 0 = ([ti_const 0, ti_istore 1], 2) := rfl
theorem cb_X3_firstWrong_2 (G : jx_G) : cd_X3_firstWrong G 2 = ([ti_iload 1, ti_aload 0, ti_getI 3 6, ti_icmp (fun x y => y ≤ x) 26, ti_aload 0, ti_iload 1, ti_callV G m_X3_isWrong 3 1 0 0 0 0, ti_if (fun x => x = 0) 20, ti_iload 1, ti_iret 0 0], 19) := rfl
theorem cb_X3_firstWrong_20 (G : jx_G) : cd_X3_firstWrong G 20 = ([ti_iinc 1 1, ti_goto 2], 23) := rfl
theorem cb_X3_firstWrong_26 (G : jx_G) : cd_X3_firstWrong G 26 = ([ti_const (-1), ti_iret 0 0], 27) := rfl
theorem cb_X3_wrongPlaces_0 (G : jx_G) : cd_X3_wrongPlaces G 0 = ([ti_const 0, ti_istore 1, ti_const 0, ti_istore 2], 4) := rfl
theorem cb_X3_wrongPlaces_4 (G : jx_G) : cd_X3_wrongPlaces G 4 = ([ti_iload 2, ti_aload 0, ti_getI 3 6, ti_icmp (fun x y => y ≤ x) 29, ti_aload 0, ti_iload 2, ti_callV G m_X3_isWrong 3 1 0 0 0 0, ti_if (fun x => x = 0) 23, ti_iinc 1 1], 23) := rfl
theorem cb_X3_wrongPlaces_23 (G : jx_G) : cd_X3_wrongPlaces G 23 = ([ti_iinc 2 1, ti_goto 4], 26) := rfl
theorem cb_X3_wrongPlaces_29 (G : jx_G) : cd_X3_wrongPlaces G 29 = ([ti_iload 1, ti_iret 0 0], 30) := rfl
theorem cb_X3_countOf_0 (G : jx_G) : cd_X3_countOf G 0 = ([ti_const 0, ti_istore 3, ti_const 0, ti_istore 4], 5) := rfl
theorem cb_X3_countOf_5 (G : jx_G) : cd_X3_countOf G 5 = ([ti_iload 4, ti_aload 0, ti_getI 3 6, ti_icmp (fun x y => y ≤ x) 46, ti_aload 0, ti_iload 4, ti_callV G m_X3_sortOn 3 1 0 0 0 0, ti_astore 5, ti_aload 5, ti_ifnull 40, ti_aload 5, ti_iload 1, ti_iload 2, ti_callV G m_X6_hasFace 6 2 0 0 0 0, ti_if (fun x => x = 0) 40, ti_iinc 3 1], 40) := rfl
theorem cb_X3_countOf_40 (G : jx_G) : cd_X3_countOf G 40 = ([ti_iinc 4 1, ti_goto 5], 43) := rfl
theorem cb_X3_countOf_46 (G : jx_G) : cd_X3_countOf G 46 = ([ti_iload 3, ti_iret 0 0], 47) := rfl
theorem cb_X9_widthOf_0 (G : jx_G) : cd_X9_widthOf G 0 = ([ti_iload 1, ti_if (fun x => x < 0) 22, ti_iload 1, ti_getst 48, ti_lenW, ti_icmp (fun x y => y ≤ x) 22, ti_getst 48, ti_iload 1, ti_ldW, ti_iload 0, ti_bin (fun x y => x + y), ti_goto 23], 19) := rfl
theorem cb_X9_widthOf_22 (G : jx_G) : cd_X9_widthOf G 22 = ([ti_const 0], 23) := rfl
theorem cb_X9_widthOf_23 (G : jx_G) : cd_X9_widthOf G 23 = ([ti_iret 0 0], 23) := rfl
theorem cb_X3_widthOfSorts_0 (G : jx_G) : cd_X3_widthOfSorts G 0 = ([ti_const 0, ti_istore 1, ti_const 0, ti_istore 2], 4) := rfl
theorem cb_X3_widthOfSorts_4 (G : jx_G) : cd_X3_widthOfSorts G 4 = ([ti_iload 2, ti_aload 0, ti_getI 3 6, ti_icmp (fun x y => y ≤ x) 46, ti_aload 0, ti_iload 2, ti_callV G m_X3_sortOn 3 1 0 0 0 0, ti_astore 3, ti_iload 1, ti_aload 3, ti_ifnonnull 27, ti_const 0, ti_goto 38], 24) := rfl
theorem cb_X3_widthOfSorts_27 (G : jx_G) : cd_X3_widthOfSorts G 27 = ([ti_aload 3, ti_getI 6 1, ti_aload 3, ti_getI 6 2, ti_call G m_X9_widthOf 2 0 0 0 0], 38) := rfl
theorem cb_X3_widthOfSorts_38 (G : jx_G) : cd_X3_widthOfSorts G 38 = ([ti_bin (fun x y => x + y), ti_istore 1, ti_iinc 2 1, ti_goto 4], 43) := rfl
theorem cb_X3_widthOfSorts_46 (G : jx_G) : cd_X3_widthOfSorts G 46 = ([ti_iload 1, ti_iret 0 0], 47) := rfl
theorem cb_X9_unitsOf_0 (G : jx_G) : cd_X9_unitsOf G 0 = ([ti_iload 0, ti_if (fun x => x < 0) 20, ti_iload 0, ti_getst 49, ti_lenU, ti_icmp (fun x y => y ≤ x) 20, ti_getst 49, ti_iload 0, ti_ldU, ti_goto 21], 17) := rfl
theorem cb_X9_unitsOf_20 (G : jx_G) : cd_X9_unitsOf G 20 = ([ti_const 0], 21) := rfl
theorem cb_X9_unitsOf_21 (G : jx_G) : cd_X9_unitsOf G 21 = ([ti_iret 0 0], 21) := rfl
theorem cb_X3_spacesOf_0 (G : jx_G) : cd_X3_spacesOf G 0 = ([ti_iload 1, ti_if (fun x => x < 0) 22, ti_iload 1, ti_aload 0, ti_getP 3 4 20, ti_alen 20, ti_icmp (fun x y => y ≤ x) 22, ti_aload 0, ti_getP 3 4 20, ti_iload 1, ti_ald 20, ti_goto 23], 19) := rfl
theorem cb_X3_spacesOf_22 (G : jx_G) : cd_X3_spacesOf G 22 = ([ti_const 0], 23) := rfl
theorem cb_X3_spacesOf_23 (G : jx_G) : cd_X3_spacesOf G 23 = ([ti_iret 0 0], 23) := rfl
theorem cb_X3_widthOfSpaces_0 (G : jx_G) : cd_X3_widthOfSpaces G 0 = ([ti_const 0, ti_istore 1, ti_const 0, ti_istore 2], 4) := rfl
theorem cb_X3_widthOfSpaces_4 (G : jx_G) : cd_X3_widthOfSpaces G 4 = ([ti_iload 2, ti_getst 49, ti_lenU, ti_icmp (fun x y => y ≤ x) 31, ti_iload 1, ti_iload 2, ti_call G m_X9_unitsOf 1 0 0 0 0, ti_aload 0, ti_iload 2, ti_callV G m_X3_spacesOf 3 1 0 0 0 0, ti_bin (fun x y => x * y), ti_bin (fun x y => x + y), ti_istore 1, ti_iinc 2 1, ti_goto 4], 28) := rfl
theorem cb_X3_widthOfSpaces_31 (G : jx_G) : cd_X3_widthOfSpaces G 31 = ([ti_iload 1, ti_iret 0 0], 32) := rfl
theorem cb_X3_unitsIn_0 (G : jx_G) : cd_X3_unitsIn G 0 = ([ti_iload 1, ti_if (fun x => x < 0) 22, ti_iload 1, ti_aload 0, ti_getP 3 3 19, ti_alen 19, ti_icmp (fun x y => y ≤ x) 22, ti_aload 0, ti_getP 3 3 19, ti_iload 1, ti_ald 19, ti_goto 23], 19) := rfl
theorem cb_X3_unitsIn_22 (G : jx_G) : cd_X3_unitsIn G 22 = ([ti_const 0], 23) := rfl
theorem cb_X3_unitsIn_23 (G : jx_G) : cd_X3_unitsIn G 23 = ([ti_iret 0 0], 23) := rfl
theorem cb_X3_unitsBehind_0 (G : jx_G) : cd_X3_unitsBehind G 0 = ([ti_aload 0, ti_aload 0, ti_getI 3 7, ti_callV G m_X3_unitsIn 3 1 0 0 0 0, ti_iret 0 0], 8) := rfl
theorem cb_X3_addSpace_0 (G : jx_G) : cd_X3_addSpace G 0 = ([ti_iload 1, ti_if (fun x => x < 0) 49, ti_iload 1, ti_aload 0, ti_getP 3 3 19, ti_alen 19, ti_icmp (fun x y => y ≤ x) 49, ti_iload 2, ti_if (fun x => x < 0) 49, ti_iload 2, ti_aload 0, ti_getP 3 4 20, ti_alen 20, ti_icmp (fun x y => y ≤ x) 49, ti_aload 0, ti_getP 3 3 19, ti_iload 1, ti_dup2, ti_ald 19, ti_iload 2, ti_call G m_X9_unitsOf 1 0 0 0 0, ti_bin (fun x y => x + y), ti_ast 19, ti_aload 0, ti_getP 3 4 20, ti_iload 2, ti_dup2, ti_ald 20, ti_const 1, ti_bin (fun x y => x + y), ti_ast 20], 49) := rfl
theorem cb_X3_addSpace_49 (G : jx_G) : cd_X3_addSpace G 49 = ([ti_vret 0 0], 49) := rfl
theorem cb_X3_dropSpaces_0 (G : jx_G) : cd_X3_dropSpaces G 0 = ([ti_const 0, ti_istore 1], 2) := rfl
theorem cb_X3_dropSpaces_2 (G : jx_G) : cd_X3_dropSpaces G 2 = ([ti_iload 1, ti_aload 0, ti_getP 3 3 19, ti_alen 19, ti_icmp (fun x y => y ≤ x) 24, ti_aload 0, ti_getP 3 3 19, ti_iload 1, ti_const 0, ti_ast 19, ti_iinc 1 1, ti_goto 2], 21) := rfl
theorem cb_X3_dropSpaces_24 (G : jx_G) : cd_X3_dropSpaces G 24 = ([ti_const 0, ti_istore 1], 26) := rfl
theorem cb_X3_dropSpaces_26 (G : jx_G) : cd_X3_dropSpaces G 26 = ([ti_iload 1, ti_aload 0, ti_getP 3 4 20, ti_alen 20, ti_icmp (fun x y => y ≤ x) 48, ti_aload 0, ti_getP 3 4 20, ti_iload 1, ti_const 0, ti_ast 20, ti_iinc 1 1, ti_goto 26], 45) := rfl
theorem cb_X3_dropSpaces_48 (G : jx_G) : cd_X3_dropSpaces G 48 = ([ti_vret 0 0], 48) := rfl
theorem cb_X4_init_0 (G : jx_G) : cd_X4_init G 0 = ([ti_aload 0, ti_oinit, ti_aload 0, ti_null 6, ti_putP 4 1 6, ti_aload 0, ti_const 0, ti_putI 4 2, ti_aload 0, ti_const 0, ti_putI 4 3, ti_aload 0, ti_iload 1, ti_putI 4 0, ti_vret 0 0], 24) := rfl
theorem cb_X4_put_0 (G : jx_G) : cd_X4_put G 0 = ([ti_aload 1, ti_const 0, ti_putI 6 5, ti_aload 1, ti_aload 0, ti_putP 6 6 4, ti_aload 1, ti_aload 0, ti_getP 4 1 6, ti_putP 6 8 6, ti_aload 0, ti_aload 1, ti_putP 4 1 6, ti_aload 0, ti_dup, ti_getI 4 2, ti_const 1, ti_bin (fun x y => x + y), ti_putI 4 2, ti_vret 0 0], 33) := rfl
theorem cb_X4_take_0 (G : jx_G) : cd_X4_take G 0 = ([ti_aload 0, ti_getP 4 1 6, ti_astore 1, ti_aload 1, ti_ifnonnull 11, ti_null 6, ti_aret 0 0], 10) := rfl
theorem cb_X4_take_11 (G : jx_G) : cd_X4_take G 11 = ([ti_aload 0, ti_aload 1, ti_getP 6 8 6, ti_putP 4 1 6, ti_aload 1, ti_null 6, ti_putP 6 8 6, ti_aload 0, ti_dup, ti_getI 4 2, ti_const 1, ti_bin (fun x y => x - y), ti_putI 4 2, ti_aload 1, ti_aret 0 0], 35) := rfl
theorem cb_X4_countOf_0 (G : jx_G) : cd_X4_countOf G 0 = ([ti_const 0, ti_istore 3, ti_aload 0, ti_getP 4 1 6, ti_astore 4], 8) := rfl
theorem cb_X4_countOf_8 (G : jx_G) : cd_X4_countOf G 8 = ([ti_aload 4, ti_ifnull 36, ti_aload 4, ti_iload 1, ti_iload 2, ti_callV G m_X6_hasFace 6 2 0 0 0 0, ti_if (fun x => x = 0) 26, ti_iinc 3 1], 26) := rfl
theorem cb_X4_countOf_26 (G : jx_G) : cd_X4_countOf G 26 = ([ti_aload 4, ti_getP 6 8 6, ti_astore 4, ti_goto 8], 33) := rfl
theorem cb_X4_countOf_36 (G : jx_G) : cd_X4_countOf G 36 = ([ti_iload 3, ti_iret 0 0], 37) := rfl
theorem cb_X5_init_0 (G : jx_G) : cd_X5_init G 0 = ([ti_aload 0, ti_oinit, ti_aload 0, ti_const 720, ti_newa 23 1 720, ti_putP 5 0 23, ti_aload 0, ti_const 0, ti_putI 5 1, ti_vret 1 720], 18) := rfl
theorem cb_X5_append_0 (G : jx_G) : cd_X5_append G 0 = ([ti_aload 0, ti_getI 5 1, ti_if (fun x => x < 0) 39, ti_aload 0, ti_getI 5 1, ti_aload 0, ti_getP 5 0 23, ti_alen 23, ti_icmp (fun x y => y ≤ x) 39, ti_aload 0, ti_getP 5 0 23, ti_aload 0, ti_getI 5 1, ti_iload 1, ti_astC 23, ti_aload 0, ti_dup, ti_getI 5 1, ti_const 1, ti_bin (fun x y => x + y), ti_putI 5 1], 39) := rfl
theorem cb_X5_append_39 (G : jx_G) : cd_X5_append G 39 = ([ti_vret 0 0], 39) := rfl
theorem cb_X5_has_0 (G : jx_G) : cd_X5_has G 0 = ([ti_iload 1, ti_if (fun x => x < 0) 25, ti_iload 1, ti_aload 0, ti_getI 5 1, ti_icmp (fun x y => y ≤ x) 25, ti_iload 1, ti_aload 0, ti_getP 5 0 23, ti_alen 23, ti_icmp (fun x y => y ≤ x) 25, ti_const 1, ti_goto 26], 22) := rfl
theorem cb_X5_has_25 (G : jx_G) : cd_X5_has G 25 = ([ti_const 0], 26) := rfl
theorem cb_X5_has_26 (G : jx_G) : cd_X5_has G 26 = ([ti_zret 0 0], 26) := rfl
theorem cb_X5_signOn_0 (G : jx_G) : cd_X5_signOn G 0 = ([ti_aload 0, ti_iload 1, ti_callV G m_X5_has 5 1 0 0 0 0, ti_if (fun x => x = 0) 17, ti_aload 0, ti_getP 5 0 23, ti_iload 1, ti_ald 23, ti_goto 19], 14) := rfl
theorem cb_X5_signOn_17 (G : jx_G) : cd_X5_signOn G 17 = ([ti_const 32], 19) := rfl
theorem cb_X5_signOn_19 (G : jx_G) : cd_X5_signOn G 19 = ([ti_cret 0 0], 19) := rfl
theorem cb_X6_init_0 (G : jx_G) : cd_X6_init G 0 = ([ti_aload 0, ti_oinit, ti_aload 0, ti_const 0, ti_putI 6 3, ti_aload 0, ti_const 0, ti_putZ 6 4, ti_aload 0, ti_const 0, ti_putI 6 5, ti_aload 0, ti_null 4, ti_putP 6 6 4, ti_aload 0, ti_null 3, ti_putP 6 7 3, ti_aload 0, ti_null 6, ti_putP 6 8 6, ti_aload 0, ti_iload 1, ti_putI 6 0, ti_aload 0, ti_iload 2, ti_putI 6 1, ti_aload 0, ti_iload 3, ti_putI 6 2, ti_vret 0 0], 49) := rfl
theorem cb_X9_signFor_0 (G : jx_G) : cd_X9_signFor G 0 = ([ti_iload 0, ti_tsw 26 [28, 31, 34] 37], 1) := rfl
theorem cb_X9_signFor_28 (G : jx_G) : cd_X9_signFor G 28 = ([ti_const 46, ti_cret 0 0], 30) := rfl
theorem cb_X9_signFor_31 (G : jx_G) : cd_X9_signFor G 31 = ([ti_const 44, ti_cret 0 0], 33) := rfl
theorem cb_X9_signFor_34 (G : jx_G) : cd_X9_signFor G 34 = ([ti_const 45, ti_cret 0 0], 36) := rfl
theorem cb_X9_signFor_37 (G : jx_G) : cd_X9_signFor G 37 = ([ti_const 97, ti_iload 0, ti_bin (fun x y => x + y), ti_i2c, ti_cret 0 0], 42) := rfl
theorem cb_X6_print_0 (G : jx_G) : cd_X6_print G 0 = ([ti_aload 0, ti_getI 6 3, ti_const 12, ti_icmp (fun x y => x < y) 12, ti_const 63, ti_cret 0 0], 11) := rfl
theorem cb_X6_print_12 (G : jx_G) : cd_X6_print G 12 = ([ti_aload 0, ti_getI 6 4, ti_if (fun x => x = 0) 24, ti_const 61, ti_goto 31], 21) := rfl
theorem cb_X6_print_24 (G : jx_G) : cd_X6_print G 24 = ([ti_aload 0, ti_getI 6 2, ti_call G m_X9_signFor 1 0 0 0 0], 31) := rfl
theorem cb_X6_print_31 (G : jx_G) : cd_X6_print G 31 = ([ti_cret 0 0], 31) := rfl
theorem cb_X7_init_0 (G : jx_G) : cd_X7_init G 0 = ([ti_aload 0, ti_oinit, ti_aload 0, ti_getst 49, ti_lenU, ti_newa 24 1 5, ti_putP 7 0 24, ti_vret 1 5], 14) := rfl
theorem cb_X7_countOf_0 (G : jx_G) : cd_X7_countOf G 0 = ([ti_iload 1, ti_if (fun x => x < 0) 22, ti_iload 1, ti_aload 0, ti_getP 7 0 24, ti_alen 24, ti_icmp (fun x y => y ≤ x) 22, ti_aload 0, ti_getP 7 0 24, ti_iload 1, ti_ald 24, ti_goto 23], 19) := rfl
theorem cb_X7_countOf_22 (G : jx_G) : cd_X7_countOf G 22 = ([ti_const 0], 23) := rfl
theorem cb_X7_countOf_23 (G : jx_G) : cd_X7_countOf G 23 = ([ti_iret 0 0], 23) := rfl
theorem cb_X7_add_0 (G : jx_G) : cd_X7_add G 0 = ([ti_iload 1, ti_if (fun x => x < 0) 23, ti_iload 1, ti_aload 0, ti_getP 7 0 24, ti_alen 24, ti_icmp (fun x y => y ≤ x) 23, ti_aload 0, ti_getP 7 0 24, ti_iload 1, ti_dup2, ti_ald 24, ti_iload 2, ti_bin (fun x y => x + y), ti_ast 24], 23) := rfl
theorem cb_X7_add_23 (G : jx_G) : cd_X7_add G 23 = ([ti_vret 0 0], 23) := rfl
theorem cb_X7_fillGap_0 (G : jx_G) : cd_X7_fillGap G 0 = ([ti_iload 3, ti_istore 4, ti_const 0, ti_istore 5], 6) := rfl
theorem cb_X7_fillGap_6 (G : jx_G) : cd_X7_fillGap G 6 = ([ti_iload 5, ti_getst 49, ti_lenU, ti_icmp (fun x y => y ≤ x) 69, ti_getst 49, ti_iload 5, ti_ldU, ti_istore 6], 23) := rfl
theorem cb_X7_fillGap_23 (G : jx_G) : cd_X7_fillGap G 23 = ([ti_aload 0, ti_iload 5, ti_callV G m_X7_countOf 7 1 0 0 0 0, ti_if (fun x => x ≤ 0) 63, ti_iload 4, ti_iload 6, ti_icmp (fun x y => x < y) 63, ti_aload 0, ti_iload 5, ti_const (-1), ti_callV G m_X7_add 7 2 0 0 0 0, ti_aload 1, ti_iload 2, ti_iload 5, ti_callV G m_X3_addSpace 3 2 0 0 0 0, ti_iload 4, ti_iload 6, ti_bin (fun x y => x - y), ti_istore 4, ti_goto 23], 60) := rfl
theorem cb_X7_fillGap_63 (G : jx_G) : cd_X7_fillGap G 63 = ([ti_iinc 5 1, ti_goto 6], 66) := rfl
theorem cb_X7_fillGap_69 (G : jx_G) : cd_X7_fillGap G 69 = ([ti_vret 0 0], 69) := rfl
theorem cb_X7_takeBackFrom_0 (G : jx_G) : cd_X7_takeBackFrom G 0 = ([ti_const 0, ti_istore 2], 2) := rfl
theorem cb_X7_takeBackFrom_2 (G : jx_G) : cd_X7_takeBackFrom G 2 = ([ti_iload 2, ti_aload 0, ti_getP 7 0 24, ti_alen 24, ti_icmp (fun x y => y ≤ x) 27, ti_aload 0, ti_iload 2, ti_aload 1, ti_iload 2, ti_callV G m_X3_spacesOf 3 1 0 0 0 0, ti_callV G m_X7_add 7 2 0 0 0 0, ti_iinc 2 1, ti_goto 2], 24) := rfl
theorem cb_X7_takeBackFrom_27 (G : jx_G) : cd_X7_takeBackFrom G 27 = ([ti_aload 1, ti_callV G m_X3_dropSpaces 3 0 0 0 0 0, ti_vret 0 0], 31) := rfl
theorem cb_X8_init_0 (G : jx_G) : cd_X8_init G 0 = ([ti_aload 0, ti_oinit, ti_aload 0, ti_const 60, ti_newa 21 1 60, ti_putP 8 0 21, ti_aload 0, ti_const 0, ti_putI 8 1, ti_vret 1 60], 17) := rfl
theorem cb_X8_isFull_0 (G : jx_G) : cd_X8_isFull G 0 = ([ti_aload 0, ti_getI 8 1, ti_aload 0, ti_getP 8 0 21, ti_alen 21, ti_icmp (fun x y => x < y) 16, ti_const 1, ti_goto 17], 13) := rfl
theorem cb_X8_isFull_16 (G : jx_G) : cd_X8_isFull G 16 = ([ti_const 0], 17) := rfl
theorem cb_X8_isFull_17 (G : jx_G) : cd_X8_isFull G 17 = ([ti_zret 0 0], 17) := rfl
theorem cb_X8_append_0 (G : jx_G) : cd_X8_append G 0 = ([ti_aload 0, ti_getI 8 1, ti_if (fun x => x < 0) 39, ti_aload 0, ti_getI 8 1, ti_aload 0, ti_getP 8 0 21, ti_alen 21, ti_icmp (fun x y => y ≤ x) 39, ti_aload 0, ti_getP 8 0 21, ti_aload 0, ti_getI 8 1, ti_iload 1, ti_astC 21, ti_aload 0, ti_dup, ti_getI 8 1, ti_const 1, ti_bin (fun x y => x + y), ti_putI 8 1], 39) := rfl
theorem cb_X8_append_39 (G : jx_G) : cd_X8_append G 39 = ([ti_vret 0 0], 39) := rfl
theorem cb_JM_max_0 (G : jx_G) : cd_JM_max G 0 = ([ti_iload 0, ti_iload 1, ti_icmp (fun x y => x < y) 9, ti_iload 0, ti_goto 10], 6) := rfl
theorem cb_JM_max_9 (G : jx_G) : cd_JM_max G 9 = ([ti_iload 1], 10) := rfl
theorem cb_JM_max_10 (G : jx_G) : cd_JM_max G 10 = ([ti_iret 0 0], 10) := rfl
theorem cb_X8_takeOff_0 (G : jx_G) : cd_X8_takeOff G 0 = ([ti_iload 1, ti_istore 2], 2) := rfl
theorem cb_X8_takeOff_2 (G : jx_G) : cd_X8_takeOff G 2 = ([ti_iload 2, ti_if (fun x => x < 0) 43, ti_iload 2, ti_aload 0, ti_getI 8 1, ti_icmp (fun x y => y ≤ x) 43, ti_iload 2, ti_aload 0, ti_getP 8 0 21, ti_alen 21, ti_icmp (fun x y => y ≤ x) 43, ti_aload 0, ti_getP 8 0 21, ti_iload 2, ti_iload 1, ti_bin (fun x y => x - y), ti_aload 0, ti_getP 8 0 21, ti_iload 2, ti_ald 21, ti_astC 21, ti_iinc 2 1, ti_goto 2], 40) := rfl
theorem cb_X8_takeOff_43 (G : jx_G) : cd_X8_takeOff G 43 = ([ti_aload 0, ti_const 0, ti_aload 0, ti_getI 8 1, ti_iload 1, ti_bin (fun x y => x - y), ti_call G m_JM_max 2 0 0 0 0, ti_putI 8 1, ti_vret 0 0], 57) := rfl
theorem cb_X9_boxFor_0 (G : jx_G) : cd_X9_boxFor G 0 = ([ti_iload 0, ti_const 97, ti_icmp (fun x y => x < y) 17, ti_iload 0, ti_const 122, ti_icmp (fun x y => y < x) 17, ti_iload 0, ti_const 97, ti_bin (fun x y => x - y), ti_iret 0 0], 16) := rfl
theorem cb_X9_boxFor_17 (G : jx_G) : cd_X9_boxFor G 17 = ([ti_iload 0, ti_tsw 44 [47, 50, 44] 53], 18) := rfl
theorem cb_X9_boxFor_44 (G : jx_G) : cd_X9_boxFor G 44 = ([ti_const 26, ti_iret 0 0], 46) := rfl
theorem cb_X9_boxFor_47 (G : jx_G) : cd_X9_boxFor G 47 = ([ti_const 27, ti_iret 0 0], 49) := rfl
theorem cb_X9_boxFor_50 (G : jx_G) : cd_X9_boxFor G 50 = ([ti_const 28, ti_iret 0 0], 52) := rfl
theorem cb_X9_boxFor_53 (G : jx_G) : cd_X9_boxFor G 53 = ([ti_const (-1), ti_iret 0 0], 54) := rfl
theorem cb_X8_boxOn_0 (G : jx_G) : cd_X8_boxOn G 0 = ([ti_iload 1, ti_if (fun x => x < 0) 33, ti_iload 1, ti_aload 0, ti_getI 8 1, ti_icmp (fun x y => y ≤ x) 33, ti_iload 1, ti_aload 0, ti_getP 8 0 21, ti_alen 21, ti_icmp (fun x y => y ≤ x) 33, ti_aload 0, ti_getP 8 0 21, ti_iload 1, ti_ald 21, ti_call G m_X9_boxFor 1 0 0 0 0, ti_goto 34], 30) := rfl
theorem cb_X8_boxOn_33 (G : jx_G) : cd_X8_boxOn G 33 = ([ti_const (-1)], 34) := rfl
theorem cb_X8_boxOn_34 (G : jx_G) : cd_X8_boxOn G 34 = ([ti_iret 0 0], 34) := rfl
theorem cb_X8_wordFrom_0 (G : jx_G) : cd_X8_wordFrom G 0 = ([ti_iload 1, ti_istore 2], 2) := rfl
theorem cb_X8_wordFrom_2 (G : jx_G) : cd_X8_wordFrom G 2 = ([ti_iload 2, ti_aload 0, ti_getI 8 1, ti_icmp (fun x y => y ≤ x) 25, ti_aload 0, ti_iload 2, ti_callV G m_X8_boxOn 8 1 0 0 0 0, ti_const (-1), ti_icmp (fun x y => ¬ x = y) 25, ti_iinc 2 1, ti_goto 2], 22) := rfl
theorem cb_X8_wordFrom_25 (G : jx_G) : cd_X8_wordFrom G 25 = ([ti_iload 2, ti_iret 0 0], 26) := rfl
theorem cb_X8_wordEnd_0 (G : jx_G) : cd_X8_wordEnd G 0 = ([ti_iload 1, ti_istore 2], 2) := rfl
theorem cb_X8_wordEnd_2 (G : jx_G) : cd_X8_wordEnd G 2 = ([ti_iload 2, ti_aload 0, ti_getI 8 1, ti_icmp (fun x y => y ≤ x) 25, ti_aload 0, ti_iload 2, ti_callV G m_X8_boxOn 8 1 0 0 0 0, ti_const (-1), ti_icmp (fun x y => x = y) 25, ti_iinc 2 1, ti_goto 2], 22) := rfl
theorem cb_X8_wordEnd_25 (G : jx_G) : cd_X8_wordEnd G 25 = ([ti_iload 2, ti_iret 0 0], 26) := rfl
theorem cb_X8_widthOfWord_0 (G : jx_G) : cd_X8_widthOfWord G 0 = ([ti_const 0, ti_istore 4, ti_iload 1, ti_istore 5], 6) := rfl
theorem cb_X8_widthOfWord_6 (G : jx_G) : cd_X8_widthOfWord G 6 = ([ti_iload 5, ti_iload 2, ti_icmp (fun x y => y ≤ x) 33, ti_iload 4, ti_iload 3, ti_aload 0, ti_iload 5, ti_callV G m_X8_boxOn 8 1 0 0 0 0, ti_call G m_X9_widthOf 2 0 0 0 0, ti_bin (fun x y => x + y), ti_istore 4, ti_iinc 5 1, ti_goto 6], 30) := rfl
theorem cb_X8_widthOfWord_33 (G : jx_G) : cd_X8_widthOfWord G 33 = ([ti_iload 4, ti_iret 0 0], 35) := rfl
theorem cb_X8_partOfWord_0 (G : jx_G) : cd_X8_partOfWord G 0 = ([ti_iload 1, ti_const 1, ti_bin (fun x y => x + y), ti_istore 5, ti_iload 3, ti_const 28, ti_call G m_X9_widthOf 2 0 0 0 0, ti_iload 3, ti_aload 0, ti_iload 1, ti_callV G m_X8_boxOn 8 1 0 0 0 0, ti_call G m_X9_widthOf 2 0 0 0 0, ti_bin (fun x y => x + y), ti_istore 6], 23) := rfl
theorem cb_X8_partOfWord_23 (G : jx_G) : cd_X8_partOfWord G 23 = ([ti_iload 5, ti_iload 2, ti_const 1, ti_bin (fun x y => x - y), ti_icmp (fun x y => y ≤ x) 62, ti_iload 6, ti_iload 3, ti_aload 0, ti_iload 5, ti_callV G m_X8_boxOn 8 1 0 0 0 0, ti_call G m_X9_widthOf 2 0 0 0 0, ti_bin (fun x y => x + y), ti_istore 6, ti_iload 6, ti_iload 4, ti_icmp (fun x y => x ≤ y) 56, ti_goto 62], 53) := rfl
theorem cb_X8_partOfWord_56 (G : jx_G) : cd_X8_partOfWord G 56 = ([ti_iinc 5 1, ti_goto 23], 59) := rfl
theorem cb_X8_partOfWord_62 (G : jx_G) : cd_X8_partOfWord G 62 = ([ti_iload 5, ti_iret 0 0], 64) := rfl
theorem cb_X8_cutAt_0 (G : jx_G) : cd_X8_cutAt G 0 = ([ti_aload 0, ti_iload 1, ti_callV G m_X8_wordFrom 8 1 0 0 0 0, ti_istore 5, ti_aload 0, ti_iload 5, ti_callV G m_X8_wordEnd 8 1 0 0 0 0, ti_istore 6, ti_aload 0, ti_iload 5, ti_iload 6, ti_iload 2, ti_callV G m_X8_widthOfWord 8 3 0 0 0 0, ti_istore 7, ti_iload 7, ti_iload 3, ti_icmp (fun x y => x ≤ y) 52, ti_aload 4, ti_iload 5, ti_aload 0, ti_iload 5, ti_iload 6, ti_iload 2, ti_iload 3, ti_callV G m_X8_partOfWord 8 4 0 0 0 0, ti_const 1, ti_const 0, ti_callV G m_X0_note 0 4 0 0 0 0, ti_vret 0 0], 51) := rfl
theorem cb_X8_cutAt_52 (G : jx_G) : cd_X8_cutAt G 52 = ([ti_aload 0, ti_iload 6, ti_callV G m_X8_wordFrom 8 1 0 0 0 0, ti_istore 8, ti_const 1, ti_istore 9], 63) := rfl
theorem cb_X8_cutAt_63 (G : jx_G) : cd_X8_cutAt G 63 = ([ti_iload 9, ti_const 60, ti_icmp (fun x y => y ≤ x) 130, ti_iload 8, ti_aload 0, ti_getI 8 1, ti_icmp (fun x y => y ≤ x) 130, ti_aload 0, ti_iload 8, ti_callV G m_X8_wordEnd 8 1 0 0 0 0, ti_istore 10, ti_iload 7, ti_const 3, ti_aload 0, ti_iload 8, ti_iload 10, ti_iload 2, ti_callV G m_X8_widthOfWord 8 3 0 0 0 0, ti_bin (fun x y => x + y), ti_bin (fun x y => x + y), ti_istore 7, ti_iload 7, ti_iload 3, ti_icmp (fun x y => x ≤ y) 112, ti_goto 130], 109) := rfl
theorem cb_X8_cutAt_112 (G : jx_G) : cd_X8_cutAt G 112 = ([ti_iload 10, ti_istore 6, ti_aload 0, ti_iload 10, ti_callV G m_X8_wordFrom 8 1 0 0 0 0, ti_istore 8, ti_iinc 9 1, ti_goto 63], 127) := rfl
theorem cb_X8_cutAt_130 (G : jx_G) : cd_X8_cutAt G 130 = ([ti_aload 4, ti_iload 5, ti_iload 6, ti_const 0, ti_iload 8, ti_aload 0, ti_getI 8 1, ti_icmp (fun x y => x < y) 150, ti_const 1, ti_goto 151], 147) := rfl
theorem cb_X8_cutAt_150 (G : jx_G) : cd_X8_cutAt G 150 = ([ti_const 0], 151) := rfl
theorem cb_X8_cutAt_151 (G : jx_G) : cd_X8_cutAt G 151 = ([ti_callV G m_X0_note 0 4 0 0 0 0, ti_vret 0 0], 154) := rfl
theorem cb_X9_init_0 (G : jx_G) : cd_X9_init G 0 = ([ti_aload 0, ti_oinit, ti_aload 0, ti_const 58, ti_newa 11 148 4815, ti_putP 9 0 11, ti_aload 0, ti_const 300, ti_newa 12 148 4815, ti_putP 9 1 12, ti_aload 0, ti_const 0, ti_putI 9 2, ti_aload 0, ti_new 7 148 4815, ti_dup, ti_callV G m_X7_init 7 0 148 4815 1 5, ti_putP 9 3 7, ti_aload 0, ti_new 8 148 4815, ti_dup, ti_callV G m_X8_init 8 0 148 4815 1 60, ti_putP 9 4 8, ti_aload 0, ti_new 0 148 4815, ti_dup, ti_callV G m_X0_init 0 0 148 4815 0 0, ti_putP 9 5 0, ti_aload 0, ti_const 60, ti_putI 9 6, ti_aload 0, ti_const 12, ti_newa 13 148 4815, ti_putP 9 7 13, ti_aload 0, ti_const 0, ti_putI 9 8, ti_aload 0, ti_const 4, ti_newa 14 148 4815, ti_putP 9 9 14, ti_aload 0, ti_const 0, ti_putI 9 10, ti_aload 0, ti_new 2 148 4815, ti_dup, ti_callV G m_X2_init 2 0 148 4815 1 300, ti_putP 9 11 2, ti_aload 0, ti_new 5 148 4815, ti_dup, ti_callV G m_X5_init 5 0 148 4815 1 720, ti_putP 9 12 5, ti_aload 0, ti_const 29, ti_newa 15 148 4815, ti_putP 9 13 15, ti_const 0, ti_istore 1], 126) := rfl
theorem cb_X9_init_126 (G : jx_G) : cd_X9_init G 126 = ([ti_iload 1, ti_aload 0, ti_getP 9 0 11, ti_alen 11, ti_icmp (fun x y => y ≤ x) 158, ti_aload 0, ti_getP 9 0 11, ti_iload 1, ti_new 4 148 4815, ti_dup, ti_iload 1, ti_const 29, ti_rem, ti_callV G m_X4_init 4 1 148 4815 0 0, ti_astP 11 4, ti_iinc 1 1, ti_goto 126], 155) := rfl
theorem cb_X9_init_158 (G : jx_G) : cd_X9_init G 158 = ([ti_const 0, ti_istore 1], 160) := rfl
theorem cb_X9_init_160 (G : jx_G) : cd_X9_init G 160 = ([ti_iload 1, ti_aload 0, ti_getP 9 7 13, ti_alen 13, ti_icmp (fun x y => y ≤ x) 188, ti_aload 0, ti_getP 9 7 13, ti_iload 1, ti_new 3 148 4815, ti_dup, ti_callV G m_X3_init 3 0 148 4815 5 246, ti_astP 13 3, ti_iinc 1 1, ti_goto 160], 185) := rfl
theorem cb_X9_init_188 (G : jx_G) : cd_X9_init G 188 = ([ti_const 0, ti_istore 1], 190) := rfl
theorem cb_X9_init_190 (G : jx_G) : cd_X9_init G 190 = ([ti_iload 1, ti_aload 0, ti_getP 9 9 14, ti_alen 14, ti_icmp (fun x y => y ≤ x) 219, ti_aload 0, ti_getP 9 9 14, ti_iload 1, ti_new 1 148 4815, ti_dup, ti_iload 1, ti_callV G m_X1_init 1 1 148 4815 0 0, ti_astP 14 1, ti_iinc 1 1, ti_goto 190], 216) := rfl
theorem cb_X9_init_219 (G : jx_G) : cd_X9_init G 219 = ([ti_vret 148 4815], 219) := rfl
theorem cb_X9_isCase_0 (G : jx_G) : cd_X9_isCase G 0 = ([ti_iload 0, ti_if (fun x => x < 0) 13, ti_iload 0, ti_const 2, ti_icmp (fun x y => y ≤ x) 13, ti_const 1, ti_goto 14], 10) := rfl
theorem cb_X9_isCase_13 (G : jx_G) : cd_X9_isCase G 13 = ([ti_const 0], 14) := rfl
theorem cb_X9_isCase_14 (G : jx_G) : cd_X9_isCase G 14 = ([ti_zret 0 0], 14) := rfl
theorem cb_X9_isBox_0 (G : jx_G) : cd_X9_isBox G 0 = ([ti_iload 0, ti_if (fun x => x < 0) 14, ti_iload 0, ti_const 29, ti_icmp (fun x y => y ≤ x) 14, ti_const 1, ti_goto 15], 11) := rfl
theorem cb_X9_isBox_14 (G : jx_G) : cd_X9_isBox G 14 = ([ti_const 0], 15) := rfl
theorem cb_X9_isBox_15 (G : jx_G) : cd_X9_isBox G 15 = ([ti_zret 0 0], 15) := rfl
theorem cb_X9_pileOf_0 (G : jx_G) : cd_X9_pileOf G 0 = ([ti_iload 1, ti_call G m_X9_isCase 1 0 0 0 0, ti_if (fun x => x = 0) 14, ti_iload 2, ti_call G m_X9_isBox 1 0 0 0 0, ti_if (fun x => ¬ x = 0) 16], 14) := rfl
theorem cb_X9_pileOf_14 (G : jx_G) : cd_X9_pileOf G 14 = ([ti_null 4, ti_aret 0 0], 15) := rfl
theorem cb_X9_pileOf_16 (G : jx_G) : cd_X9_pileOf G 16 = ([ti_iload 1, ti_const 29, ti_bin (fun x y => x * y), ti_iload 2, ti_bin (fun x y => x + y), ti_istore 3, ti_iload 3, ti_aload 0, ti_getP 9 0 11, ti_alen 11, ti_icmp (fun x y => y ≤ x) 41, ti_aload 0, ti_getP 9 0 11, ti_iload 3, ti_aldP 11 4, ti_goto 42], 38) := rfl
theorem cb_X9_pileOf_41 (G : jx_G) : cd_X9_pileOf G 41 = ([ti_null 4], 42) := rfl
theorem cb_X9_pileOf_42 (G : jx_G) : cd_X9_pileOf G 42 = ([ti_aret 0 0], 42) := rfl
theorem cb_X9_castOne_0 (G : jx_G) : cd_X9_castOne G 0 = ([ti_aload 0, ti_getI 9 2, ti_aload 0, ti_getP 9 1 12, ti_alen 12, ti_icmp (fun x y => y ≤ x) 64, ti_new 6 1 9, ti_dup, ti_aload 0, ti_getI 9 2, ti_iload 1, ti_iload 2, ti_callV G m_X6_init 6 3 1 9 0 0, ti_astore 4, ti_aload 0, ti_getP 9 1 12, ti_aload 0, ti_getI 9 2, ti_aload 4, ti_astP 12 6, ti_aload 0, ti_dup, ti_getI 9 2, ti_const 1, ti_bin (fun x y => x + y), ti_putI 9 2, ti_aload 3, ti_dup, ti_getI 4 3, ti_const 1, ti_bin (fun x y => x + y), ti_putI 4 3, ti_aload 3, ti_aload 4, ti_callV G m_X4_put 4 1 1 9 0 0], 64) := rfl
theorem cb_X9_castOne_64 (G : jx_G) : cd_X9_castOne G 64 = ([ti_vret 1 9], 64) := rfl
theorem cb_X9_cast_0 (G : jx_G) : cd_X9_cast G 0 = ([ti_aload 0, ti_iload 1, ti_iload 2, ti_callV G m_X9_pileOf 9 2 40 360 0 0, ti_astore 4, ti_aload 4, ti_ifnonnull 23, ti_throw 1 40 360], 13) := rfl
theorem cb_X9_cast_23 (G : jx_G) : cd_X9_cast G 23 = ([ti_iload 3, ti_const 1, ti_icmp (fun x y => x < y) 34, ti_iload 3, ti_const 40, ti_icmp (fun x y => x ≤ y) 44], 34) := rfl
theorem cb_X9_cast_34 (G : jx_G) : cd_X9_cast G 34 = ([ti_throw 2 40 360], 34) := rfl
theorem cb_X9_cast_44 (G : jx_G) : cd_X9_cast G 44 = ([ti_aload 0, ti_getI 9 2, ti_iload 3, ti_bin (fun x y => x + y), ti_aload 0, ti_getP 9 1 12, ti_alen 12, ti_icmp (fun x y => x ≤ y) 68, ti_throw 3 40 360], 58) := rfl
theorem cb_X9_cast_68 (G : jx_G) : cd_X9_cast G 68 = ([ti_const 0, ti_istore 5], 71) := rfl
theorem cb_X9_cast_71 (G : jx_G) : cd_X9_cast G 71 = ([ti_iload 5, ti_iload 3, ti_icmp (fun x y => y ≤ x) 91, ti_aload 0, ti_iload 1, ti_iload 2, ti_aload 4, ti_callV G m_X9_castOne 9 3 40 360 1 9, ti_iinc 5 1, ti_goto 71], 88) := rfl
theorem cb_X9_cast_91 (G : jx_G) : cd_X9_cast G 91 = ([ti_aload 0, ti_getI 9 2, ti_iret 40 360], 95) := rfl
theorem cb_X9_sizeOf_0 (G : jx_G) : cd_X9_sizeOf G 0 = ([ti_const 0, ti_istore 1], 2) := rfl
theorem cb_X9_sizeOf_2 (G : jx_G) : cd_X9_sizeOf G 2 = ([ti_iload 1, ti_getst 49, ti_lenU, ti_icmp (fun x y => y ≤ x) 27, ti_getst 49, ti_iload 1, ti_ldU, ti_iload 0, ti_icmp (fun x y => ¬ x = y) 21, ti_iload 1, ti_iret 0 0], 20) := rfl
theorem cb_X9_sizeOf_21 (G : jx_G) : cd_X9_sizeOf G 21 = ([ti_iinc 1 1, ti_goto 2], 24) := rfl
theorem cb_X9_sizeOf_27 (G : jx_G) : cd_X9_sizeOf G 27 = ([ti_const (-1), ti_iret 0 0], 28) := rfl
theorem cb_X9_spaces_0 (G : jx_G) : cd_X9_spaces G 0 = ([ti_iload 1, ti_call G m_X9_sizeOf 1 1 6 0 0, ti_istore 3, ti_iload 3, ti_const (-1), ti_icmp (fun x y => x = y) 21, ti_iload 2, ti_const 1, ti_icmp (fun x y => x < y) 21, ti_iload 2, ti_const 100, ti_icmp (fun x y => x ≤ y) 31], 21) := rfl
theorem cb_X9_spaces_21 (G : jx_G) : cd_X9_spaces G 21 = ([ti_throw 2 1 6], 21) := rfl
theorem cb_X9_spaces_31 (G : jx_G) : cd_X9_spaces G 31 = ([ti_aload 0, ti_getP 9 3 7, ti_iload 3, ti_callV G m_X7_countOf 7 1 1 6 0 0, ti_iload 2, ti_bin (fun x y => x + y), ti_const 1000, ti_icmp (fun x y => x ≤ y) 57, ti_throw 3 1 6], 47) := rfl
theorem cb_X9_spaces_57 (G : jx_G) : cd_X9_spaces G 57 = ([ti_aload 0, ti_getP 9 3 7, ti_iload 3, ti_iload 2, ti_callV G m_X7_add 7 2 1 6 0 0, ti_aload 0, ti_getP 9 3 7, ti_iload 3, ti_callV G m_X7_countOf 7 1 1 6 0 0, ti_iret 1 6], 74) := rfl
theorem cb_X9_type_0 (G : jx_G) : cd_X9_type G 0 = ([ti_iload 1, ti_const 32, ti_icmp (fun x y => x = y) 24, ti_iload 1, ti_call G m_X9_boxFor 1 1 6 0 0, ti_const (-1), ti_icmp (fun x y => ¬ x = y) 24, ti_throw 2 1 6], 14) := rfl
theorem cb_X9_type_24 (G : jx_G) : cd_X9_type G 24 = ([ti_aload 0, ti_getP 9 4 8, ti_callV G m_X8_isFull 8 0 1 6 0 0, ti_if (fun x => x = 0) 44, ti_throw 3 1 6], 34) := rfl
theorem cb_X9_type_44 (G : jx_G) : cd_X9_type G 44 = ([ti_aload 0, ti_getP 9 4 8, ti_iload 1, ti_callV G m_X8_append 8 1 1 6 0 0, ti_aload 0, ti_getP 9 4 8, ti_getI 8 1, ti_iret 1 6], 59) := rfl
theorem cb_X9_clear_0 (G : jx_G) : cd_X9_clear G 0 = ([ti_aload 0, ti_getP 9 4 8, ti_getI 8 1, ti_istore 1, ti_aload 0, ti_getP 9 4 8, ti_const 0, ti_putI 8 1, ti_iload 1, ti_iret 0 0], 17) := rfl
theorem cb_X9_measure_0 (G : jx_G) : cd_X9_measure G 0 = ([ti_iload 1, ti_const 20, ti_icmp (fun x y => x < y) 13, ti_iload 1, ti_const 200, ti_icmp (fun x y => x ≤ y) 23], 13) := rfl
theorem cb_X9_measure_13 (G : jx_G) : cd_X9_measure G 13 = ([ti_throw 2 1 6], 13) := rfl
theorem cb_X9_measure_23 (G : jx_G) : cd_X9_measure G 23 = ([ti_aload 0, ti_getI 9 8, ti_if (fun x => x ≤ 0) 40, ti_throw 3 1 6], 30) := rfl
theorem cb_X9_measure_40 (G : jx_G) : cd_X9_measure G 40 = ([ti_aload 0, ti_getI 9 6, ti_istore 2, ti_aload 0, ti_iload 1, ti_putI 9 6, ti_iload 2, ti_iret 1 6], 51) := rfl
theorem cb_X9_pileForTurned_0 (G : jx_G) : cd_X9_pileForTurned G 0 = ([ti_iload 1, ti_iload 2, ti_call G m_X9_widthOf 2 0 0 0 0, ti_istore 3, ti_null 4, ti_astore 4, ti_const 0, ti_istore 5], 12) := rfl
theorem cb_X9_pileForTurned_12 (G : jx_G) : cd_X9_pileForTurned G 12 = ([ti_iload 5, ti_const 29, ti_icmp (fun x y => y ≤ x) 113, ti_aload 0, ti_iload 1, ti_iload 5, ti_callV G m_X9_pileOf 9 2 0 0 0 0, ti_astore 6, ti_aload 6, ti_ifnull 107, ti_aload 6, ti_getP 4 1 6, ti_ifnull 107, ti_iload 5, ti_iload 2, ti_icmp (fun x y => ¬ x = y) 50, ti_goto 107], 47) := rfl
theorem cb_X9_pileForTurned_50 (G : jx_G) : cd_X9_pileForTurned G 50 = ([ti_aload 6, ti_getP 4 1 6, ti_getI 6 1, ti_aload 6, ti_getP 4 1 6, ti_getI 6 2, ti_call G m_X9_widthOf 2 0 0 0 0, ti_iload 3, ti_icmp (fun x y => ¬ x = y) 77, ti_const 1, ti_goto 78], 74) := rfl
theorem cb_X9_pileForTurned_77 (G : jx_G) : cd_X9_pileForTurned G 77 = ([ti_const 0], 78) := rfl
theorem cb_X9_pileForTurned_78 (G : jx_G) : cd_X9_pileForTurned G 78 = ([ti_istore 7, ti_iload 7, ti_if (fun x => x = 0) 107, ti_aload 4, ti_ifnull 103, ti_aload 6, ti_getI 4 2, ti_aload 4, ti_getI 4 2, ti_icmp (fun x y => x ≤ y) 107], 103) := rfl
theorem cb_X9_pileForTurned_103 (G : jx_G) : cd_X9_pileForTurned G 103 = ([ti_aload 6, ti_astore 4], 107) := rfl
theorem cb_X9_pileForTurned_107 (G : jx_G) : cd_X9_pileForTurned G 107 = ([ti_iinc 5 1, ti_goto 12], 110) := rfl
theorem cb_X9_pileForTurned_113 (G : jx_G) : cd_X9_pileForTurned G 113 = ([ti_aload 4, ti_aret 0 0], 115) := rfl
theorem cb_X9_takeOne_0 (G : jx_G) : cd_X9_takeOne G 0 = ([ti_aload 0, ti_aload 1, ti_getI 3 5, ti_iload 2, ti_callV G m_X9_pileOf 9 2 0 0 0 0, ti_astore 4, ti_aload 4, ti_ifnull 23, ti_aload 1, ti_callV G m_X3_isFull 3 0 0 0 0 0, ti_if (fun x => x = 0) 25], 23) := rfl
theorem cb_X9_takeOne_23 (G : jx_G) : cd_X9_takeOne G 23 = ([ti_const 0, ti_zret 0 0], 24) := rfl
theorem cb_X9_takeOne_25 (G : jx_G) : cd_X9_takeOne G 25 = ([ti_aload 4, ti_getP 4 1 6, ti_ifnonnull 41, ti_iload 3, ti_if (fun x => x = 0) 41, ti_const 1, ti_goto 42], 38) := rfl
theorem cb_X9_takeOne_41 (G : jx_G) : cd_X9_takeOne G 41 = ([ti_const 0], 42) := rfl
theorem cb_X9_takeOne_42 (G : jx_G) : cd_X9_takeOne G 42 = ([ti_istore 5, ti_iload 5, ti_if (fun x => x = 0) 61, ti_aload 0, ti_aload 1, ti_getI 3 5, ti_iload 2, ti_callV G m_X9_pileForTurned 9 2 0 0 0 0, ti_goto 63], 58) := rfl
theorem cb_X9_takeOne_61 (G : jx_G) : cd_X9_takeOne G 61 = ([ti_aload 4], 63) := rfl
theorem cb_X9_takeOne_63 (G : jx_G) : cd_X9_takeOne G 63 = ([ti_astore 6, ti_aload 6, ti_ifnonnull 74, ti_null 6, ti_goto 79], 71) := rfl
theorem cb_X9_takeOne_74 (G : jx_G) : cd_X9_takeOne G 74 = ([ti_aload 6, ti_callV G m_X4_take 4 0 0 0 0 0], 79) := rfl
theorem cb_X9_takeOne_79 (G : jx_G) : cd_X9_takeOne G 79 = ([ti_astore 7, ti_aload 7, ti_ifnonnull 88, ti_const 0, ti_zret 0 0], 87) := rfl
theorem cb_X9_takeOne_88 (G : jx_G) : cd_X9_takeOne G 88 = ([ti_aload 7, ti_iload 5, ti_putZ 6 4, ti_aload 1, ti_aload 7, ti_iload 2, ti_callV G m_X3_append 3 2 0 0 0 0, ti_const 1, ti_zret 0 0], 103) := rfl
theorem cb_X9_takeSorts_0 (G : jx_G) : cd_X9_takeSorts G 0 = ([ti_aload 0, ti_getP 9 5 0, ti_getI 0 0, ti_istore 3], 8) := rfl
theorem cb_X9_takeSorts_8 (G : jx_G) : cd_X9_takeSorts G 8 = ([ti_iload 3, ti_aload 0, ti_getP 9 5 0, ti_getI 0 1, ti_icmp (fun x y => y ≤ x) 62, ti_aload 0, ti_getP 9 4 8, ti_iload 3, ti_callV G m_X8_boxOn 8 1 0 0 0 0, ti_istore 4, ti_iload 4, ti_const (-1), ti_icmp (fun x y => ¬ x = y) 42, ti_aload 1, ti_callV G m_X3_openGap 3 0 0 0 0 0, ti_goto 56], 39) := rfl
theorem cb_X9_takeSorts_42 (G : jx_G) : cd_X9_takeSorts G 42 = ([ti_aload 0, ti_aload 1, ti_iload 4, ti_iload 2, ti_callV G m_X9_takeOne 9 3 0 0 0 0, ti_if (fun x => ¬ x = 0) 56, ti_iload 4, ti_iret 0 0], 55) := rfl
theorem cb_X9_takeSorts_56 (G : jx_G) : cd_X9_takeSorts G 56 = ([ti_iinc 3 1, ti_goto 8], 59) := rfl
theorem cb_X9_takeSorts_62 (G : jx_G) : cd_X9_takeSorts G 62 = ([ti_aload 0, ti_getP 9 5 0, ti_getI 0 2, ti_if (fun x => x = 0) 86, ti_aload 0, ti_aload 1, ti_const 28, ti_iload 2, ti_callV G m_X9_takeOne 9 3 0 0 0 0, ti_if (fun x => ¬ x = 0) 86, ti_const 28, ti_iret 0 0], 85) := rfl
theorem cb_X9_takeSorts_86 (G : jx_G) : cd_X9_takeSorts G 86 = ([ti_const (-1), ti_iret 0 0], 87) := rfl
theorem cb_X9_takeBack_0 (G : jx_G) : cd_X9_takeBack G 0 = ([ti_aload 1, ti_getI 3 6, ti_const 1, ti_bin (fun x y => x - y), ti_istore 2], 7) := rfl
theorem cb_X9_takeBack_7 (G : jx_G) : cd_X9_takeBack G 7 = ([ti_iload 2, ti_if (fun x => x < 0) 47, ti_aload 1, ti_iload 2, ti_callV G m_X3_sortOn 3 1 0 0 0 0, ti_astore 3, ti_aload 3, ti_ifnull 41, ti_aload 3, ti_getP 6 6 4, ti_ifnull 41, ti_aload 3, ti_const 0, ti_putZ 6 4, ti_aload 3, ti_getP 6 6 4, ti_aload 3, ti_callV G m_X4_put 4 1 0 0 0 0], 41) := rfl
theorem cb_X9_takeBack_41 (G : jx_G) : cd_X9_takeBack G 41 = ([ti_iinc 2 (-1), ti_goto 7], 44) := rfl
theorem cb_X9_takeBack_47 (G : jx_G) : cd_X9_takeBack G 47 = ([ti_vret 0 0], 47) := rfl
theorem cb_X9_fill_0 (G : jx_G) : cd_X9_fill G 0 = ([ti_aload 0, ti_getI 9 6, ti_aload 1, ti_callV G m_X3_widthOfSorts 3 0 0 0 0 0, ti_bin (fun x y => x - y), ti_istore 2, ti_aload 1, ti_getI 3 7, ti_istore 3, ti_iload 2, ti_if (fun x => 0 ≤ x) 20, ti_vret 0 0], 19) := rfl
theorem cb_X9_fill_20 (G : jx_G) : cd_X9_fill G 20 = ([ti_iload 3, ti_if (fun x => 0 < x) 35, ti_aload 0, ti_getP 9 3 7, ti_aload 1, ti_const 0, ti_iload 2, ti_callV G m_X7_fillGap 7 3 0 0 0 0, ti_vret 0 0], 34) := rfl
theorem cb_X9_fill_35 (G : jx_G) : cd_X9_fill G 35 = ([ti_iload 2, ti_iload 3, ti_div, ti_istore 4, ti_iload 2, ti_iload 3, ti_rem, ti_istore 5, ti_iload 5, ti_if (fun x => x ≤ 0) 57, ti_iload 4, ti_const 1, ti_bin (fun x y => x + y), ti_goto 59], 54) := rfl
theorem cb_X9_fill_57 (G : jx_G) : cd_X9_fill G 57 = ([ti_iload 4], 59) := rfl
theorem cb_X9_fill_59 (G : jx_G) : cd_X9_fill G 59 = ([ti_istore 6, ti_aload 1, ti_getI 3 8, ti_if (fun x => ¬ x = 0) 75, ti_iload 6, ti_const 12, ti_icmp (fun x y => x ≤ y) 86], 75) := rfl
theorem cb_X9_fill_75 (G : jx_G) : cd_X9_fill G 75 = ([ti_iload 2, ti_const 3, ti_iload 3, ti_bin (fun x y => x * y), ti_icmp (fun x y => x < y) 86, ti_const 1, ti_goto 87], 83) := rfl
theorem cb_X9_fill_86 (G : jx_G) : cd_X9_fill G 86 = ([ti_const 0], 87) := rfl
theorem cb_X9_fill_87 (G : jx_G) : cd_X9_fill G 87 = ([ti_istore 7, ti_const 0, ti_istore 8], 92) := rfl
theorem cb_X9_fill_92 (G : jx_G) : cd_X9_fill G 92 = ([ti_iload 8, ti_iload 3, ti_icmp (fun x y => y ≤ x) 143, ti_iload 8, ti_iload 5, ti_icmp (fun x y => y ≤ x) 112, ti_iload 4, ti_const 1, ti_bin (fun x y => x + y), ti_goto 114], 109) := rfl
theorem cb_X9_fill_112 (G : jx_G) : cd_X9_fill G 112 = ([ti_iload 4], 114) := rfl
theorem cb_X9_fill_114 (G : jx_G) : cd_X9_fill G 114 = ([ti_istore 9, ti_aload 0, ti_getP 9 3 7, ti_aload 1, ti_iload 8, ti_iload 7, ti_if (fun x => x = 0) 132, ti_const 3, ti_goto 134], 129) := rfl
theorem cb_X9_fill_132 (G : jx_G) : cd_X9_fill G 132 = ([ti_iload 9], 134) := rfl
theorem cb_X9_fill_134 (G : jx_G) : cd_X9_fill G 134 = ([ti_callV G m_X7_fillGap 7 3 0 0 0 0, ti_iinc 8 1, ti_goto 92], 140) := rfl
theorem cb_X9_fill_143 (G : jx_G) : cd_X9_fill G 143 = ([ti_iload 7, ti_if (fun x => x = 0) 162, ti_aload 0, ti_getP 9 3 7, ti_aload 1, ti_iload 3, ti_iload 2, ti_const 3, ti_iload 3, ti_bin (fun x y => x * y), ti_bin (fun x y => x - y), ti_callV G m_X7_fillGap 7 3 0 0 0 0], 162) := rfl
theorem cb_X9_fill_162 (G : jx_G) : cd_X9_fill G 162 = ([ti_vret 0 0], 162) := rfl
theorem cb_X9_set_0 (G : jx_G) : cd_X9_set G 0 = ([ti_iload 1, ti_call G m_X9_isCase 1 1 6 0 0, ti_if (fun x => ¬ x = 0) 17, ti_throw 1 1 6], 7) := rfl
theorem cb_X9_set_17 (G : jx_G) : cd_X9_set G 17 = ([ti_aload 0, ti_getP 9 4 8, ti_const 0, ti_iload 1, ti_aload 0, ti_getI 9 6, ti_aload 0, ti_getP 9 5 0, ti_callV G m_X8_cutAt 8 4 1 6 0 0, ti_aload 0, ti_getP 9 5 0, ti_callV G m_X0_isEmpty 0 0 1 6 0 0, ti_if (fun x => ¬ x = 0) 56, ti_aload 0, ti_getI 9 8, ti_aload 0, ti_getP 9 7 13, ti_alen 13, ti_icmp (fun x y => x < y) 66], 56) := rfl
theorem cb_X9_set_56 (G : jx_G) : cd_X9_set G 56 = ([ti_throw 3 1 6], 56) := rfl
theorem cb_X9_set_66 (G : jx_G) : cd_X9_set G 66 = ([ti_aload 0, ti_getP 9 7 13, ti_aload 0, ti_getI 9 8, ti_aldP 13 3, ti_astore 3, ti_aload 3, ti_iload 1, ti_aload 0, ti_getP 9 5 0, ti_getI 0 3, ti_callV G m_X3_begin 3 2 1 6 0 0, ti_aload 0, ti_aload 3, ti_iload 2, ti_callV G m_X9_takeSorts 9 2 1 6 0 0, ti_istore 4, ti_iload 4, ti_const (-1), ti_icmp (fun x y => x = y) 113, ti_aload 0, ti_aload 3, ti_callV G m_X9_takeBack 9 1 1 6 0 0, ti_const (-10), ti_iload 4, ti_bin (fun x y => x - y), ti_iret 1 6], 112) := rfl
theorem cb_X9_set_113 (G : jx_G) : cd_X9_set G 113 = ([ti_aload 0, ti_getP 9 4 8, ti_aload 0, ti_getP 9 5 0, ti_getI 0 1, ti_callV G m_X8_takeOff 8 1 1 6 0 0, ti_aload 0, ti_dup, ti_getI 9 8, ti_const 1, ti_bin (fun x y => x + y), ti_putI 9 8, ti_aload 0, ti_aload 3, ti_callV G m_X9_fill 9 1 1 6 0 0, ti_aload 0, ti_getI 9 8, ti_const 1, ti_bin (fun x y => x - y), ti_iret 1 6], 148) := rfl
theorem cb_X9_lineOf_0 (G : jx_G) : cd_X9_lineOf G 0 = ([ti_iload 1, ti_if (fun x => x < 0) 30, ti_iload 1, ti_aload 0, ti_getI 9 8, ti_icmp (fun x y => y ≤ x) 30, ti_iload 1, ti_aload 0, ti_getP 9 7 13, ti_alen 13, ti_icmp (fun x y => y ≤ x) 30, ti_aload 0, ti_getP 9 7 13, ti_iload 1, ti_aldP 13 3, ti_goto 31], 27) := rfl
theorem cb_X9_lineOf_30 (G : jx_G) : cd_X9_lineOf G 30 = ([ti_null 3], 31) := rfl
theorem cb_X9_lineOf_31 (G : jx_G) : cd_X9_lineOf G 31 = ([ti_aret 0 0], 31) := rfl
theorem cb_X9_takeFace_0 (G : jx_G) : cd_X9_takeFace G 0 = ([ti_aload 0, ti_iload 1, ti_iload 2, ti_callV G m_X9_pileOf 9 2 0 0 0 0, ti_astore 3, ti_aload 3, ti_ifnull 35, ti_aload 3, ti_getP 4 1 6, ti_ifnull 35, ti_aload 3, ti_getP 4 1 6, ti_iload 1, ti_iload 2, ti_callV G m_X6_hasFace 6 2 0 0 0 0, ti_if (fun x => x = 0) 35, ti_aload 3, ti_callV G m_X4_take 4 0 0 0 0 0, ti_aret 0 0], 34) := rfl
theorem cb_X9_takeFace_35 (G : jx_G) : cd_X9_takeFace G 35 = ([ti_aload 0, ti_getP 9 11 2, ti_iload 1, ti_iload 2, ti_callV G m_X2_takeLowest 2 2 0 0 0 0, ti_aret 0 0], 44) := rfl
theorem cb_X9_giveBack_0 (G : jx_G) : cd_X9_giveBack G 0 = ([ti_aload 1, ti_ifnonnull 8, ti_null 4, ti_goto 20], 5) := rfl
theorem cb_X9_giveBack_8 (G : jx_G) : cd_X9_giveBack G 8 = ([ti_aload 0, ti_aload 1, ti_getI 6 1, ti_aload 1, ti_getI 6 2, ti_callV G m_X9_pileOf 9 2 0 0 0 0], 20) := rfl
theorem cb_X9_giveBack_20 (G : jx_G) : cd_X9_giveBack G 20 = ([ti_astore 2, ti_aload 2, ti_ifnonnull 27, ti_const 0, ti_iret 0 0], 26) := rfl
theorem cb_X9_giveBack_27 (G : jx_G) : cd_X9_giveBack G 27 = ([ti_aload 1, ti_const 0, ti_putZ 6 4, ti_aload 1, ti_getI 6 3, ti_const 12, ti_icmp (fun x y => x < y) 58, ti_aload 1, ti_const 3, ti_putI 6 5, ti_aload 2, ti_dup, ti_getI 4 3, ti_const 1, ti_bin (fun x y => x - y), ti_putI 4 3, ti_const 0, ti_iret 0 0], 57) := rfl
theorem cb_X9_giveBack_58 (G : jx_G) : cd_X9_giveBack G 58 = ([ti_aload 2, ti_aload 1, ti_callV G m_X4_put 4 1 0 0 0 0, ti_const 1, ti_iret 0 0], 64) := rfl
theorem cb_X9_mend_0 (G : jx_G) : cd_X9_mend G 0 = ([ti_aload 0, ti_iload 1, ti_callV G m_X9_lineOf 9 1 1 6 0 0, ti_astore 3, ti_aload 3, ti_ifnonnull 14, ti_null 6, ti_goto 19], 11) := rfl
theorem cb_X9_mend_14 (G : jx_G) : cd_X9_mend G 14 = ([ti_aload 3, ti_iload 2, ti_callV G m_X3_sortOn 3 1 1 6 0 0], 19) := rfl
theorem cb_X9_mend_19 (G : jx_G) : cd_X9_mend G 19 = ([ti_astore 4, ti_aload 3, ti_ifnull 30, ti_aload 4, ti_ifnonnull 40], 30) := rfl
theorem cb_X9_mend_30 (G : jx_G) : cd_X9_mend G 30 = ([ti_throw 1 1 6], 30) := rfl
theorem cb_X9_mend_40 (G : jx_G) : cd_X9_mend G 40 = ([ti_aload 3, ti_iload 2, ti_callV G m_X3_isWrong 3 1 1 6 0 0, ti_if (fun x => x = 0) 64, ti_aload 0, ti_aload 3, ti_getI 3 5, ti_aload 3, ti_iload 2, ti_callV G m_X3_askedOn 3 1 1 6 0 0, ti_callV G m_X9_takeFace 9 2 1 6 0 0, ti_goto 65], 61) := rfl
theorem cb_X9_mend_64 (G : jx_G) : cd_X9_mend G 64 = ([ti_null 6], 65) := rfl
theorem cb_X9_mend_65 (G : jx_G) : cd_X9_mend G 65 = ([ti_astore 5, ti_aload 5, ti_ifnonnull 82, ti_throw 3 1 6], 72) := rfl
theorem cb_X9_mend_82 (G : jx_G) : cd_X9_mend G 82 = ([ti_aload 3, ti_iload 2, ti_aload 5, ti_callV G m_X3_replace 3 2 1 6 0 0, ti_aload 0, ti_aload 4, ti_callV G m_X9_giveBack 9 1 1 6 0 0, ti_pop, ti_aload 3, ti_getP 3 9 1, ti_ifnull 111, ti_aload 3, ti_getP 3 9 1, ti_const 0, ti_putI 1 1], 111) := rfl
theorem cb_X9_mend_111 (G : jx_G) : cd_X9_mend G 111 = ([ti_aload 0, ti_getP 9 3 7, ti_aload 3, ti_callV G m_X7_takeBackFrom 7 1 1 6 0 0, ti_aload 0, ti_aload 3, ti_callV G m_X9_fill 9 1 1 6 0 0, ti_aload 5, ti_getI 6 0, ti_iret 1 6], 129) := rfl
theorem cb_X9_removeLine_0 (G : jx_G) : cd_X9_removeLine G 0 = ([ti_aload 0, ti_iload 1, ti_callV G m_X9_lineOf 9 1 0 0 0 0, ti_astore 2, ti_aload 2, ti_ifnonnull 11, ti_vret 0 0], 10) := rfl
theorem cb_X9_removeLine_11 (G : jx_G) : cd_X9_removeLine G 11 = ([ti_aload 0, ti_getP 9 3 7, ti_aload 2, ti_callV G m_X7_takeBackFrom 7 1 0 0 0 0, ti_iload 1, ti_const 1, ti_bin (fun x y => x + y), ti_istore 3], 23) := rfl
theorem cb_X9_removeLine_23 (G : jx_G) : cd_X9_removeLine G 23 = ([ti_iload 3, ti_aload 0, ti_getI 9 8, ti_icmp (fun x y => y ≤ x) 60, ti_iload 3, ti_aload 0, ti_getP 9 7 13, ti_alen 13, ti_icmp (fun x y => y ≤ x) 60, ti_aload 0, ti_getP 9 7 13, ti_iload 3, ti_const 1, ti_bin (fun x y => x - y), ti_aload 0, ti_getP 9 7 13, ti_iload 3, ti_aldP 13 3, ti_astP 13 3, ti_iinc 3 1, ti_goto 23], 57) := rfl
theorem cb_X9_removeLine_60 (G : jx_G) : cd_X9_removeLine G 60 = ([ti_aload 0, ti_dup, ti_getI 9 8, ti_const 1, ti_bin (fun x y => x - y), ti_putI 9 8, ti_aload 0, ti_getI 9 8, ti_if (fun x => x < 0) 99, ti_aload 0, ti_getI 9 8, ti_aload 0, ti_getP 9 7 13, ti_alen 13, ti_icmp (fun x y => y ≤ x) 99, ti_aload 0, ti_getP 9 7 13, ti_aload 0, ti_getI 9 8, ti_aload 2, ti_astP 13 3], 99) := rfl
theorem cb_X9_removeLine_99 (G : jx_G) : cd_X9_removeLine G 99 = ([ti_vret 0 0], 99) := rfl
theorem cb_X9_distribute_0 (G : jx_G) : cd_X9_distribute G 0 = ([ti_aload 0, ti_iload 1, ti_callV G m_X9_lineOf 9 1 0 0 0 0, ti_astore 2, ti_aload 2, ti_ifnonnull 12, ti_const 0, ti_iret 0 0], 11) := rfl
theorem cb_X9_distribute_12 (G : jx_G) : cd_X9_distribute G 12 = ([ti_const 0, ti_istore 3, ti_aload 2, ti_getI 3 6, ti_const 1, ti_bin (fun x y => x - y), ti_istore 4], 22) := rfl
theorem cb_X9_distribute_22 (G : jx_G) : cd_X9_distribute G 22 = ([ti_iload 4, ti_if (fun x => x < 0) 46, ti_iload 3, ti_aload 0, ti_aload 2, ti_iload 4, ti_callV G m_X3_sortOn 3 1 0 0 0 0, ti_callV G m_X9_giveBack 9 1 0 0 0 0, ti_bin (fun x y => x + y), ti_istore 3, ti_iinc 4 (-1), ti_goto 22], 43) := rfl
theorem cb_X9_distribute_46 (G : jx_G) : cd_X9_distribute G 46 = ([ti_aload 0, ti_iload 1, ti_callV G m_X9_removeLine 9 1 0 0 0 0, ti_iload 3, ti_iret 0 0], 52) := rfl
theorem cb_X9_putBack_0 (G : jx_G) : cd_X9_putBack G 0 = ([ti_aload 0, ti_iload 1, ti_callV G m_X9_lineOf 9 1 1 6 0 0, ti_astore 2, ti_aload 2, ti_ifnonnull 20, ti_throw 1 1 6], 10) := rfl
theorem cb_X9_putBack_20 (G : jx_G) : cd_X9_putBack G 20 = ([ti_aload 2, ti_getP 3 9 1, ti_ifnull 37, ti_throw 3 1 6], 27) := rfl
theorem cb_X9_putBack_37 (G : jx_G) : cd_X9_putBack G 37 = ([ti_aload 0, ti_iload 1, ti_callV G m_X9_distribute 9 1 1 6 0 0, ti_iret 1 6], 42) := rfl
theorem cb_X9_foul_0 (G : jx_G) : cd_X9_foul G 0 = ([ti_aload 0, ti_iload 1, ti_iload 2, ti_callV G m_X9_pileOf 9 2 1 6 0 0, ti_astore 4, ti_aload 0, ti_iload 1, ti_iload 3, ti_callV G m_X9_pileOf 9 2 1 6 0 0, ti_astore 5, ti_aload 4, ti_ifnull 26, ti_aload 5, ti_ifnonnull 36], 26) := rfl
theorem cb_X9_foul_26 (G : jx_G) : cd_X9_foul G 26 = ([ti_throw 1 1 6], 26) := rfl
theorem cb_X9_foul_36 (G : jx_G) : cd_X9_foul G 36 = ([ti_iload 2, ti_iload 3, ti_icmp (fun x y => ¬ x = y) 51, ti_throw 2 1 6], 41) := rfl
theorem cb_X9_foul_51 (G : jx_G) : cd_X9_foul G 51 = ([ti_aload 4, ti_callV G m_X4_take 4 0 1 6 0 0, ti_astore 6, ti_aload 6, ti_ifnonnull 73, ti_throw 3 1 6], 63) := rfl
theorem cb_X9_foul_73 (G : jx_G) : cd_X9_foul G 73 = ([ti_aload 5, ti_aload 6, ti_callV G m_X4_put 4 1 1 6 0 0, ti_aload 6, ti_getI 6 0, ti_iret 1 6], 85) := rfl
theorem cb_JM_min_0 (G : jx_G) : cd_JM_min G 0 = ([ti_iload 0, ti_iload 1, ti_icmp (fun x y => y < x) 9, ti_iload 0, ti_goto 10], 6) := rfl
theorem cb_JM_min_9 (G : jx_G) : cd_JM_min G 9 = ([ti_iload 1], 10) := rfl
theorem cb_JM_min_10 (G : jx_G) : cd_JM_min G 10 = ([ti_iret 0 0], 10) := rfl
theorem cb_X9_sortPie_0 (G : jx_G) : cd_X9_sortPie G 0 = ([ti_iload 1, ti_const 1, ti_icmp (fun x y => x < y) 12, ti_iload 1, ti_const 300, ti_icmp (fun x y => x ≤ y) 23], 12) := rfl
theorem cb_X9_sortPie_12 (G : jx_G) : cd_X9_sortPie G 12 = ([ti_throw 2 1 6], 12) := rfl
theorem cb_X9_sortPie_23 (G : jx_G) : cd_X9_sortPie G 23 = ([ti_iload 1, ti_aload 0, ti_getP 9 11 2, ti_getI 2 1, ti_call G m_JM_min 2 1 6 0 0, ti_istore 2, ti_const 0, ti_istore 3, ti_const 0, ti_istore 4], 40) := rfl
theorem cb_X9_sortPie_40 (G : jx_G) : cd_X9_sortPie G 40 = ([ti_iload 4, ti_iload 2, ti_icmp (fun x y => y ≤ x) 68, ti_iload 3, ti_aload 0, ti_aload 0, ti_getP 9 11 2, ti_iload 4, ti_callV G m_X2_sortOn 2 1 1 6 0 0, ti_callV G m_X9_giveBack 9 1 1 6 0 0, ti_bin (fun x y => x + y), ti_istore 3, ti_iinc 4 1, ti_goto 40], 65) := rfl
theorem cb_X9_sortPie_68 (G : jx_G) : cd_X9_sortPie G 68 = ([ti_aload 0, ti_getP 9 11 2, ti_iload 2, ti_callV G m_X2_takeOff 2 1 1 6 0 0, ti_iload 3, ti_iret 1 6], 77) := rfl
theorem cb_X9_areFree_0 (G : jx_G) : cd_X9_areFree G 0 = ([ti_iload 1, ti_istore 3], 2) := rfl
theorem cb_X9_areFree_2 (G : jx_G) : cd_X9_areFree G 2 = ([ti_iload 3, ti_iload 2, ti_icmp (fun x y => y < x) 35, ti_aload 0, ti_iload 3, ti_callV G m_X9_lineOf 9 1 0 0 0 0, ti_astore 4, ti_aload 4, ti_ifnull 27, ti_aload 4, ti_getP 3 9 1, ti_ifnull 29], 27) := rfl
theorem cb_X9_areFree_27 (G : jx_G) : cd_X9_areFree G 27 = ([ti_const 0, ti_zret 0 0], 28) := rfl
theorem cb_X9_areFree_29 (G : jx_G) : cd_X9_areFree G 29 = ([ti_iinc 3 1, ti_goto 2], 32) := rfl
theorem cb_X9_areFree_35 (G : jx_G) : cd_X9_areFree G 35 = ([ti_const 1, ti_zret 0 0], 36) := rfl
theorem cb_X9_lock_0 (G : jx_G) : cd_X9_lock G 0 = ([ti_aload 0, ti_iload 1, ti_callV G m_X9_lineOf 9 1 1 6 0 0, ti_ifnull 16, ti_aload 0, ti_iload 2, ti_callV G m_X9_lineOf 9 1 1 6 0 0, ti_ifnonnull 26], 16) := rfl
theorem cb_X9_lock_16 (G : jx_G) : cd_X9_lock G 16 = ([ti_throw 1 1 6], 16) := rfl
theorem cb_X9_lock_26 (G : jx_G) : cd_X9_lock G 26 = ([ti_iload 2, ti_iload 1, ti_icmp (fun x y => y ≤ x) 42, ti_throw 2 1 6], 31) := rfl
theorem cb_X9_lock_42 (G : jx_G) : cd_X9_lock G 42 = ([ti_aload 0, ti_iload 1, ti_iload 2, ti_callV G m_X9_areFree 9 2 1 6 0 0, ti_if (fun x => x = 0) 63, ti_aload 0, ti_getI 9 10, ti_aload 0, ti_getP 9 9 14, ti_alen 14, ti_icmp (fun x y => x < y) 74], 63) := rfl
theorem cb_X9_lock_63 (G : jx_G) : cd_X9_lock G 63 = ([ti_throw 3 1 6], 63) := rfl
theorem cb_X9_lock_74 (G : jx_G) : cd_X9_lock G 74 = ([ti_aload 0, ti_getP 9 9 14, ti_aload 0, ti_getI 9 10, ti_aldP 14 1, ti_astore 3, ti_aload 0, ti_dup, ti_getI 9 10, ti_const 1, ti_bin (fun x y => x + y), ti_putI 9 10, ti_iload 1, ti_istore 4], 97) := rfl
theorem cb_X9_lock_97 (G : jx_G) : cd_X9_lock G 97 = ([ti_iload 4, ti_iload 2, ti_icmp (fun x y => y < x) 130, ti_iload 4, ti_aload 0, ti_getP 9 7 13, ti_alen 13, ti_icmp (fun x y => y ≤ x) 130, ti_aload 0, ti_getP 9 7 13, ti_iload 4, ti_aldP 13 3, ti_aload 3, ti_putP 3 9 1, ti_iinc 4 1, ti_goto 97], 127) := rfl
theorem cb_X9_lock_130 (G : jx_G) : cd_X9_lock G 130 = ([ti_aload 3, ti_getI 1 0, ti_iret 1 6], 134) := rfl
theorem cb_X9_formOf_0 (G : jx_G) : cd_X9_formOf G 0 = ([ti_iload 1, ti_if (fun x => x < 0) 30, ti_iload 1, ti_aload 0, ti_getI 9 10, ti_icmp (fun x y => y ≤ x) 30, ti_iload 1, ti_aload 0, ti_getP 9 9 14, ti_alen 14, ti_icmp (fun x y => y ≤ x) 30, ti_aload 0, ti_getP 9 9 14, ti_iload 1, ti_aldP 14 1, ti_goto 31], 27) := rfl
theorem cb_X9_formOf_30 (G : jx_G) : cd_X9_formOf G 30 = ([ti_null 1], 31) := rfl
theorem cb_X9_formOf_31 (G : jx_G) : cd_X9_formOf G 31 = ([ti_aret 0 0], 31) := rfl
theorem cb_X9_slackOf_0 (G : jx_G) : cd_X9_slackOf G 0 = ([ti_aload 0, ti_getI 9 6, ti_aload 1, ti_callV G m_X3_widthOfSorts 3 0 0 0 0 0, ti_bin (fun x y => x - y), ti_aload 1, ti_callV G m_X3_widthOfSpaces 3 0 0 0 0 0, ti_bin (fun x y => x - y), ti_iret 0 0], 14) := rfl
theorem cb_X9_isTight_0 (G : jx_G) : cd_X9_isTight G 0 = ([ti_const 0, ti_istore 2], 2) := rfl
theorem cb_X9_isTight_2 (G : jx_G) : cd_X9_isTight G 2 = ([ti_iload 2, ti_aload 0, ti_getI 9 8, ti_icmp (fun x y => y ≤ x) 53, ti_iload 2, ti_aload 0, ti_getP 9 7 13, ti_alen 13, ti_icmp (fun x y => y ≤ x) 53, ti_aload 0, ti_getP 9 7 13, ti_iload 2, ti_aldP 13 3, ti_getP 3 9 1, ti_aload 1, ti_acmpNe 47, ti_aload 0, ti_aload 0, ti_getP 9 7 13, ti_iload 2, ti_aldP 13 3, ti_callV G m_X9_slackOf 9 1 0 0 0 0, ti_if (fun x => x = 0) 47, ti_const 0, ti_zret 0 0], 46) := rfl
theorem cb_X9_isTight_47 (G : jx_G) : cd_X9_isTight G 47 = ([ti_iinc 2 1, ti_goto 2], 50) := rfl
theorem cb_X9_isTight_53 (G : jx_G) : cd_X9_isTight G 53 = ([ti_const 1, ti_zret 0 0], 54) := rfl
theorem cb_X9_firstLineOf_0 (G : jx_G) : cd_X9_firstLineOf G 0 = ([ti_const 0, ti_istore 2], 2) := rfl
theorem cb_X9_firstLineOf_2 (G : jx_G) : cd_X9_firstLineOf G 2 = ([ti_iload 2, ti_aload 0, ti_getI 9 8, ti_icmp (fun x y => y ≤ x) 40, ti_iload 2, ti_aload 0, ti_getP 9 7 13, ti_alen 13, ti_icmp (fun x y => y ≤ x) 40, ti_aload 0, ti_getP 9 7 13, ti_iload 2, ti_aldP 13 3, ti_getP 3 9 1, ti_aload 1, ti_acmpNe 34, ti_iload 2, ti_iret 0 0], 33) := rfl
theorem cb_X9_firstLineOf_34 (G : jx_G) : cd_X9_firstLineOf G 34 = ([ti_iinc 2 1, ti_goto 2], 37) := rfl
theorem cb_X9_firstLineOf_40 (G : jx_G) : cd_X9_firstLineOf G 40 = ([ti_const (-1), ti_iret 0 0], 41) := rfl
theorem cb_X9_linesOf_0 (G : jx_G) : cd_X9_linesOf G 0 = ([ti_const 0, ti_istore 2, ti_const 0, ti_istore 3], 4) := rfl
theorem cb_X9_linesOf_4 (G : jx_G) : cd_X9_linesOf G 4 = ([ti_iload 3, ti_aload 0, ti_getI 9 8, ti_icmp (fun x y => y ≤ x) 43, ti_iload 3, ti_aload 0, ti_getP 9 7 13, ti_alen 13, ti_icmp (fun x y => y ≤ x) 43, ti_aload 0, ti_getP 9 7 13, ti_iload 3, ti_aldP 13 3, ti_getP 3 9 1, ti_aload 1, ti_acmpNe 37, ti_iinc 2 1], 37) := rfl
theorem cb_X9_linesOf_37 (G : jx_G) : cd_X9_linesOf G 37 = ([ti_iinc 3 1, ti_goto 4], 40) := rfl
theorem cb_X9_linesOf_43 (G : jx_G) : cd_X9_linesOf G 43 = ([ti_iload 2, ti_iret 0 0], 44) := rfl
theorem cb_X9_fallApart_0 (G : jx_G) : cd_X9_fallApart G 0 = ([ti_aload 0, ti_iload 1, ti_callV G m_X9_lineOf 9 1 0 0 0 0, ti_astore 2, ti_aload 2, ti_ifnonnull 12, ti_const 0, ti_iret 0 0], 11) := rfl
theorem cb_X9_fallApart_12 (G : jx_G) : cd_X9_fallApart G 12 = ([ti_aload 2, ti_getI 3 6, ti_istore 3, ti_const 0, ti_istore 4], 20) := rfl
theorem cb_X9_fallApart_20 (G : jx_G) : cd_X9_fallApart G 20 = ([ti_iload 4, ti_iload 3, ti_icmp (fun x y => y ≤ x) 45, ti_aload 0, ti_getP 9 11 2, ti_aload 2, ti_iload 4, ti_callV G m_X3_sortOn 3 1 0 0 0 0, ti_callV G m_X2_append 2 1 0 0 0 0, ti_iinc 4 1, ti_goto 20], 42) := rfl
theorem cb_X9_fallApart_45 (G : jx_G) : cd_X9_fallApart G 45 = ([ti_aload 0, ti_iload 1, ti_callV G m_X9_removeLine 9 1 0 0 0 0, ti_iload 3, ti_iret 0 0], 51) := rfl
theorem cb_X9_breakUp_0 (G : jx_G) : cd_X9_breakUp G 0 = ([ti_aload 0, ti_aload 1, ti_callV G m_X9_firstLineOf 9 1 0 0 0 0, ti_istore 2, ti_aload 0, ti_aload 1, ti_callV G m_X9_linesOf 9 1 0 0 0 0, ti_istore 3, ti_const 0, ti_istore 4, ti_const 0, ti_istore 5], 18) := rfl
theorem cb_X9_breakUp_18 (G : jx_G) : cd_X9_breakUp G 18 = ([ti_iload 5, ti_iload 3, ti_icmp (fun x y => y ≤ x) 76, ti_aload 0, ti_iload 2, ti_callV G m_X9_lineOf 9 1 0 0 0 0, ti_astore 6, ti_aload 6, ti_ifnonnull 39, ti_iload 4, ti_iret 0 0], 38) := rfl
theorem cb_X9_breakUp_39 (G : jx_G) : cd_X9_breakUp G 39 = ([ti_aload 6, ti_null 1, ti_putP 3 9 1, ti_aload 0, ti_aload 6, ti_callV G m_X9_slackOf 9 1 0 0 0 0, ti_if (fun x => ¬ x = 0) 60, ti_iinc 2 1, ti_goto 70], 57) := rfl
theorem cb_X9_breakUp_60 (G : jx_G) : cd_X9_breakUp G 60 = ([ti_iload 4, ti_aload 0, ti_iload 2, ti_callV G m_X9_fallApart 9 1 0 0 0 0, ti_bin (fun x y => x + y), ti_istore 4], 70) := rfl
theorem cb_X9_breakUp_70 (G : jx_G) : cd_X9_breakUp G 70 = ([ti_iinc 5 1, ti_goto 18], 73) := rfl
theorem cb_X9_breakUp_76 (G : jx_G) : cd_X9_breakUp G 76 = ([ti_iload 4, ti_iret 0 0], 78) := rfl
theorem cb_X9_lift_0 (G : jx_G) : cd_X9_lift G 0 = ([ti_aload 0, ti_iload 1, ti_callV G m_X9_formOf 9 1 1 6 0 0, ti_astore 2, ti_aload 2, ti_ifnonnull 21, ti_throw 1 1 6], 10) := rfl
theorem cb_X9_lift_21 (G : jx_G) : cd_X9_lift G 21 = ([ti_aload 2, ti_getI 1 1, ti_const 2, ti_icmp (fun x y => ¬ x = y) 40, ti_throw 3 1 6], 29) := rfl
theorem cb_X9_lift_40 (G : jx_G) : cd_X9_lift G 40 = ([ti_aload 0, ti_aload 2, ti_callV G m_X9_isTight 9 1 1 6 0 0, ti_if (fun x => x = 0) 55, ti_aload 2, ti_const 1, ti_putI 1 1, ti_const 0, ti_iret 1 6], 54) := rfl
theorem cb_X9_lift_55 (G : jx_G) : cd_X9_lift G 55 = ([ti_aload 2, ti_const 2, ti_putI 1 1, ti_aload 0, ti_aload 2, ti_callV G m_X9_breakUp 9 1 1 6 0 0, ti_iret 1 6], 65) := rfl
theorem cb_X9_print_0 (G : jx_G) : cd_X9_print G 0 = ([ti_const 0, ti_istore 2, ti_const 0, ti_istore 3], 4) := rfl
theorem cb_X9_print_4 (G : jx_G) : cd_X9_print G 4 = ([ti_iload 3, ti_aload 1, ti_getI 3 6, ti_icmp (fun x y => y ≤ x) 82, ti_aload 1, ti_iload 3, ti_iload 2, ti_callV G m_X3_isBehindGap 3 2 0 0 0 0, ti_if (fun x => x = 0) 41, ti_aload 1, ti_iload 2, ti_callV G m_X3_unitsIn 3 1 0 0 0 0, ti_if (fun x => x ≤ 0) 38, ti_aload 0, ti_getP 9 12 5, ti_const 32, ti_callV G m_X5_append 5 1 0 0 0 0], 38) := rfl
theorem cb_X9_print_38 (G : jx_G) : cd_X9_print G 38 = ([ti_iinc 2 1], 41) := rfl
theorem cb_X9_print_41 (G : jx_G) : cd_X9_print G 41 = ([ti_aload 1, ti_iload 3, ti_callV G m_X3_sortOn 3 1 0 0 0 0, ti_astore 4, ti_aload 4, ti_ifnull 76, ti_aload 0, ti_getP 9 12 5, ti_aload 4, ti_callV G m_X6_print 6 0 0 0 0 0, ti_callV G m_X5_append 5 1 0 0 0 0, ti_aload 4, ti_dup, ti_getI 6 3, ti_const 1, ti_bin (fun x y => x + y), ti_putI 6 3], 76) := rfl
theorem cb_X9_print_76 (G : jx_G) : cd_X9_print G 76 = ([ti_iinc 3 1, ti_goto 4], 79) := rfl
theorem cb_X9_print_82 (G : jx_G) : cd_X9_print G 82 = ([ti_vret 0 0], 82) := rfl
theorem cb_X9_proof_0 (G : jx_G) : cd_X9_proof G 0 = ([ti_aload 0, ti_iload 1, ti_callV G m_X9_formOf 9 1 1 6 0 0, ti_astore 2, ti_aload 2, ti_ifnonnull 21, ti_throw 1 1 6], 10) := rfl
theorem cb_X9_proof_21 (G : jx_G) : cd_X9_proof G 21 = ([ti_aload 2, ti_getI 1 1, ti_const 1, ti_icmp (fun x y => x = y) 40, ti_throw 3 1 6], 29) := rfl
theorem cb_X9_proof_40 (G : jx_G) : cd_X9_proof G 40 = ([ti_aload 2, ti_dup, ti_getI 1 2, ti_const 1, ti_bin (fun x y => x + y), ti_putI 1 2, ti_aload 0, ti_getP 9 12 5, ti_const 0, ti_putI 5 1, ti_const 0, ti_istore 3], 60) := rfl
theorem cb_X9_proof_60 (G : jx_G) : cd_X9_proof G 60 = ([ti_iload 3, ti_aload 0, ti_getI 9 8, ti_icmp (fun x y => y ≤ x) 106, ti_iload 3, ti_aload 0, ti_getP 9 7 13, ti_alen 13, ti_icmp (fun x y => y ≤ x) 106, ti_aload 0, ti_getP 9 7 13, ti_iload 3, ti_aldP 13 3, ti_getP 3 9 1, ti_aload 2, ti_acmpNe 100, ti_aload 0, ti_aload 0, ti_getP 9 7 13, ti_iload 3, ti_aldP 13 3, ti_callV G m_X9_print 9 1 1 6 0 0], 100) := rfl
theorem cb_X9_proof_100 (G : jx_G) : cd_X9_proof G 100 = ([ti_iinc 3 1, ti_goto 60], 103) := rfl
theorem cb_X9_proof_106 (G : jx_G) : cd_X9_proof G 106 = ([ti_aload 0, ti_getP 9 12 5, ti_getI 5 1, ti_iret 1 6], 113) := rfl
theorem cb_X9_unlock_0 (G : jx_G) : cd_X9_unlock G 0 = ([ti_aload 0, ti_iload 1, ti_callV G m_X9_formOf 9 1 1 6 0 0, ti_astore 2, ti_aload 2, ti_ifnonnull 21, ti_throw 1 1 6], 10) := rfl
theorem cb_X9_unlock_21 (G : jx_G) : cd_X9_unlock G 21 = ([ti_aload 2, ti_getI 1 1, ti_const 2, ti_icmp (fun x y => ¬ x = y) 40, ti_throw 3 1 6], 29) := rfl
theorem cb_X9_unlock_40 (G : jx_G) : cd_X9_unlock G 40 = ([ti_aload 0, ti_aload 2, ti_callV G m_X9_firstLineOf 9 1 1 6 0 0, ti_istore 3, ti_aload 0, ti_aload 2, ti_callV G m_X9_linesOf 9 1 1 6 0 0, ti_istore 4, ti_const 0, ti_istore 5, ti_const 0, ti_istore 6], 59) := rfl
theorem cb_X9_unlock_59 (G : jx_G) : cd_X9_unlock G 59 = ([ti_iload 6, ti_iload 4, ti_icmp (fun x y => y ≤ x) 82, ti_iload 5, ti_aload 0, ti_iload 3, ti_callV G m_X9_distribute 9 1 1 6 0 0, ti_bin (fun x y => x + y), ti_istore 5, ti_iinc 6 1, ti_goto 59], 79) := rfl
theorem cb_X9_unlock_82 (G : jx_G) : cd_X9_unlock G 82 = ([ti_aload 2, ti_const 2, ti_putI 1 1, ti_iload 5, ti_iret 1 6], 89) := rfl
theorem cb_X9_inBox_0 (G : jx_G) : cd_X9_inBox G 0 = ([ti_aload 0, ti_iload 1, ti_iload 2, ti_callV G m_X9_pileOf 9 2 1 6 0 0, ti_astore 3, ti_aload 3, ti_ifnonnull 21, ti_throw 1 1 6], 11) := rfl
theorem cb_X9_inBox_21 (G : jx_G) : cd_X9_inBox G 21 = ([ti_aload 3, ti_getI 4 2, ti_iret 1 6], 25) := rfl
theorem cb_X9_top_0 (G : jx_G) : cd_X9_top G 0 = ([ti_aload 0, ti_iload 1, ti_iload 2, ti_callV G m_X9_pileOf 9 2 1 6 0 0, ti_astore 3, ti_aload 3, ti_ifnonnull 21, ti_throw 1 1 6], 11) := rfl
theorem cb_X9_top_21 (G : jx_G) : cd_X9_top G 21 = ([ti_aload 3, ti_getP 4 1 6, ti_ifnonnull 32, ti_const (-1), ti_goto 39], 29) := rfl
theorem cb_X9_top_32 (G : jx_G) : cd_X9_top G 32 = ([ti_aload 3, ti_getP 4 1 6, ti_getI 6 0], 39) := rfl
theorem cb_X9_top_39 (G : jx_G) : cd_X9_top G 39 = ([ti_iret 1 6], 39) := rfl
theorem cb_X9_inSpaces_0 (G : jx_G) : cd_X9_inSpaces G 0 = ([ti_iload 1, ti_call G m_X9_sizeOf 1 1 6 0 0, ti_istore 2, ti_iload 2, ti_const (-1), ti_icmp (fun x y => ¬ x = y) 20, ti_throw 2 1 6], 10) := rfl
theorem cb_X9_inSpaces_20 (G : jx_G) : cd_X9_inSpaces G 20 = ([ti_aload 0, ti_getP 9 3 7, ti_iload 2, ti_callV G m_X7_countOf 7 1 1 6 0 0, ti_iret 1 6], 28) := rfl
theorem cb_X9_sortOf_0 (G : jx_G) : cd_X9_sortOf G 0 = ([ti_iload 1, ti_if (fun x => x < 0) 30, ti_iload 1, ti_aload 0, ti_getI 9 2, ti_icmp (fun x y => y ≤ x) 30, ti_iload 1, ti_aload 0, ti_getP 9 1 12, ti_alen 12, ti_icmp (fun x y => y ≤ x) 30, ti_aload 0, ti_getP 9 1 12, ti_iload 1, ti_aldP 12 6, ti_goto 31], 27) := rfl
theorem cb_X9_sortOf_30 (G : jx_G) : cd_X9_sortOf G 30 = ([ti_null 6], 31) := rfl
theorem cb_X9_sortOf_31 (G : jx_G) : cd_X9_sortOf G 31 = ([ti_aret 0 0], 31) := rfl
theorem cb_X9_lineWith_0 (G : jx_G) : cd_X9_lineWith G 0 = ([ti_const 0, ti_istore 2], 2) := rfl
theorem cb_X9_lineWith_2 (G : jx_G) : cd_X9_lineWith G 2 = ([ti_iload 2, ti_aload 0, ti_getI 9 8, ti_icmp (fun x y => y ≤ x) 40, ti_iload 2, ti_aload 0, ti_getP 9 7 13, ti_alen 13, ti_icmp (fun x y => y ≤ x) 40, ti_aload 0, ti_getP 9 7 13, ti_iload 2, ti_aldP 13 3, ti_aload 1, ti_getP 6 7 3, ti_acmpNe 34, ti_iload 2, ti_iret 0 0], 33) := rfl
theorem cb_X9_lineWith_34 (G : jx_G) : cd_X9_lineWith G 34 = ([ti_iinc 2 1, ti_goto 2], 37) := rfl
theorem cb_X9_lineWith_40 (G : jx_G) : cd_X9_lineWith G 40 = ([ti_const (-1), ti_iret 0 0], 41) := rfl
theorem cb_X9_placeOf_0 (G : jx_G) : cd_X9_placeOf G 0 = ([ti_aload 1, ti_getI 6 5, ti_tsw 0 [32, 51, 57] 66], 4) := rfl
theorem cb_X9_placeOf_32 (G : jx_G) : cd_X9_placeOf G 32 = ([ti_aload 1, ti_getP 6 6 4, ti_ifnonnull 43, ti_const (-1), ti_goto 50], 40) := rfl
theorem cb_X9_placeOf_43 (G : jx_G) : cd_X9_placeOf G 43 = ([ti_aload 1, ti_getP 6 6 4, ti_getI 4 0], 50) := rfl
theorem cb_X9_placeOf_50 (G : jx_G) : cd_X9_placeOf G 50 = ([ti_iret 0 0], 50) := rfl
theorem cb_X9_placeOf_51 (G : jx_G) : cd_X9_placeOf G 51 = ([ti_aload 0, ti_aload 1, ti_callV G m_X9_lineWith 9 1 0 0 0 0, ti_iret 0 0], 56) := rfl
theorem cb_X9_placeOf_57 (G : jx_G) : cd_X9_placeOf G 57 = ([ti_aload 0, ti_getP 9 11 2, ti_aload 1, ti_callV G m_X2_placeOf 2 1 0 0 0 0, ti_iret 0 0], 65) := rfl
theorem cb_X9_placeOf_66 (G : jx_G) : cd_X9_placeOf G 66 = ([ti_const (-1), ti_iret 0 0], 67) := rfl
theorem cb_X9_sort_0 (G : jx_G) : cd_X9_sort G 0 = ([ti_aload 0, ti_iload 1, ti_callV G m_X9_sortOf 9 1 1 6 0 0, ti_astore 3, ti_aload 3, ti_ifnonnull 21, ti_throw 1 1 6], 10) := rfl
theorem cb_X9_sort_21 (G : jx_G) : cd_X9_sort G 21 = ([ti_iload 2, ti_tsw 0 [64, 69, 74, 79, 84, 90, 103] 115], 22) := rfl
theorem cb_X9_sort_64 (G : jx_G) : cd_X9_sort G 64 = ([ti_aload 3, ti_getI 6 1, ti_iret 1 6], 68) := rfl
theorem cb_X9_sort_69 (G : jx_G) : cd_X9_sort G 69 = ([ti_aload 3, ti_getI 6 2, ti_iret 1 6], 73) := rfl
theorem cb_X9_sort_74 (G : jx_G) : cd_X9_sort G 74 = ([ti_aload 3, ti_getI 6 3, ti_iret 1 6], 78) := rfl
theorem cb_X9_sort_79 (G : jx_G) : cd_X9_sort G 79 = ([ti_aload 3, ti_getI 6 5, ti_iret 1 6], 83) := rfl
theorem cb_X9_sort_84 (G : jx_G) : cd_X9_sort G 84 = ([ti_aload 0, ti_aload 3, ti_callV G m_X9_placeOf 9 1 1 6 0 0, ti_iret 1 6], 89) := rfl
theorem cb_X9_sort_90 (G : jx_G) : cd_X9_sort G 90 = ([ti_aload 3, ti_getI 6 4, ti_if (fun x => x = 0) 101, ti_const 1, ti_goto 102], 98) := rfl
theorem cb_X9_sort_101 (G : jx_G) : cd_X9_sort G 101 = ([ti_const 0], 102) := rfl
theorem cb_X9_sort_102 (G : jx_G) : cd_X9_sort G 102 = ([ti_iret 1 6], 102) := rfl
theorem cb_X9_sort_103 (G : jx_G) : cd_X9_sort G 103 = ([ti_aload 3, ti_getI 6 1, ti_aload 3, ti_getI 6 2, ti_call G m_X9_widthOf 2 1 6 0 0, ti_iret 1 6], 114) := rfl
theorem cb_X9_sort_115 (G : jx_G) : cd_X9_sort G 115 = ([ti_throw 2 1 6], 115) := rfl
theorem cb_X9_lines_0 (G : jx_G) : cd_X9_lines G 0 = ([ti_aload 0, ti_getI 9 8, ti_iret 0 0], 4) := rfl
theorem cb_X9_line_0 (G : jx_G) : cd_X9_line G 0 = ([ti_aload 0, ti_iload 1, ti_callV G m_X9_lineOf 9 1 1 6 0 0, ti_astore 3, ti_aload 3, ti_ifnonnull 20, ti_throw 1 1 6], 10) := rfl
theorem cb_X9_line_20 (G : jx_G) : cd_X9_line G 20 = ([ti_iload 2, ti_tsw 0 [68, 73, 78, 83, 89, 108, 113, 118] 123], 21) := rfl
theorem cb_X9_line_68 (G : jx_G) : cd_X9_line G 68 = ([ti_aload 3, ti_getI 3 5, ti_iret 1 6], 72) := rfl
theorem cb_X9_line_73 (G : jx_G) : cd_X9_line G 73 = ([ti_aload 3, ti_getI 3 6, ti_iret 1 6], 77) := rfl
theorem cb_X9_line_78 (G : jx_G) : cd_X9_line G 78 = ([ti_aload 3, ti_getI 3 7, ti_iret 1 6], 82) := rfl
theorem cb_X9_line_83 (G : jx_G) : cd_X9_line G 83 = ([ti_aload 0, ti_aload 3, ti_callV G m_X9_slackOf 9 1 1 6 0 0, ti_iret 1 6], 88) := rfl
theorem cb_X9_line_89 (G : jx_G) : cd_X9_line G 89 = ([ti_aload 3, ti_getP 3 9 1, ti_ifnonnull 100, ti_const (-1), ti_goto 107], 97) := rfl
theorem cb_X9_line_100 (G : jx_G) : cd_X9_line G 100 = ([ti_aload 3, ti_getP 3 9 1, ti_getI 1 0], 107) := rfl
theorem cb_X9_line_107 (G : jx_G) : cd_X9_line G 107 = ([ti_iret 1 6], 107) := rfl
theorem cb_X9_line_108 (G : jx_G) : cd_X9_line G 108 = ([ti_aload 3, ti_callV G m_X3_wrongPlaces 3 0 1 6 0 0, ti_iret 1 6], 112) := rfl
theorem cb_X9_line_113 (G : jx_G) : cd_X9_line G 113 = ([ti_aload 3, ti_callV G m_X3_firstWrong 3 0 1 6 0 0, ti_iret 1 6], 117) := rfl
theorem cb_X9_line_118 (G : jx_G) : cd_X9_line G 118 = ([ti_aload 3, ti_callV G m_X3_unitsBehind 3 0 1 6 0 0, ti_iret 1 6], 122) := rfl
theorem cb_X9_line_123 (G : jx_G) : cd_X9_line G 123 = ([ti_throw 2 1 6], 123) := rfl
theorem cb_X9_sortAt_0 (G : jx_G) : cd_X9_sortAt G 0 = ([ti_aload 0, ti_iload 1, ti_callV G m_X9_lineOf 9 1 1 6 0 0, ti_astore 3, ti_aload 3, ti_ifnonnull 14, ti_null 6, ti_goto 19], 11) := rfl
theorem cb_X9_sortAt_14 (G : jx_G) : cd_X9_sortAt G 14 = ([ti_aload 3, ti_iload 2, ti_callV G m_X3_sortOn 3 1 1 6 0 0], 19) := rfl
theorem cb_X9_sortAt_19 (G : jx_G) : cd_X9_sortAt G 19 = ([ti_astore 4, ti_aload 4, ti_ifnonnull 36, ti_throw 1 1 6], 26) := rfl
theorem cb_X9_sortAt_36 (G : jx_G) : cd_X9_sortAt G 36 = ([ti_aload 4, ti_getI 6 0, ti_iret 1 6], 41) := rfl
theorem cb_X9_gap_0 (G : jx_G) : cd_X9_gap G 0 = ([ti_aload 0, ti_iload 1, ti_callV G m_X9_lineOf 9 1 1 6 0 0, ti_astore 3, ti_aload 3, ti_ifnull 22, ti_iload 2, ti_if (fun x => x < 0) 22, ti_iload 2, ti_aload 3, ti_getI 3 7, ti_icmp (fun x y => x < y) 33], 22) := rfl
theorem cb_X9_gap_22 (G : jx_G) : cd_X9_gap G 22 = ([ti_throw 1 1 6], 22) := rfl
theorem cb_X9_gap_33 (G : jx_G) : cd_X9_gap G 33 = ([ti_aload 3, ti_iload 2, ti_callV G m_X3_unitsIn 3 1 1 6 0 0, ti_iret 1 6], 38) := rfl
theorem cb_X9_form_0 (G : jx_G) : cd_X9_form G 0 = ([ti_aload 0, ti_iload 1, ti_callV G m_X9_formOf 9 1 1 6 0 0, ti_astore 3, ti_aload 3, ti_ifnonnull 21, ti_throw 1 1 6], 10) := rfl
theorem cb_X9_form_21 (G : jx_G) : cd_X9_form G 21 = ([ti_iload 2, ti_tsw 0 [48, 53, 59] 64], 22) := rfl
theorem cb_X9_form_48 (G : jx_G) : cd_X9_form G 48 = ([ti_aload 3, ti_getI 1 1, ti_iret 1 6], 52) := rfl
theorem cb_X9_form_53 (G : jx_G) : cd_X9_form G 53 = ([ti_aload 0, ti_aload 3, ti_callV G m_X9_linesOf 9 1 1 6 0 0, ti_iret 1 6], 58) := rfl
theorem cb_X9_form_59 (G : jx_G) : cd_X9_form G 59 = ([ti_aload 3, ti_getI 1 2, ti_iret 1 6], 63) := rfl
theorem cb_X9_form_64 (G : jx_G) : cd_X9_form G 64 = ([ti_throw 2 1 6], 64) := rfl
theorem cb_X9_printed_0 (G : jx_G) : cd_X9_printed G 0 = ([ti_aload 0, ti_getP 9 12 5, ti_iload 1, ti_callV G m_X5_has 5 1 1 6 0 0, ti_if (fun x => ¬ x = 0) 21, ti_throw 1 1 6], 11) := rfl
theorem cb_X9_printed_21 (G : jx_G) : cd_X9_printed G 21 = ([ti_aload 0, ti_getP 9 12 5, ti_iload 1, ti_callV G m_X5_signOn 5 1 1 6 0 0, ti_cret 1 6], 29) := rfl
theorem cb_X9_pie_0 (G : jx_G) : cd_X9_pie G 0 = ([ti_aload 0, ti_getP 9 11 2, ti_getI 2 1, ti_iret 0 0], 7) := rfl
theorem cb_X9_lead_0 (G : jx_G) : cd_X9_lead G 0 = ([ti_aload 0, ti_iload 1, ti_iload 2, ti_callV G m_X9_pileOf 9 2 1 6 0 0, ti_astore 3, ti_aload 3, ti_ifnonnull 21, ti_throw 1 1 6], 11) := rfl
theorem cb_X9_lead_21 (G : jx_G) : cd_X9_lead G 21 = ([ti_aload 3, ti_getI 4 3, ti_iret 1 6], 25) := rfl
theorem cb_X9_leadAnew_0 (G : jx_G) : cd_X9_leadAnew G 0 = ([ti_aload 0, ti_iload 1, ti_iload 2, ti_callV G m_X9_pileOf 9 2 1 6 0 0, ti_ifnonnull 19, ti_throw 1 1 6], 9) := rfl
theorem cb_X9_leadAnew_19 (G : jx_G) : cd_X9_leadAnew G 19 = ([ti_aload 0, ti_getP 9 11 2, ti_iload 1, ti_iload 2, ti_callV G m_X2_countOf 2 2 1 6 0 0, ti_istore 3, ti_const 0, ti_istore 4], 32) := rfl
theorem cb_X9_leadAnew_32 (G : jx_G) : cd_X9_leadAnew G 32 = ([ti_iload 4, ti_aload 0, ti_getP 9 0 11, ti_alen 11, ti_icmp (fun x y => y ≤ x) 63, ti_iload 3, ti_aload 0, ti_getP 9 0 11, ti_iload 4, ti_aldP 11 4, ti_iload 1, ti_iload 2, ti_callV G m_X4_countOf 4 2 1 6 0 0, ti_bin (fun x y => x + y), ti_istore 3, ti_iinc 4 1, ti_goto 32], 60) := rfl
theorem cb_X9_leadAnew_63 (G : jx_G) : cd_X9_leadAnew G 63 = ([ti_const 0, ti_istore 4], 66) := rfl
theorem cb_X9_leadAnew_66 (G : jx_G) : cd_X9_leadAnew G 66 = ([ti_iload 4, ti_aload 0, ti_getI 9 8, ti_icmp (fun x y => y ≤ x) 106, ti_iload 4, ti_aload 0, ti_getP 9 7 13, ti_alen 13, ti_icmp (fun x y => y ≤ x) 106, ti_iload 3, ti_aload 0, ti_getP 9 7 13, ti_iload 4, ti_aldP 13 3, ti_iload 1, ti_iload 2, ti_callV G m_X3_countOf 3 2 1 6 0 0, ti_bin (fun x y => x + y), ti_istore 3, ti_iinc 4 1, ti_goto 66], 103) := rfl
theorem cb_X9_leadAnew_106 (G : jx_G) : cd_X9_leadAnew G 106 = ([ti_iload 3, ti_iret 1 6], 107) := rfl
theorem cb_X9_spendOne_0 (G : jx_G) : cd_X9_spendOne G 0 = ([ti_iload 1, ti_if (fun x => x < 0) 22, ti_iload 1, ti_aload 0, ti_getP 9 13 15, ti_alen 15, ti_icmp (fun x y => y ≤ x) 22, ti_aload 0, ti_getP 9 13 15, ti_iload 1, ti_ald 15, ti_if (fun x => ¬ x = 0) 24], 22) := rfl
theorem cb_X9_spendOne_22 (G : jx_G) : cd_X9_spendOne G 22 = ([ti_const 0, ti_zret 0 0], 23) := rfl
theorem cb_X9_spendOne_24 (G : jx_G) : cd_X9_spendOne G 24 = ([ti_aload 0, ti_getP 9 13 15, ti_iload 1, ti_dup2, ti_ald 15, ti_const 1, ti_bin (fun x y => x - y), ti_ast 15, ti_const 1, ti_zret 0 0], 35) := rfl
theorem cb_X9_spendCut_0 (G : jx_G) : cd_X9_spendCut G 0 = ([ti_aload 0, ti_getP 9 5 0, ti_getI 0 0, ti_istore 1], 8) := rfl
theorem cb_X9_spendCut_8 (G : jx_G) : cd_X9_spendCut G 8 = ([ti_iload 1, ti_aload 0, ti_getP 9 5 0, ti_getI 0 1, ti_icmp (fun x y => y ≤ x) 49, ti_aload 0, ti_getP 9 4 8, ti_iload 1, ti_callV G m_X8_boxOn 8 1 0 0 0 0, ti_istore 2, ti_iload 2, ti_const (-1), ti_icmp (fun x y => x = y) 43, ti_aload 0, ti_iload 2, ti_callV G m_X9_spendOne 9 1 0 0 0 0, ti_if (fun x => ¬ x = 0) 43, ti_const 0, ti_zret 0 0], 42) := rfl
theorem cb_X9_spendCut_43 (G : jx_G) : cd_X9_spendCut G 43 = ([ti_iinc 1 1, ti_goto 8], 46) := rfl
theorem cb_X9_spendCut_49 (G : jx_G) : cd_X9_spendCut G 49 = ([ti_aload 0, ti_getP 9 5 0, ti_getI 0 2, ti_if (fun x => x = 0) 68, ti_aload 0, ti_const 28, ti_callV G m_X9_spendOne 9 1 0 0 0 0, ti_if (fun x => x = 0) 72], 68) := rfl
theorem cb_X9_spendCut_68 (G : jx_G) : cd_X9_spendCut G 68 = ([ti_const 1, ti_goto 73], 69) := rfl
theorem cb_X9_spendCut_72 (G : jx_G) : cd_X9_spendCut G 72 = ([ti_const 0], 73) := rfl
theorem cb_X9_spendCut_73 (G : jx_G) : cd_X9_spendCut G 73 = ([ti_zret 0 0], 73) := rfl
theorem cb_X9_ahead_0 (G : jx_G) : cd_X9_ahead G 0 = ([ti_iload 1, ti_call G m_X9_isCase 1 1 6 0 0, ti_if (fun x => ¬ x = 0) 17, ti_throw 1 1 6], 7) := rfl
theorem cb_X9_ahead_17 (G : jx_G) : cd_X9_ahead G 17 = ([ti_const 0, ti_istore 2], 19) := rfl
theorem cb_X9_ahead_19 (G : jx_G) : cd_X9_ahead G 19 = ([ti_iload 2, ti_aload 0, ti_getP 9 13 15, ti_alen 15, ti_icmp (fun x y => y ≤ x) 59, ti_aload 0, ti_iload 1, ti_iload 2, ti_callV G m_X9_pileOf 9 2 1 6 0 0, ti_astore 3, ti_aload 0, ti_getP 9 13 15, ti_iload 2, ti_aload 3, ti_ifnonnull 48, ti_const 0, ti_goto 52], 45) := rfl
theorem cb_X9_ahead_48 (G : jx_G) : cd_X9_ahead G 48 = ([ti_aload 3, ti_getI 4 2], 52) := rfl
theorem cb_X9_ahead_52 (G : jx_G) : cd_X9_ahead G 52 = ([ti_ast 15, ti_iinc 2 1, ti_goto 19], 56) := rfl
theorem cb_X9_ahead_59 (G : jx_G) : cd_X9_ahead G 59 = ([ti_const 0, ti_istore 2, ti_const 0, ti_istore 3], 63) := rfl
theorem cb_X9_ahead_63 (G : jx_G) : cd_X9_ahead G 63 = ([ti_iload 3, ti_const 60, ti_icmp (fun x y => y ≤ x) 119, ti_aload 0, ti_getP 9 4 8, ti_iload 2, ti_iload 1, ti_aload 0, ti_getI 9 6, ti_aload 0, ti_getP 9 5 0, ti_callV G m_X8_cutAt 8 4 1 6 0 0, ti_aload 0, ti_getP 9 5 0, ti_callV G m_X0_isEmpty 0 0 1 6 0 0, ti_if (fun x => ¬ x = 0) 103, ti_aload 0, ti_callV G m_X9_spendCut 9 0 1 6 0 0, ti_if (fun x => ¬ x = 0) 105], 103) := rfl
theorem cb_X9_ahead_103 (G : jx_G) : cd_X9_ahead G 103 = ([ti_iload 3, ti_iret 1 6], 104) := rfl
theorem cb_X9_ahead_105 (G : jx_G) : cd_X9_ahead G 105 = ([ti_aload 0, ti_getP 9 5 0, ti_getI 0 1, ti_istore 2, ti_iinc 3 1, ti_goto 63], 116) := rfl
theorem cb_X9_ahead_119 (G : jx_G) : cd_X9_ahead G 119 = ([ti_const 60, ti_iret 1 6], 121) := rfl
theorem cb_X10_init_0 (G : jx_G) : cd_X10_init G 0 = ([ti_aload 0, ti_oinit, ti_aload 0, ti_const 300, ti_newa 25 22 28431, ti_putP 10 2 25, ti_aload 0, ti_const 300, ti_newa 26 22 28431, ti_putP 10 3 26, ti_aload 0, ti_const 300, ti_newa 27 22 28431, ti_putP 10 4 27, ti_aload 0, ti_const 300, ti_newa 28 22 28431, ti_putP 10 5 28, ti_aload 0, ti_const 17400, ti_newa 29 22 28431, ti_putP 10 6 29, ti_aload 0, ti_const 58, ti_newa 30 22 28431, ti_putP 10 7 30, ti_aload 0, ti_const 300, ti_newa 31 22 28431, ti_putP 10 8 31, ti_aload 0, ti_const 7, ti_newa 32 22 28431, ti_putP 10 10 32, ti_aload 0, ti_const 60, ti_newa 33 22 28431, ti_putP 10 11 33, ti_aload 0, ti_const 60, ti_putI 10 13, ti_aload 0, ti_const 12, ti_newa 34 22 28431, ti_putP 10 15 34, ti_aload 0, ti_const 12, ti_newa 35 22 28431, ti_putP 10 16 35, ti_aload 0, ti_const 768, ti_newa 36 22 28431, ti_putP 10 17 36, ti_aload 0, ti_const 768, ti_newa 37 22 28431, ti_putP 10 18 37, ti_aload 0, ti_const 12, ti_newa 38 22 28431, ti_putP 10 19 38, ti_aload 0, ti_const 768, ti_newa 39 22 28431, ti_putP 10 20 39, ti_aload 0, ti_const 5376, ti_newa 40 22 28431, ti_putP 10 21 40, ti_aload 0, ti_const 12, ti_newa 41 22 28431, ti_putP 10 22 41, ti_aload 0, ti_const 12, ti_newa 42 22 28431, ti_putP 10 23 42, ti_aload 0, ti_const 4, ti_newa 43 22 28431, ti_putP 10 25 43, ti_aload 0, ti_const 4, ti_newa 44 22 28431, ti_putP 10 26 44, ti_aload 0, ti_const 1600, ti_newa 45 22 28431, ti_putP 10 27 45, ti_aload 0, ti_const 58, ti_newa 46 22 28431, ti_putP 10 32 46, ti_vret 22 28431], 195) := rfl
theorem cb_X10_thrown_0 (G : jx_G) : cd_X10_thrown G 0 = ([ti_aload 0, ti_getI 10 0, ti_iret 0 0], 4) := rfl
theorem cb_X10_refused_0 (G : jx_G) : cd_X10_refused G 0 = ([ti_aload 0, ti_iload 1, ti_putI 10 0, ti_iload 1, ti_if (fun x => x = 0) 13, ti_const 1, ti_goto 14], 10) := rfl
theorem cb_X10_refused_13 (G : jx_G) : cd_X10_refused G 13 = ([ti_const 0], 14) := rfl
theorem cb_X10_refused_14 (G : jx_G) : cd_X10_refused G 14 = ([ti_zret 0 0], 14) := rfl
theorem cb_X10_within_0 (G : jx_G) : cd_X10_within G 0 = ([ti_iload 0, ti_iload 1, ti_icmp (fun x y => x < y) 14, ti_iload 0, ti_iload 2, ti_icmp (fun x y => y < x) 14, ti_const 1, ti_goto 15], 11) := rfl
theorem cb_X10_within_14 (G : jx_G) : cd_X10_within G 14 = ([ti_const 0], 15) := rfl
theorem cb_X10_within_15 (G : jx_G) : cd_X10_within G 15 = ([ti_zret 0 0], 15) := rfl
theorem cb_X10_isBox_0 (G : jx_G) : cd_X10_isBox G 0 = ([ti_iload 0, ti_const 0, ti_const 1, ti_call G m_X10_within 3 0 0 0 0, ti_if (fun x => x = 0) 23, ti_iload 1, ti_const 0, ti_const 28, ti_call G m_X10_within 3 0 0 0 0, ti_if (fun x => x = 0) 23, ti_const 1, ti_goto 24], 20) := rfl
theorem cb_X10_isBox_23 (G : jx_G) : cd_X10_isBox G 23 = ([ti_const 0], 24) := rfl
theorem cb_X10_isBox_24 (G : jx_G) : cd_X10_isBox G 24 = ([ti_zret 0 0], 24) := rfl
theorem cb_X10_isLine_0 (G : jx_G) : cd_X10_isLine G 0 = ([ti_iload 1, ti_const 0, ti_aload 0, ti_getI 10 14, ti_const 1, ti_bin (fun x y => x - y), ti_call G m_X10_within 3 0 0 0 0, ti_zret 0 0], 11) := rfl
theorem cb_X10_isUnits_0 (G : jx_G) : cd_X10_isUnits G 0 = ([ti_iload 0, ti_const 1, ti_const 6, ti_call G m_X10_within 3 0 0 0 0, ti_if (fun x => x = 0) 19, ti_iload 0, ti_const 5, ti_icmp (fun x y => x = y) 19, ti_const 1, ti_goto 20], 16) := rfl
theorem cb_X10_isUnits_19 (G : jx_G) : cd_X10_isUnits G 19 = ([ti_const 0], 20) := rfl
theorem cb_X10_isUnits_20 (G : jx_G) : cd_X10_isUnits G 20 = ([ti_zret 0 0], 20) := rfl
theorem cb_X10_widthOf_0 (G : jx_G) : cd_X10_widthOf G 0 = ([ti_iload 0, ti_const 29, ti_rem, ti_istore 1, ti_iload 1, ti_const 8, ti_icmp (fun x y => x = y) 29, ti_iload 1, ti_const 9, ti_icmp (fun x y => x = y) 29, ti_iload 1, ti_const 11, ti_icmp (fun x y => x = y) 29, ti_iload 1, ti_const 25, ti_icmp (fun x y => x ≤ y) 33], 29) := rfl
theorem cb_X10_widthOf_29 (G : jx_G) : cd_X10_widthOf G 29 = ([ti_const 1, ti_goto 34], 30) := rfl
theorem cb_X10_widthOf_33 (G : jx_G) : cd_X10_widthOf G 33 = ([ti_const 0], 34) := rfl
theorem cb_X10_widthOf_34 (G : jx_G) : cd_X10_widthOf G 34 = ([ti_istore 2, ti_iload 1, ti_const 17, ti_icmp (fun x y => x = y) 58, ti_iload 1, ti_const 18, ti_icmp (fun x y => x = y) 58, ti_iload 1, ti_const 19, ti_icmp (fun x y => x = y) 58, ti_iload 1, ti_const 5, ti_icmp (fun x y => ¬ x = y) 62], 58) := rfl
theorem cb_X10_widthOf_58 (G : jx_G) : cd_X10_widthOf G 58 = ([ti_const 1, ti_goto 63], 59) := rfl
theorem cb_X10_widthOf_62 (G : jx_G) : cd_X10_widthOf G 62 = ([ti_const 0], 63) := rfl
theorem cb_X10_widthOf_63 (G : jx_G) : cd_X10_widthOf G 63 = ([ti_istore 3, ti_iload 1, ti_const 12, ti_icmp (fun x y => x = y) 76, ti_iload 1, ti_const 22, ti_icmp (fun x y => ¬ x = y) 80], 76) := rfl
theorem cb_X10_widthOf_76 (G : jx_G) : cd_X10_widthOf G 76 = ([ti_const 1, ti_goto 81], 77) := rfl
theorem cb_X10_widthOf_80 (G : jx_G) : cd_X10_widthOf G 80 = ([ti_const 0], 81) := rfl
theorem cb_X10_widthOf_81 (G : jx_G) : cd_X10_widthOf G 81 = ([ti_istore 4, ti_iload 2, ti_if (fun x => x = 0) 91, ti_const 2, ti_goto 110], 88) := rfl
theorem cb_X10_widthOf_91 (G : jx_G) : cd_X10_widthOf G 91 = ([ti_iload 3, ti_if (fun x => x = 0) 99, ti_const 3, ti_goto 110], 96) := rfl
theorem cb_X10_widthOf_99 (G : jx_G) : cd_X10_widthOf G 99 = ([ti_iload 4, ti_if (fun x => x = 0) 109, ti_const 6, ti_goto 110], 106) := rfl
theorem cb_X10_widthOf_109 (G : jx_G) : cd_X10_widthOf G 109 = ([ti_const 4], 110) := rfl
theorem cb_X10_widthOf_110 (G : jx_G) : cd_X10_widthOf G 110 = ([ti_iload 0, ti_const 29, ti_div, ti_bin (fun x y => x + y), ti_iret 0 0], 115) := rfl
theorem cb_X10_boxOf_0 (G : jx_G) : cd_X10_boxOf G 0 = ([ti_iload 0, ti_const 46, ti_icmp (fun x y => ¬ x = y) 11, ti_const 26, ti_goto 37], 8) := rfl
theorem cb_X10_boxOf_11 (G : jx_G) : cd_X10_boxOf G 11 = ([ti_iload 0, ti_const 44, ti_icmp (fun x y => ¬ x = y) 22, ti_const 27, ti_goto 37], 19) := rfl
theorem cb_X10_boxOf_22 (G : jx_G) : cd_X10_boxOf G 22 = ([ti_iload 0, ti_const 45, ti_icmp (fun x y => ¬ x = y) 33, ti_const 28, ti_goto 37], 30) := rfl
theorem cb_X10_boxOf_33 (G : jx_G) : cd_X10_boxOf G 33 = ([ti_iload 0, ti_const 97, ti_bin (fun x y => x - y)], 37) := rfl
theorem cb_X10_boxOf_37 (G : jx_G) : cd_X10_boxOf G 37 = ([ti_iret 0 0], 37) := rfl
theorem cb_X10_signOf_0 (G : jx_G) : cd_X10_signOf G 0 = ([ti_iload 0, ti_const 29, ti_rem, ti_istore 1, ti_iload 1, ti_const 26, ti_icmp (fun x y => ¬ x = y) 16, ti_const 46, ti_goto 43], 13) := rfl
theorem cb_X10_signOf_16 (G : jx_G) : cd_X10_signOf G 16 = ([ti_iload 1, ti_const 27, ti_icmp (fun x y => ¬ x = y) 27, ti_const 44, ti_goto 43], 24) := rfl
theorem cb_X10_signOf_27 (G : jx_G) : cd_X10_signOf G 27 = ([ti_iload 1, ti_const 28, ti_icmp (fun x y => ¬ x = y) 38, ti_const 45, ti_goto 43], 35) := rfl
theorem cb_X10_signOf_38 (G : jx_G) : cd_X10_signOf G 38 = ([ti_const 97, ti_iload 1, ti_bin (fun x y => x + y), ti_i2c], 43) := rfl
theorem cb_X10_signOf_43 (G : jx_G) : cd_X10_signOf G 43 = ([ti_cret 0 0], 43) := rfl
theorem cb_X10_putOn_0 (G : jx_G) : cd_X10_putOn G 0 = ([ti_aload 0, ti_getP 10 6 29, ti_const 300, ti_iload 1, ti_bin (fun x y => x * y), ti_aload 0, ti_getP 10 7 30, ti_iload 1, ti_ald 30, ti_bin (fun x y => x + y), ti_iload 2, ti_ast 29, ti_aload 0, ti_getP 10 7 30, ti_iload 1, ti_dup2, ti_ald 30, ti_const 1, ti_bin (fun x y => x + y), ti_ast 30, ti_aload 0, ti_getP 10 4 27, ti_iload 2, ti_const 0, ti_ast 27, ti_aload 0, ti_getP 10 5 28, ti_iload 2, ti_const 0, ti_astZ 28, ti_vret 0 0], 42) := rfl
theorem cb_X10_putHome_0 (G : jx_G) : cd_X10_putHome G 0 = ([ti_aload 0, ti_getP 10 5 28, ti_iload 1, ti_const 0, ti_astZ 28, ti_aload 0, ti_getP 10 3 26, ti_iload 1, ti_ald 26, ti_const 12, ti_icmp (fun x y => x < y) 27, ti_aload 0, ti_getP 10 4 27, ti_iload 1, ti_const 3, ti_ast 27, ti_const 0, ti_zret 0 0], 26) := rfl
theorem cb_X10_putHome_27 (G : jx_G) : cd_X10_putHome G 27 = ([ti_aload 0, ti_aload 0, ti_getP 10 2 25, ti_iload 1, ti_ald 25, ti_iload 1, ti_callV G m_X10_putOn 10 2 0 0 0 0, ti_const 1, ti_zret 0 0], 39) := rfl
theorem cb_X10_takeFrom_0 (G : jx_G) : cd_X10_takeFrom G 0 = ([ti_aload 0, ti_getP 10 7 30, ti_iload 1, ti_dup2, ti_ald 30, ti_const 1, ti_bin (fun x y => x - y), ti_ast 30, ti_aload 0, ti_getP 10 6 29, ti_const 300, ti_iload 1, ti_bin (fun x y => x * y), ti_aload 0, ti_getP 10 7 30, ti_iload 1, ti_ald 30, ti_bin (fun x y => x + y), ti_ald 29, ti_iret 0 0], 27) := rfl
theorem cb_X10_topOf_0 (G : jx_G) : cd_X10_topOf G 0 = ([ti_aload 0, ti_getP 10 7 30, ti_iload 1, ti_ald 30, ti_if (fun x => ¬ x = 0) 13, ti_const (-1), ti_goto 32], 10) := rfl
theorem cb_X10_topOf_13 (G : jx_G) : cd_X10_topOf G 13 = ([ti_aload 0, ti_getP 10 6 29, ti_const 300, ti_iload 1, ti_bin (fun x y => x * y), ti_aload 0, ti_getP 10 7 30, ti_iload 1, ti_ald 30, ti_bin (fun x y => x + y), ti_const 1, ti_bin (fun x y => x - y), ti_ald 29], 32) := rfl
theorem cb_X10_topOf_32 (G : jx_G) : cd_X10_topOf G 32 = ([ti_iret 0 0], 32) := rfl
theorem cb_X10_putToHeap_0 (G : jx_G) : cd_X10_putToHeap G 0 = ([ti_aload 0, ti_getP 10 8 31, ti_aload 0, ti_getI 10 9, ti_iload 1, ti_ast 31, ti_aload 0, ti_dup, ti_getI 10 9, ti_const 1, ti_bin (fun x y => x + y), ti_putI 10 9, ti_aload 0, ti_getP 10 4 27, ti_iload 1, ti_const 2, ti_ast 27, ti_aload 0, ti_getP 10 5 28, ti_iload 1, ti_const 0, ti_astZ 28, ti_vret 0 0], 34) := rfl
theorem cb_X10_takeOfHeap_0 (G : jx_G) : cd_X10_takeOfHeap G 0 = ([ti_iload 1, ti_istore 2], 2) := rfl
theorem cb_X10_takeOfHeap_2 (G : jx_G) : cd_X10_takeOfHeap G 2 = ([ti_iload 2, ti_const 1, ti_bin (fun x y => x + y), ti_aload 0, ti_getI 10 9, ti_icmp (fun x y => y ≤ x) 32, ti_aload 0, ti_getP 10 8 31, ti_iload 2, ti_aload 0, ti_getP 10 8 31, ti_iload 2, ti_const 1, ti_bin (fun x y => x + y), ti_ald 31, ti_ast 31, ti_iinc 2 1, ti_goto 2], 29) := rfl
theorem cb_X10_takeOfHeap_32 (G : jx_G) : cd_X10_takeOfHeap G 32 = ([ti_aload 0, ti_dup, ti_getI 10 9, ti_const 1, ti_bin (fun x y => x - y), ti_putI 10 9, ti_vret 0 0], 42) := rfl
theorem cb_X10_cast_0 (G : jx_G) : cd_X10_cast G 0 = ([ti_aload 0, ti_iload 1, ti_iload 2, ti_call G m_X10_isBox 2 0 0 0 0, ti_if (fun x => ¬ x = 0) 13, ti_const 1, ti_goto 44], 10) := rfl
theorem cb_X10_cast_13 (G : jx_G) : cd_X10_cast G 13 = ([ti_iload 3, ti_const 1, ti_const 40, ti_call G m_X10_within 3 0 0 0 0, ti_if (fun x => ¬ x = 0) 27, ti_const 2, ti_goto 44], 24) := rfl
theorem cb_X10_cast_27 (G : jx_G) : cd_X10_cast G 27 = ([ti_aload 0, ti_getI 10 1, ti_iload 3, ti_bin (fun x y => x + y), ti_const 300, ti_icmp (fun x y => x ≤ y) 43, ti_const 3, ti_goto 44], 40) := rfl
theorem cb_X10_cast_43 (G : jx_G) : cd_X10_cast G 43 = ([ti_const 0], 44) := rfl
theorem cb_X10_cast_44 (G : jx_G) : cd_X10_cast G 44 = ([ti_callV G m_X10_refused 10 1 0 0 0 0, ti_if (fun x => x = 0) 52, ti_const 0, ti_iret 0 0], 51) := rfl
theorem cb_X10_cast_52 (G : jx_G) : cd_X10_cast G 52 = ([ti_const 0, ti_istore 4], 55) := rfl
theorem cb_X10_cast_55 (G : jx_G) : cd_X10_cast G 55 = ([ti_iload 4, ti_iload 3, ti_icmp (fun x y => y ≤ x) 106, ti_aload 0, ti_getP 10 2 25, ti_aload 0, ti_getI 10 1, ti_const 29, ti_iload 1, ti_bin (fun x y => x * y), ti_iload 2, ti_bin (fun x y => x + y), ti_ast 25, ti_aload 0, ti_const 29, ti_iload 1, ti_bin (fun x y => x * y), ti_iload 2, ti_bin (fun x y => x + y), ti_aload 0, ti_getI 10 1, ti_callV G m_X10_putOn 10 2 0 0 0 0, ti_aload 0, ti_dup, ti_getI 10 1, ti_const 1, ti_bin (fun x y => x + y), ti_putI 10 1, ti_iinc 4 1, ti_goto 55], 103) := rfl
theorem cb_X10_cast_106 (G : jx_G) : cd_X10_cast G 106 = ([ti_aload 0, ti_getI 10 1, ti_iret 0 0], 110) := rfl
theorem cb_X10_spaces_0 (G : jx_G) : cd_X10_spaces G 0 = ([ti_aload 0, ti_iload 1, ti_call G m_X10_isUnits 1 0 0 0 0, ti_if (fun x => x = 0) 18, ti_iload 2, ti_const 1, ti_const 100, ti_call G m_X10_within 3 0 0 0 0, ti_if (fun x => ¬ x = 0) 22], 18) := rfl
theorem cb_X10_spaces_18 (G : jx_G) : cd_X10_spaces G 18 = ([ti_const 1, ti_goto 41], 19) := rfl
theorem cb_X10_spaces_22 (G : jx_G) : cd_X10_spaces G 22 = ([ti_aload 0, ti_getP 10 10 32, ti_iload 1, ti_ald 32, ti_iload 2, ti_bin (fun x y => x + y), ti_const 1000, ti_icmp (fun x y => x ≤ y) 40, ti_const 2, ti_goto 41], 37) := rfl
theorem cb_X10_spaces_40 (G : jx_G) : cd_X10_spaces G 40 = ([ti_const 0], 41) := rfl
theorem cb_X10_spaces_41 (G : jx_G) : cd_X10_spaces G 41 = ([ti_callV G m_X10_refused 10 1 0 0 0 0, ti_if (fun x => x = 0) 49, ti_const 0, ti_iret 0 0], 48) := rfl
theorem cb_X10_spaces_49 (G : jx_G) : cd_X10_spaces G 49 = ([ti_aload 0, ti_getP 10 10 32, ti_iload 1, ti_dup2, ti_ald 32, ti_iload 2, ti_bin (fun x y => x + y), ti_ast 32, ti_aload 0, ti_getP 10 10 32, ti_iload 1, ti_ald 32, ti_iret 0 0], 65) := rfl
theorem cb_X10_type_0 (G : jx_G) : cd_X10_type G 0 = ([ti_iload 1, ti_const 97, ti_icmp (fun x y => x < y) 12, ti_iload 1, ti_const 122, ti_icmp (fun x y => x ≤ y) 36], 12) := rfl
theorem cb_X10_type_12 (G : jx_G) : cd_X10_type G 12 = ([ti_iload 1, ti_const 32, ti_icmp (fun x y => x = y) 36, ti_iload 1, ti_const 46, ti_icmp (fun x y => x = y) 36, ti_iload 1, ti_const 44, ti_icmp (fun x y => x = y) 36, ti_iload 1, ti_const 45, ti_icmp (fun x y => ¬ x = y) 40], 36) := rfl
theorem cb_X10_type_36 (G : jx_G) : cd_X10_type G 36 = ([ti_const 1, ti_goto 41], 37) := rfl
theorem cb_X10_type_40 (G : jx_G) : cd_X10_type G 40 = ([ti_const 0], 41) := rfl
theorem cb_X10_type_41 (G : jx_G) : cd_X10_type G 41 = ([ti_istore 2, ti_aload 0, ti_iload 2, ti_if (fun x => ¬ x = 0) 51, ti_const 1, ti_goto 65], 48) := rfl
theorem cb_X10_type_51 (G : jx_G) : cd_X10_type G 51 = ([ti_aload 0, ti_getI 10 12, ti_const 60, ti_icmp (fun x y => ¬ x = y) 64, ti_const 2, ti_goto 65], 61) := rfl
theorem cb_X10_type_64 (G : jx_G) : cd_X10_type G 64 = ([ti_const 0], 65) := rfl
theorem cb_X10_type_65 (G : jx_G) : cd_X10_type G 65 = ([ti_callV G m_X10_refused 10 1 0 0 0 0, ti_if (fun x => x = 0) 73, ti_const 0, ti_iret 0 0], 72) := rfl
theorem cb_X10_type_73 (G : jx_G) : cd_X10_type G 73 = ([ti_aload 0, ti_getP 10 11 33, ti_aload 0, ti_getI 10 12, ti_iload 1, ti_astC 33, ti_aload 0, ti_dup, ti_getI 10 12, ti_const 1, ti_bin (fun x y => x + y), ti_putI 10 12, ti_aload 0, ti_getI 10 12, ti_iret 0 0], 97) := rfl
theorem cb_X10_clear_0 (G : jx_G) : cd_X10_clear G 0 = ([ti_aload 0, ti_const 0, ti_putI 10 0, ti_aload 0, ti_getI 10 12, ti_istore 1, ti_aload 0, ti_const 0, ti_putI 10 12, ti_iload 1, ti_iret 0 0], 16) := rfl
theorem cb_X10_measure_0 (G : jx_G) : cd_X10_measure G 0 = ([ti_aload 0, ti_iload 1, ti_const 20, ti_const 200, ti_call G m_X10_within 3 0 0 0 0, ti_if (fun x => ¬ x = 0) 17, ti_const 1, ti_goto 29], 14) := rfl
theorem cb_X10_measure_17 (G : jx_G) : cd_X10_measure G 17 = ([ti_aload 0, ti_getI 10 14, ti_if (fun x => x ≤ 0) 28, ti_const 2, ti_goto 29], 25) := rfl
theorem cb_X10_measure_28 (G : jx_G) : cd_X10_measure G 28 = ([ti_const 0], 29) := rfl
theorem cb_X10_measure_29 (G : jx_G) : cd_X10_measure G 29 = ([ti_callV G m_X10_refused 10 1 0 0 0 0, ti_if (fun x => x = 0) 37, ti_const 0, ti_iret 0 0], 36) := rfl
theorem cb_X10_measure_37 (G : jx_G) : cd_X10_measure G 37 = ([ti_aload 0, ti_getI 10 13, ti_istore 2, ti_aload 0, ti_iload 1, ti_putI 10 13, ti_iload 2, ti_iret 0 0], 48) := rfl
theorem cb_X10_behindBlanks_0 (G : jx_G) : cd_X10_behindBlanks G 0 = ([ti_iload 1, ti_istore 2], 2) := rfl
theorem cb_X10_behindBlanks_2 (G : jx_G) : cd_X10_behindBlanks G 2 = ([ti_iload 2, ti_aload 0, ti_getI 10 12, ti_icmp (fun x y => y ≤ x) 27, ti_aload 0, ti_getP 10 11 33, ti_iload 2, ti_ald 33, ti_const 32, ti_icmp (fun x y => ¬ x = y) 27, ti_iinc 2 1, ti_goto 2], 24) := rfl
theorem cb_X10_behindBlanks_27 (G : jx_G) : cd_X10_behindBlanks G 27 = ([ti_iload 2, ti_iret 0 0], 28) := rfl
theorem cb_X10_behindWord_0 (G : jx_G) : cd_X10_behindWord G 0 = ([ti_iload 1, ti_istore 2], 2) := rfl
theorem cb_X10_behindWord_2 (G : jx_G) : cd_X10_behindWord G 2 = ([ti_iload 2, ti_aload 0, ti_getI 10 12, ti_icmp (fun x y => y ≤ x) 27, ti_aload 0, ti_getP 10 11 33, ti_iload 2, ti_ald 33, ti_const 32, ti_icmp (fun x y => x = y) 27, ti_iinc 2 1, ti_goto 2], 24) := rfl
theorem cb_X10_behindWord_27 (G : jx_G) : cd_X10_behindWord G 27 = ([ti_iload 2, ti_iret 0 0], 28) := rfl
theorem cb_X10_widthOfSigns_0 (G : jx_G) : cd_X10_widthOfSigns G 0 = ([ti_const 0, ti_istore 4, ti_iload 1, ti_istore 5], 6) := rfl
theorem cb_X10_widthOfSigns_6 (G : jx_G) : cd_X10_widthOfSigns G 6 = ([ti_iload 5, ti_iload 2, ti_icmp (fun x y => y ≤ x) 41, ti_iload 4, ti_const 29, ti_iload 3, ti_bin (fun x y => x * y), ti_aload 0, ti_getP 10 11 33, ti_iload 5, ti_ald 33, ti_call G m_X10_boxOf 1 0 0 0 0, ti_bin (fun x y => x + y), ti_call G m_X10_widthOf 1 0 0 0 0, ti_bin (fun x y => x + y), ti_istore 4, ti_iinc 5 1, ti_goto 6], 38) := rfl
theorem cb_X10_widthOfSigns_41 (G : jx_G) : cd_X10_widthOfSigns G 41 = ([ti_iload 4, ti_iret 0 0], 43) := rfl
theorem cb_X10_findLine_0 (G : jx_G) : cd_X10_findLine G 0 = ([ti_aload 0, ti_aload 0, ti_iload 1, ti_callV G m_X10_behindBlanks 10 1 0 0 0 0, ti_putI 10 29, ti_aload 0, ti_aload 0, ti_aload 0, ti_getI 10 29, ti_callV G m_X10_behindWord 10 1 0 0 0 0, ti_putI 10 30, ti_aload 0, ti_const 0, ti_putZ 10 31, ti_aload 0, ti_getI 10 29, ti_aload 0, ti_getI 10 30, ti_icmp (fun x y => ¬ x = y) 39, ti_const 0, ti_zret 0 0], 38) := rfl
theorem cb_X10_findLine_39 (G : jx_G) : cd_X10_findLine G 39 = ([ti_aload 0, ti_aload 0, ti_getI 10 29, ti_aload 0, ti_getI 10 30, ti_iload 2, ti_callV G m_X10_widthOfSigns 10 3 0 0 0 0, ti_istore 3, ti_iload 3, ti_aload 0, ti_getI 10 13, ti_icmp (fun x y => x ≤ y) 130, ti_aload 0, ti_const 1, ti_putZ 10 31, ti_aload 0, ti_getI 10 29, ti_const 1, ti_bin (fun x y => x + y), ti_istore 4], 74) := rfl
theorem cb_X10_findLine_74 (G : jx_G) : cd_X10_findLine G 74 = ([ti_iload 4, ti_const 1, ti_bin (fun x y => x + y), ti_aload 0, ti_getI 10 30, ti_icmp (fun x y => y ≤ x) 122, ti_aload 0, ti_aload 0, ti_getI 10 29, ti_iload 4, ti_const 1, ti_bin (fun x y => x + y), ti_iload 2, ti_callV G m_X10_widthOfSigns 10 3 0 0 0 0, ti_const 29, ti_iload 2, ti_bin (fun x y => x * y), ti_const 28, ti_bin (fun x y => x + y), ti_call G m_X10_widthOf 1 0 0 0 0, ti_bin (fun x y => x + y), ti_aload 0, ti_getI 10 13, ti_icmp (fun x y => y < x) 122, ti_iinc 4 1, ti_goto 74], 119) := rfl
theorem cb_X10_findLine_122 (G : jx_G) : cd_X10_findLine G 122 = ([ti_aload 0, ti_iload 4, ti_putI 10 30, ti_const 1, ti_zret 0 0], 129) := rfl
theorem cb_X10_findLine_130 (G : jx_G) : cd_X10_findLine G 130 = ([ti_const 1, ti_istore 4], 133) := rfl
theorem cb_X10_findLine_133 (G : jx_G) : cd_X10_findLine G 133 = ([ti_iload 4, ti_if (fun x => x = 0) 227, ti_aload 0, ti_aload 0, ti_getI 10 30, ti_callV G m_X10_behindBlanks 10 1 0 0 0 0, ti_istore 5, ti_aload 0, ti_iload 5, ti_callV G m_X10_behindWord 10 1 0 0 0 0, ti_istore 6, ti_iload 3, ti_const 3, ti_bin (fun x y => x + y), ti_aload 0, ti_iload 5, ti_iload 6, ti_iload 2, ti_callV G m_X10_widthOfSigns 10 3 0 0 0 0, ti_bin (fun x y => x + y), ti_istore 7, ti_iload 5, ti_iload 6, ti_icmp (fun x y => y ≤ x) 191, ti_iload 7, ti_aload 0, ti_getI 10 13, ti_icmp (fun x y => y < x) 191, ti_const 1, ti_goto 192], 188) := rfl
theorem cb_X10_findLine_191 (G : jx_G) : cd_X10_findLine G 191 = ([ti_const 0], 192) := rfl
theorem cb_X10_findLine_192 (G : jx_G) : cd_X10_findLine G 192 = ([ti_istore 4, ti_iload 4, ti_if (fun x => x = 0) 204, ti_iload 7, ti_goto 205], 201) := rfl
theorem cb_X10_findLine_204 (G : jx_G) : cd_X10_findLine G 204 = ([ti_iload 3], 205) := rfl
theorem cb_X10_findLine_205 (G : jx_G) : cd_X10_findLine G 205 = ([ti_istore 3, ti_aload 0, ti_iload 4, ti_if (fun x => x = 0) 217, ti_iload 6, ti_goto 221], 214) := rfl
theorem cb_X10_findLine_217 (G : jx_G) : cd_X10_findLine G 217 = ([ti_aload 0, ti_getI 10 30], 221) := rfl
theorem cb_X10_findLine_221 (G : jx_G) : cd_X10_findLine G 221 = ([ti_putI 10 30, ti_goto 133], 224) := rfl
theorem cb_X10_findLine_227 (G : jx_G) : cd_X10_findLine G 227 = ([ti_const 1, ti_zret 0 0], 228) := rfl
theorem cb_X10_pick_0 (G : jx_G) : cd_X10_pick G 0 = ([ti_aload 0, ti_getP 10 7 30, ti_iload 1, ti_ald 30, ti_if (fun x => x ≤ 0) 15, ti_aload 0, ti_iload 1, ti_callV G m_X10_takeFrom 10 1 0 0 0 0, ti_iret 0 0], 14) := rfl
theorem cb_X10_pick_15 (G : jx_G) : cd_X10_pick G 15 = ([ti_const (-1), ti_istore 4, ti_const 29, ti_iload 2, ti_bin (fun x y => x * y), ti_istore 5], 24) := rfl
theorem cb_X10_pick_24 (G : jx_G) : cd_X10_pick G 24 = ([ti_iload 5, ti_const 29, ti_iload 2, ti_bin (fun x y => x * y), ti_const 29, ti_bin (fun x y => x + y), ti_icmp (fun x y => y ≤ x) 121, ti_iload 3, ti_if (fun x => x = 0) 121, ti_aload 0, ti_iload 5, ti_callV G m_X10_topOf 10 1 0 0 0 0, ti_istore 6, ti_iload 6, ti_const (-1), ti_icmp (fun x y => x = y) 75, ti_aload 0, ti_getP 10 2 25, ti_iload 6, ti_ald 25, ti_call G m_X10_widthOf 1 0 0 0 0, ti_iload 1, ti_call G m_X10_widthOf 1 0 0 0 0, ti_icmp (fun x y => ¬ x = y) 75, ti_const 1, ti_goto 76], 72) := rfl
theorem cb_X10_pick_75 (G : jx_G) : cd_X10_pick G 75 = ([ti_const 0], 76) := rfl
theorem cb_X10_pick_76 (G : jx_G) : cd_X10_pick G 76 = ([ti_istore 7, ti_iload 7, ti_if (fun x => x = 0) 111, ti_iload 4, ti_const (-1), ti_icmp (fun x y => x = y) 106, ti_aload 0, ti_getP 10 7 30, ti_iload 5, ti_ald 30, ti_aload 0, ti_getP 10 7 30, ti_iload 4, ti_ald 30, ti_icmp (fun x y => x ≤ y) 111], 106) := rfl
theorem cb_X10_pick_106 (G : jx_G) : cd_X10_pick G 106 = ([ti_iload 5, ti_goto 113], 108) := rfl
theorem cb_X10_pick_111 (G : jx_G) : cd_X10_pick G 111 = ([ti_iload 4], 113) := rfl
theorem cb_X10_pick_113 (G : jx_G) : cd_X10_pick G 113 = ([ti_istore 4, ti_iinc 5 1, ti_goto 24], 118) := rfl
theorem cb_X10_pick_121 (G : jx_G) : cd_X10_pick G 121 = ([ti_iload 4, ti_const (-1), ti_icmp (fun x y => ¬ x = y) 129, ti_const (-1), ti_iret 0 0], 128) := rfl
theorem cb_X10_pick_129 (G : jx_G) : cd_X10_pick G 129 = ([ti_aload 0, ti_iload 4, ti_callV G m_X10_takeFrom 10 1 0 0 0 0, ti_istore 5, ti_aload 0, ti_getP 10 5 28, ti_iload 5, ti_const 1, ti_astZ 28, ti_iload 5, ti_iret 0 0], 147) := rfl
theorem cb_X10_keepPiles_0 (G : jx_G) : cd_X10_keepPiles G 0 = ([ti_const 0, ti_istore 1], 2) := rfl
theorem cb_X10_keepPiles_2 (G : jx_G) : cd_X10_keepPiles G 2 = ([ti_iload 1, ti_const 58, ti_icmp (fun x y => y ≤ x) 26, ti_aload 0, ti_getP 10 32 46, ti_iload 1, ti_aload 0, ti_getP 10 7 30, ti_iload 1, ti_ald 30, ti_ast 46, ti_iinc 1 1, ti_goto 2], 23) := rfl
theorem cb_X10_keepPiles_26 (G : jx_G) : cd_X10_keepPiles G 26 = ([ti_vret 0 0], 26) := rfl
theorem cb_X10_bringPilesBack_0 (G : jx_G) : cd_X10_bringPilesBack G 0 = ([ti_const 0, ti_istore 1], 2) := rfl
theorem cb_X10_bringPilesBack_2 (G : jx_G) : cd_X10_bringPilesBack G 2 = ([ti_iload 1, ti_const 58, ti_icmp (fun x y => y ≤ x) 67, ti_aload 0, ti_getP 10 7 30, ti_iload 1, ti_ald 30, ti_istore 2], 15) := rfl
theorem cb_X10_bringPilesBack_15 (G : jx_G) : cd_X10_bringPilesBack G 15 = ([ti_iload 2, ti_aload 0, ti_getP 10 32 46, ti_iload 1, ti_ald 46, ti_icmp (fun x y => y ≤ x) 49, ti_aload 0, ti_getP 10 5 28, ti_aload 0, ti_getP 10 6 29, ti_const 300, ti_iload 1, ti_bin (fun x y => x * y), ti_iload 2, ti_bin (fun x y => x + y), ti_ald 29, ti_const 0, ti_astZ 28, ti_iinc 2 1, ti_goto 15], 46) := rfl
theorem cb_X10_bringPilesBack_49 (G : jx_G) : cd_X10_bringPilesBack G 49 = ([ti_aload 0, ti_getP 10 7 30, ti_iload 1, ti_aload 0, ti_getP 10 32 46, ti_iload 1, ti_ald 46, ti_ast 30, ti_iinc 1 1, ti_goto 2], 64) := rfl
theorem cb_X10_bringPilesBack_67 (G : jx_G) : cd_X10_bringPilesBack G 67 = ([ti_vret 0 0], 67) := rfl
theorem cb_X10_sortsWidth_0 (G : jx_G) : cd_X10_sortsWidth G 0 = ([ti_const 0, ti_istore 2, ti_const 0, ti_istore 3], 4) := rfl
theorem cb_X10_sortsWidth_4 (G : jx_G) : cd_X10_sortsWidth G 4 = ([ti_iload 3, ti_aload 0, ti_getP 10 16 35, ti_iload 1, ti_ald 35, ti_icmp (fun x y => y ≤ x) 42, ti_iload 2, ti_aload 0, ti_getP 10 2 25, ti_aload 0, ti_getP 10 17 36, ti_const 64, ti_iload 1, ti_bin (fun x y => x * y), ti_iload 3, ti_bin (fun x y => x + y), ti_ald 36, ti_ald 25, ti_call G m_X10_widthOf 1 0 0 0 0, ti_bin (fun x y => x + y), ti_istore 2, ti_iinc 3 1, ti_goto 4], 39) := rfl
theorem cb_X10_sortsWidth_42 (G : jx_G) : cd_X10_sortsWidth G 42 = ([ti_iload 2, ti_iret 0 0], 43) := rfl
theorem cb_X10_fillGap_0 (G : jx_G) : cd_X10_fillGap G 0 = ([ti_iload 3, ti_istore 4, ti_const 6, ti_istore 5], 7) := rfl
theorem cb_X10_fillGap_7 (G : jx_G) : cd_X10_fillGap G 7 = ([ti_iload 5, ti_if (fun x => x ≤ 0) 78], 12) := rfl
theorem cb_X10_fillGap_12 (G : jx_G) : cd_X10_fillGap G 12 = ([ti_iload 5, ti_iload 4, ti_icmp (fun x y => y < x) 72, ti_aload 0, ti_getP 10 10 32, ti_iload 5, ti_ald 32, ti_if (fun x => x ≤ 0) 72, ti_aload 0, ti_getP 10 10 32, ti_iload 5, ti_dup2, ti_ald 32, ti_const 1, ti_bin (fun x y => x - y), ti_ast 32, ti_aload 0, ti_getP 10 21 40, ti_const 448, ti_iload 1, ti_bin (fun x y => x * y), ti_const 7, ti_iload 2, ti_bin (fun x y => x * y), ti_bin (fun x y => x + y), ti_iload 5, ti_bin (fun x y => x + y), ti_dup2, ti_ald 40, ti_const 1, ti_bin (fun x y => x + y), ti_ast 40, ti_iload 4, ti_iload 5, ti_bin (fun x y => x - y), ti_istore 4, ti_goto 12], 69) := rfl
theorem cb_X10_fillGap_72 (G : jx_G) : cd_X10_fillGap G 72 = ([ti_iinc 5 (-1), ti_goto 7], 75) := rfl
theorem cb_X10_fillGap_78 (G : jx_G) : cd_X10_fillGap G 78 = ([ti_vret 0 0], 78) := rfl
theorem cb_X10_fill_0 (G : jx_G) : cd_X10_fill G 0 = ([ti_const 448, ti_iload 1, ti_bin (fun x y => x * y), ti_istore 2], 6) := rfl
theorem cb_X10_fill_6 (G : jx_G) : cd_X10_fill G 6 = ([ti_iload 2, ti_const 448, ti_iload 1, ti_bin (fun x y => x * y), ti_const 7, ti_aload 0, ti_getP 10 19 38, ti_iload 1, ti_ald 38, ti_bin (fun x y => x * y), ti_bin (fun x y => x + y), ti_const 7, ti_bin (fun x y => x + y), ti_icmp (fun x y => y ≤ x) 41, ti_aload 0, ti_getP 10 21 40, ti_iload 2, ti_const 0, ti_ast 40, ti_iinc 2 1, ti_goto 6], 38) := rfl
theorem cb_X10_fill_41 (G : jx_G) : cd_X10_fill G 41 = ([ti_aload 0, ti_getI 10 13, ti_aload 0, ti_iload 1, ti_callV G m_X10_sortsWidth 10 1 0 0 0 0, ti_bin (fun x y => x - y), ti_istore 2, ti_iload 2, ti_if (fun x => 0 ≤ x) 57, ti_vret 0 0], 56) := rfl
theorem cb_X10_fill_57 (G : jx_G) : cd_X10_fill G 57 = ([ti_aload 0, ti_getP 10 19 38, ti_iload 1, ti_ald 38, ti_istore 3, ti_iload 3, ti_if (fun x => x ≤ 0) 84, ti_iload 2, ti_iload 3, ti_bin (fun x y => x + y), ti_const 1, ti_bin (fun x y => x - y), ti_iload 3, ti_div, ti_const 12, ti_icmp (fun x y => x ≤ y) 84, ti_const 1, ti_goto 85], 81) := rfl
theorem cb_X10_fill_84 (G : jx_G) : cd_X10_fill G 84 = ([ti_const 0], 85) := rfl
theorem cb_X10_fill_85 (G : jx_G) : cd_X10_fill G 85 = ([ti_istore 4, ti_aload 0, ti_getP 10 22 41, ti_iload 1, ti_ald 41, ti_if (fun x => ¬ x = 0) 101, ti_iload 4, ti_if (fun x => x = 0) 112], 101) := rfl
theorem cb_X10_fill_101 (G : jx_G) : cd_X10_fill G 101 = ([ti_iload 2, ti_const 3, ti_iload 3, ti_bin (fun x y => x * y), ti_icmp (fun x y => x < y) 112, ti_const 1, ti_goto 113], 109) := rfl
theorem cb_X10_fill_112 (G : jx_G) : cd_X10_fill G 112 = ([ti_const 0], 113) := rfl
theorem cb_X10_fill_113 (G : jx_G) : cd_X10_fill G 113 = ([ti_istore 5, ti_const 0, ti_istore 6], 118) := rfl
theorem cb_X10_fill_118 (G : jx_G) : cd_X10_fill G 118 = ([ti_iload 6, ti_iload 3, ti_icmp (fun x y => y ≤ x) 163, ti_aload 0, ti_iload 1, ti_iload 6, ti_iload 5, ti_if (fun x => x = 0) 137, ti_const 3, ti_goto 154], 134) := rfl
theorem cb_X10_fill_137 (G : jx_G) : cd_X10_fill G 137 = ([ti_iload 2, ti_iload 3, ti_div, ti_iload 6, ti_iload 2, ti_iload 3, ti_rem, ti_icmp (fun x y => y ≤ x) 152, ti_const 1, ti_goto 153], 149) := rfl
theorem cb_X10_fill_152 (G : jx_G) : cd_X10_fill G 152 = ([ti_const 0], 153) := rfl
theorem cb_X10_fill_153 (G : jx_G) : cd_X10_fill G 153 = ([ti_bin (fun x y => x + y)], 154) := rfl
theorem cb_X10_fill_154 (G : jx_G) : cd_X10_fill G 154 = ([ti_callV G m_X10_fillGap 10 3 0 0 0 0, ti_iinc 6 1, ti_goto 118], 160) := rfl
theorem cb_X10_fill_163 (G : jx_G) : cd_X10_fill G 163 = ([ti_aload 0, ti_iload 1, ti_iload 3, ti_iload 3, ti_if (fun x => ¬ x = 0) 174, ti_iload 2, ti_goto 188], 171) := rfl
theorem cb_X10_fill_174 (G : jx_G) : cd_X10_fill G 174 = ([ti_iload 5, ti_if (fun x => x = 0) 187, ti_iload 2, ti_const 3, ti_iload 3, ti_bin (fun x y => x * y), ti_bin (fun x y => x - y), ti_goto 188], 184) := rfl
theorem cb_X10_fill_187 (G : jx_G) : cd_X10_fill G 187 = ([ti_const 0], 188) := rfl
theorem cb_X10_fill_188 (G : jx_G) : cd_X10_fill G 188 = ([ti_callV G m_X10_fillGap 10 3 0 0 0 0, ti_vret 0 0], 191) := rfl
theorem cb_X10_set_0 (G : jx_G) : cd_X10_set G 0 = ([ti_aload 0, ti_iload 1, ti_const 0, ti_const 1, ti_call G m_X10_within 3 0 0 0 0, ti_if (fun x => ¬ x = 0) 14, ti_const 1, ti_goto 37], 11) := rfl
theorem cb_X10_set_14 (G : jx_G) : cd_X10_set G 14 = ([ti_aload 0, ti_const 0, ti_iload 1, ti_callV G m_X10_findLine 10 2 0 0 0 0, ti_if (fun x => x = 0) 32, ti_aload 0, ti_getI 10 14, ti_const 12, ti_icmp (fun x y => ¬ x = y) 36], 32) := rfl
theorem cb_X10_set_32 (G : jx_G) : cd_X10_set G 32 = ([ti_const 2, ti_goto 37], 33) := rfl
theorem cb_X10_set_36 (G : jx_G) : cd_X10_set G 36 = ([ti_const 0], 37) := rfl
theorem cb_X10_set_37 (G : jx_G) : cd_X10_set G 37 = ([ti_callV G m_X10_refused 10 1 0 0 0 0, ti_if (fun x => x = 0) 45, ti_const 0, ti_iret 0 0], 44) := rfl
theorem cb_X10_set_45 (G : jx_G) : cd_X10_set G 45 = ([ti_aload 0, ti_callV G m_X10_keepPiles 10 0 0 0 0 0, ti_aload 0, ti_getI 10 14, ti_istore 3, ti_aload 0, ti_getP 10 16 35, ti_iload 3, ti_const 0, ti_ast 35, ti_aload 0, ti_getP 10 19 38, ti_iload 3, ti_const 0, ti_ast 38, ti_aload 0, ti_getI 10 31, ti_if (fun x => x = 0) 84, ti_aload 0, ti_getI 10 30, ti_const 1, ti_bin (fun x y => x + y), ti_goto 88], 81) := rfl
theorem cb_X10_set_84 (G : jx_G) : cd_X10_set G 84 = ([ti_aload 0, ti_getI 10 30], 88) := rfl
theorem cb_X10_set_88 (G : jx_G) : cd_X10_set G 88 = ([ti_istore 4, ti_aload 0, ti_getI 10 29, ti_istore 5], 96) := rfl
theorem cb_X10_set_96 (G : jx_G) : cd_X10_set G 96 = ([ti_iload 5, ti_iload 4, ti_icmp (fun x y => y ≤ x) 291, ti_iload 5, ti_aload 0, ti_getI 10 30, ti_icmp (fun x y => ¬ x = y) 117, ti_const 45, ti_goto 124], 114) := rfl
theorem cb_X10_set_117 (G : jx_G) : cd_X10_set G 117 = ([ti_aload 0, ti_getP 10 11 33, ti_iload 5, ti_ald 33], 124) := rfl
theorem cb_X10_set_124 (G : jx_G) : cd_X10_set G 124 = ([ti_istore 6, ti_iload 6, ti_const 32, ti_icmp (fun x y => ¬ x = y) 198, ti_aload 0, ti_getP 10 11 33, ti_iload 5, ti_const 1, ti_bin (fun x y => x - y), ti_ald 33, ti_const 32, ti_icmp (fun x y => x = y) 151, ti_const 1, ti_goto 152], 148) := rfl
theorem cb_X10_set_151 (G : jx_G) : cd_X10_set G 151 = ([ti_const 0], 152) := rfl
theorem cb_X10_set_152 (G : jx_G) : cd_X10_set G 152 = ([ti_istore 7, ti_aload 0, ti_getP 10 20 39, ti_const 64, ti_iload 3, ti_bin (fun x y => x * y), ti_aload 0, ti_getP 10 19 38, ti_iload 3, ti_ald 38, ti_bin (fun x y => x + y), ti_aload 0, ti_getP 10 16 35, ti_iload 3, ti_ald 35, ti_ast 39, ti_aload 0, ti_getP 10 19 38, ti_iload 3, ti_dup2, ti_ald 38, ti_iload 7, ti_if (fun x => x = 0) 192, ti_const 1, ti_goto 193], 189) := rfl
theorem cb_X10_set_192 (G : jx_G) : cd_X10_set G 192 = ([ti_const 0], 193) := rfl
theorem cb_X10_set_193 (G : jx_G) : cd_X10_set G 193 = ([ti_bin (fun x y => x + y), ti_ast 38, ti_goto 285], 195) := rfl
theorem cb_X10_set_198 (G : jx_G) : cd_X10_set G 198 = ([ti_const 29, ti_iload 1, ti_bin (fun x y => x * y), ti_iload 6, ti_call G m_X10_boxOf 1 0 0 0 0, ti_bin (fun x y => x + y), ti_istore 7, ti_aload 0, ti_iload 7, ti_iload 1, ti_iload 2, ti_callV G m_X10_pick 10 3 0 0 0 0, ti_istore 8, ti_iload 8, ti_const (-1), ti_icmp (fun x y => ¬ x = y) 239, ti_aload 0, ti_callV G m_X10_bringPilesBack 10 0 0 0 0 0, ti_const (-10), ti_iload 6, ti_call G m_X10_boxOf 1 0 0 0 0, ti_bin (fun x y => x - y), ti_iret 0 0], 238) := rfl
theorem cb_X10_set_239 (G : jx_G) : cd_X10_set G 239 = ([ti_aload 0, ti_getP 10 17 36, ti_const 64, ti_iload 3, ti_bin (fun x y => x * y), ti_aload 0, ti_getP 10 16 35, ti_iload 3, ti_ald 35, ti_bin (fun x y => x + y), ti_iload 8, ti_ast 36, ti_aload 0, ti_getP 10 18 37, ti_const 64, ti_iload 3, ti_bin (fun x y => x * y), ti_aload 0, ti_getP 10 16 35, ti_iload 3, ti_ald 35, ti_bin (fun x y => x + y), ti_iload 7, ti_ast 37, ti_aload 0, ti_getP 10 16 35, ti_iload 3, ti_dup2, ti_ald 35, ti_const 1, ti_bin (fun x y => x + y), ti_ast 35], 285) := rfl
theorem cb_X10_set_285 (G : jx_G) : cd_X10_set G 285 = ([ti_iinc 5 1, ti_goto 96], 288) := rfl
theorem cb_X10_set_291 (G : jx_G) : cd_X10_set G 291 = ([ti_const 0, ti_istore 5], 294) := rfl
theorem cb_X10_set_294 (G : jx_G) : cd_X10_set G 294 = ([ti_iload 5, ti_aload 0, ti_getP 10 16 35, ti_iload 3, ti_ald 35, ti_icmp (fun x y => y ≤ x) 329, ti_aload 0, ti_getP 10 4 27, ti_aload 0, ti_getP 10 17 36, ti_const 64, ti_iload 3, ti_bin (fun x y => x * y), ti_iload 5, ti_bin (fun x y => x + y), ti_ald 36, ti_const 1, ti_ast 27, ti_iinc 5 1, ti_goto 294], 326) := rfl
theorem cb_X10_set_329 (G : jx_G) : cd_X10_set G 329 = ([ti_aload 0, ti_getP 10 15 34, ti_iload 3, ti_iload 1, ti_ast 34, ti_aload 0, ti_getP 10 23 42, ti_iload 3, ti_const (-1), ti_ast 42, ti_aload 0, ti_getI 10 30, ti_istore 5], 349) := rfl
theorem cb_X10_set_349 (G : jx_G) : cd_X10_set G 349 = ([ti_iload 5, ti_aload 0, ti_getI 10 12, ti_icmp (fun x y => y ≤ x) 383, ti_aload 0, ti_getP 10 11 33, ti_iload 5, ti_aload 0, ti_getI 10 30, ti_bin (fun x y => x - y), ti_aload 0, ti_getP 10 11 33, ti_iload 5, ti_ald 33, ti_astC 33, ti_iinc 5 1, ti_goto 349], 380) := rfl
theorem cb_X10_set_383 (G : jx_G) : cd_X10_set G 383 = ([ti_aload 0, ti_dup, ti_getI 10 12, ti_aload 0, ti_getI 10 30, ti_bin (fun x y => x - y), ti_putI 10 12, ti_aload 0, ti_getP 10 22 41, ti_iload 3, ti_aload 0, ti_const 0, ti_callV G m_X10_behindBlanks 10 1 0 0 0 0, ti_aload 0, ti_getI 10 12, ti_icmp (fun x y => ¬ x = y) 417, ti_const 1, ti_goto 418], 414) := rfl
theorem cb_X10_set_417 (G : jx_G) : cd_X10_set G 417 = ([ti_const 0], 418) := rfl
theorem cb_X10_set_418 (G : jx_G) : cd_X10_set G 418 = ([ti_astZ 41, ti_aload 0, ti_dup, ti_getI 10 14, ti_const 1, ti_bin (fun x y => x + y), ti_putI 10 14, ti_aload 0, ti_iload 3, ti_callV G m_X10_fill 10 1 0 0 0 0, ti_iload 3, ti_iret 0 0], 435) := rfl
theorem cb_X10_unitsIn_0 (G : jx_G) : cd_X10_unitsIn G 0 = ([ti_const 0, ti_istore 3, ti_const 1, ti_istore 4], 5) := rfl
theorem cb_X10_unitsIn_5 (G : jx_G) : cd_X10_unitsIn G 5 = ([ti_iload 4, ti_const 7, ti_icmp (fun x y => y ≤ x) 42, ti_iload 3, ti_iload 4, ti_aload 0, ti_getP 10 21 40, ti_const 448, ti_iload 1, ti_bin (fun x y => x * y), ti_const 7, ti_iload 2, ti_bin (fun x y => x * y), ti_bin (fun x y => x + y), ti_iload 4, ti_bin (fun x y => x + y), ti_ald 40, ti_bin (fun x y => x * y), ti_bin (fun x y => x + y), ti_istore 3, ti_iinc 4 1, ti_goto 5], 39) := rfl
theorem cb_X10_unitsIn_42 (G : jx_G) : cd_X10_unitsIn G 42 = ([ti_iload 3, ti_iret 0 0], 43) := rfl
theorem cb_X10_slackOf_0 (G : jx_G) : cd_X10_slackOf G 0 = ([ti_aload 0, ti_iload 1, ti_callV G m_X10_sortsWidth 10 1 0 0 0 0, ti_istore 2, ti_const 0, ti_istore 3], 8) := rfl
theorem cb_X10_slackOf_8 (G : jx_G) : cd_X10_slackOf G 8 = ([ti_iload 3, ti_aload 0, ti_getP 10 19 38, ti_iload 1, ti_ald 38, ti_icmp (fun x y => y < x) 33, ti_iload 2, ti_aload 0, ti_iload 1, ti_iload 3, ti_callV G m_X10_unitsIn 10 2 0 0 0 0, ti_bin (fun x y => x + y), ti_istore 2, ti_iinc 3 1, ti_goto 8], 30) := rfl
theorem cb_X10_slackOf_33 (G : jx_G) : cd_X10_slackOf G 33 = ([ti_aload 0, ti_getI 10 13, ti_iload 2, ti_bin (fun x y => x - y), ti_iret 0 0], 39) := rfl
theorem cb_X10_empty_0 (G : jx_G) : cd_X10_empty G 0 = ([ti_const 0, ti_istore 2], 2) := rfl
theorem cb_X10_empty_2 (G : jx_G) : cd_X10_empty G 2 = ([ti_iload 2, ti_aload 0, ti_getP 10 19 38, ti_iload 1, ti_ald 38, ti_icmp (fun x y => y < x) 76, ti_const 1, ti_istore 3], 14) := rfl
theorem cb_X10_empty_14 (G : jx_G) : cd_X10_empty G 14 = ([ti_iload 3, ti_const 7, ti_icmp (fun x y => y ≤ x) 70, ti_aload 0, ti_getP 10 10 32, ti_iload 3, ti_dup2, ti_ald 32, ti_aload 0, ti_getP 10 21 40, ti_const 448, ti_iload 1, ti_bin (fun x y => x * y), ti_const 7, ti_iload 2, ti_bin (fun x y => x * y), ti_bin (fun x y => x + y), ti_iload 3, ti_bin (fun x y => x + y), ti_ald 40, ti_bin (fun x y => x + y), ti_ast 32, ti_aload 0, ti_getP 10 21 40, ti_const 448, ti_iload 1, ti_bin (fun x y => x * y), ti_const 7, ti_iload 2, ti_bin (fun x y => x * y), ti_bin (fun x y => x + y), ti_iload 3, ti_bin (fun x y => x + y), ti_const 0, ti_ast 40, ti_iinc 3 1, ti_goto 14], 67) := rfl
theorem cb_X10_empty_70 (G : jx_G) : cd_X10_empty G 70 = ([ti_iinc 2 1, ti_goto 2], 73) := rfl
theorem cb_X10_empty_76 (G : jx_G) : cd_X10_empty G 76 = ([ti_vret 0 0], 76) := rfl
theorem cb_X10_copyLine_0 (G : jx_G) : cd_X10_copyLine G 0 = ([ti_aload 0, ti_getP 10 15 34, ti_iload 2, ti_aload 0, ti_getP 10 15 34, ti_iload 1, ti_ald 34, ti_ast 34, ti_aload 0, ti_getP 10 16 35, ti_iload 2, ti_aload 0, ti_getP 10 16 35, ti_iload 1, ti_ald 35, ti_ast 35, ti_aload 0, ti_getP 10 19 38, ti_iload 2, ti_aload 0, ti_getP 10 19 38, ti_iload 1, ti_ald 38, ti_ast 38, ti_aload 0, ti_getP 10 22 41, ti_iload 2, ti_aload 0, ti_getP 10 22 41, ti_iload 1, ti_ald 41, ti_astZ 41, ti_aload 0, ti_getP 10 23 42, ti_iload 2, ti_aload 0, ti_getP 10 23 42, ti_iload 1, ti_ald 42, ti_ast 42, ti_const 0, ti_istore 3], 62) := rfl
theorem cb_X10_copyLine_62 (G : jx_G) : cd_X10_copyLine G 62 = ([ti_iload 3, ti_const 64, ti_icmp (fun x y => y ≤ x) 140, ti_aload 0, ti_getP 10 17 36, ti_const 64, ti_iload 2, ti_bin (fun x y => x * y), ti_iload 3, ti_bin (fun x y => x + y), ti_aload 0, ti_getP 10 17 36, ti_const 64, ti_iload 1, ti_bin (fun x y => x * y), ti_iload 3, ti_bin (fun x y => x + y), ti_ald 36, ti_ast 36, ti_aload 0, ti_getP 10 18 37, ti_const 64, ti_iload 2, ti_bin (fun x y => x * y), ti_iload 3, ti_bin (fun x y => x + y), ti_aload 0, ti_getP 10 18 37, ti_const 64, ti_iload 1, ti_bin (fun x y => x * y), ti_iload 3, ti_bin (fun x y => x + y), ti_ald 37, ti_ast 37, ti_aload 0, ti_getP 10 20 39, ti_const 64, ti_iload 2, ti_bin (fun x y => x * y), ti_iload 3, ti_bin (fun x y => x + y), ti_aload 0, ti_getP 10 20 39, ti_const 64, ti_iload 1, ti_bin (fun x y => x * y), ti_iload 3, ti_bin (fun x y => x + y), ti_ald 39, ti_ast 39, ti_iinc 3 1, ti_goto 62], 137) := rfl
theorem cb_X10_copyLine_140 (G : jx_G) : cd_X10_copyLine G 140 = ([ti_const 0, ti_istore 3], 142) := rfl
theorem cb_X10_copyLine_142 (G : jx_G) : cd_X10_copyLine G 142 = ([ti_iload 3, ti_const 448, ti_icmp (fun x y => y ≤ x) 179, ti_aload 0, ti_getP 10 21 40, ti_const 448, ti_iload 2, ti_bin (fun x y => x * y), ti_iload 3, ti_bin (fun x y => x + y), ti_aload 0, ti_getP 10 21 40, ti_const 448, ti_iload 1, ti_bin (fun x y => x * y), ti_iload 3, ti_bin (fun x y => x + y), ti_ald 40, ti_ast 40, ti_iinc 3 1, ti_goto 142], 176) := rfl
theorem cb_X10_copyLine_179 (G : jx_G) : cd_X10_copyLine G 179 = ([ti_vret 0 0], 179) := rfl
theorem cb_X10_drop_0 (G : jx_G) : cd_X10_drop G 0 = ([ti_iload 1, ti_istore 2], 2) := rfl
theorem cb_X10_drop_2 (G : jx_G) : cd_X10_drop G 2 = ([ti_iload 2, ti_const 1, ti_bin (fun x y => x + y), ti_aload 0, ti_getI 10 14, ti_icmp (fun x y => y ≤ x) 26, ti_aload 0, ti_iload 2, ti_const 1, ti_bin (fun x y => x + y), ti_iload 2, ti_callV G m_X10_copyLine 10 2 0 0 0 0, ti_iinc 2 1, ti_goto 2], 23) := rfl
theorem cb_X10_drop_26 (G : jx_G) : cd_X10_drop G 26 = ([ti_aload 0, ti_dup, ti_getI 10 14, ti_const 1, ti_bin (fun x y => x - y), ti_putI 10 14, ti_vret 0 0], 36) := rfl
theorem cb_X10_putLineBack_0 (G : jx_G) : cd_X10_putLineBack G 0 = ([ti_const 0, ti_istore 2, ti_aload 0, ti_getP 10 16 35, ti_iload 1, ti_ald 35, ti_const 1, ti_bin (fun x y => x - y), ti_istore 3], 11) := rfl
theorem cb_X10_putLineBack_11 (G : jx_G) : cd_X10_putLineBack G 11 = ([ti_iload 3, ti_if (fun x => x < 0) 47, ti_iload 2, ti_aload 0, ti_aload 0, ti_getP 10 17 36, ti_const 64, ti_iload 1, ti_bin (fun x y => x * y), ti_iload 3, ti_bin (fun x y => x + y), ti_ald 36, ti_callV G m_X10_putHome 10 1 0 0 0 0, ti_if (fun x => x = 0) 38, ti_const 1, ti_goto 39], 35) := rfl
theorem cb_X10_putLineBack_38 (G : jx_G) : cd_X10_putLineBack G 38 = ([ti_const 0], 39) := rfl
theorem cb_X10_putLineBack_39 (G : jx_G) : cd_X10_putLineBack G 39 = ([ti_bin (fun x y => x + y), ti_istore 2, ti_iinc 3 (-1), ti_goto 11], 44) := rfl
theorem cb_X10_putLineBack_47 (G : jx_G) : cd_X10_putLineBack G 47 = ([ti_aload 0, ti_iload 1, ti_callV G m_X10_empty 10 1 0 0 0 0, ti_aload 0, ti_iload 1, ti_callV G m_X10_drop 10 1 0 0 0 0, ti_iload 2, ti_iret 0 0], 58) := rfl
theorem cb_X10_isWrong_0 (G : jx_G) : cd_X10_isWrong G 0 = ([ti_aload 0, ti_getP 10 17 36, ti_const 64, ti_iload 1, ti_bin (fun x y => x * y), ti_iload 2, ti_bin (fun x y => x + y), ti_ald 36, ti_istore 3, ti_aload 0, ti_getP 10 5 28, ti_iload 3, ti_ald 28, ti_if (fun x => ¬ x = 0) 41, ti_aload 0, ti_getP 10 2 25, ti_iload 3, ti_ald 25, ti_aload 0, ti_getP 10 18 37, ti_const 64, ti_iload 1, ti_bin (fun x y => x * y), ti_iload 2, ti_bin (fun x y => x + y), ti_ald 37, ti_icmp (fun x y => x = y) 45], 41) := rfl
theorem cb_X10_isWrong_41 (G : jx_G) : cd_X10_isWrong G 41 = ([ti_const 1, ti_goto 46], 42) := rfl
theorem cb_X10_isWrong_45 (G : jx_G) : cd_X10_isWrong G 45 = ([ti_const 0], 46) := rfl
theorem cb_X10_isWrong_46 (G : jx_G) : cd_X10_isWrong G 46 = ([ti_zret 0 0], 46) := rfl
theorem cb_X10_inHeapOf_0 (G : jx_G) : cd_X10_inHeapOf G 0 = ([ti_const (-1), ti_istore 2, ti_const 0, ti_istore 3], 4) := rfl
theorem cb_X10_inHeapOf_4 (G : jx_G) : cd_X10_inHeapOf G 4 = ([ti_iload 3, ti_aload 0, ti_getI 10 9, ti_icmp (fun x y => y ≤ x) 59, ti_aload 0, ti_getP 10 2 25, ti_aload 0, ti_getP 10 8 31, ti_iload 3, ti_ald 31, ti_ald 25, ti_iload 1, ti_icmp (fun x y => ¬ x = y) 51, ti_iload 2, ti_const (-1), ti_icmp (fun x y => x = y) 47, ti_aload 0, ti_getP 10 8 31, ti_iload 3, ti_ald 31, ti_aload 0, ti_getP 10 8 31, ti_iload 2, ti_ald 31, ti_icmp (fun x y => y ≤ x) 51], 47) := rfl
theorem cb_X10_inHeapOf_47 (G : jx_G) : cd_X10_inHeapOf G 47 = ([ti_iload 3, ti_goto 52], 48) := rfl
theorem cb_X10_inHeapOf_51 (G : jx_G) : cd_X10_inHeapOf G 51 = ([ti_iload 2], 52) := rfl
theorem cb_X10_inHeapOf_52 (G : jx_G) : cd_X10_inHeapOf G 52 = ([ti_istore 2, ti_iinc 3 1, ti_goto 4], 56) := rfl
theorem cb_X10_inHeapOf_59 (G : jx_G) : cd_X10_inHeapOf G 59 = ([ti_iload 2, ti_iret 0 0], 60) := rfl
theorem cb_X10_mend_0 (G : jx_G) : cd_X10_mend G 0 = ([ti_aload 0, ti_iload 1, ti_callV G m_X10_isLine 10 1 0 0 0 0, ti_if (fun x => x = 0) 28, ti_iload 2, ti_const 0, ti_aload 0, ti_getP 10 16 35, ti_iload 1, ti_ald 35, ti_const 1, ti_bin (fun x y => x - y), ti_call G m_X10_within 3 0 0 0 0, ti_if (fun x => x = 0) 28, ti_const 1, ti_goto 29], 25) := rfl
theorem cb_X10_mend_28 (G : jx_G) : cd_X10_mend G 28 = ([ti_const 0], 29) := rfl
theorem cb_X10_mend_29 (G : jx_G) : cd_X10_mend G 29 = ([ti_istore 3, ti_iload 3, ti_if (fun x => x = 0) 48, ti_aload 0, ti_getP 10 18 37, ti_const 64, ti_iload 1, ti_bin (fun x y => x * y), ti_iload 2, ti_bin (fun x y => x + y), ti_ald 37, ti_goto 49], 45) := rfl
theorem cb_X10_mend_48 (G : jx_G) : cd_X10_mend G 48 = ([ti_const 0], 49) := rfl
theorem cb_X10_mend_49 (G : jx_G) : cd_X10_mend G 49 = ([ti_istore 4, ti_iload 3, ti_if (fun x => x = 0) 64, ti_aload 0, ti_iload 4, ti_callV G m_X10_topOf 10 1 0 0 0 0, ti_goto 65], 61) := rfl
theorem cb_X10_mend_64 (G : jx_G) : cd_X10_mend G 64 = ([ti_const (-1)], 65) := rfl
theorem cb_X10_mend_65 (G : jx_G) : cd_X10_mend G 65 = ([ti_istore 5, ti_iload 5, ti_const (-1), ti_icmp (fun x y => x = y) 89, ti_aload 0, ti_getP 10 2 25, ti_iload 5, ti_ald 25, ti_iload 4, ti_icmp (fun x y => ¬ x = y) 89, ti_const 1, ti_goto 90], 86) := rfl
theorem cb_X10_mend_89 (G : jx_G) : cd_X10_mend G 89 = ([ti_const 0], 90) := rfl
theorem cb_X10_mend_90 (G : jx_G) : cd_X10_mend G 90 = ([ti_istore 6, ti_aload 0, ti_iload 4, ti_callV G m_X10_inHeapOf 10 1 0 0 0 0, ti_istore 7, ti_aload 0, ti_iload 3, ti_if (fun x => ¬ x = 0) 109, ti_const 1, ti_goto 134], 106) := rfl
theorem cb_X10_mend_109 (G : jx_G) : cd_X10_mend G 109 = ([ti_aload 0, ti_iload 1, ti_iload 2, ti_callV G m_X10_isWrong 10 2 0 0 0 0, ti_if (fun x => x = 0) 129, ti_iload 6, ti_if (fun x => ¬ x = 0) 133, ti_iload 7, ti_const (-1), ti_icmp (fun x y => ¬ x = y) 133], 129) := rfl
theorem cb_X10_mend_129 (G : jx_G) : cd_X10_mend G 129 = ([ti_const 2, ti_goto 134], 130) := rfl
theorem cb_X10_mend_133 (G : jx_G) : cd_X10_mend G 133 = ([ti_const 0], 134) := rfl
theorem cb_X10_mend_134 (G : jx_G) : cd_X10_mend G 134 = ([ti_callV G m_X10_refused 10 1 0 0 0 0, ti_if (fun x => x = 0) 142, ti_const 0, ti_iret 0 0], 141) := rfl
theorem cb_X10_mend_142 (G : jx_G) : cd_X10_mend G 142 = ([ti_iload 6, ti_if (fun x => x = 0) 156, ti_aload 0, ti_iload 4, ti_callV G m_X10_takeFrom 10 1 0 0 0 0, ti_goto 163], 153) := rfl
theorem cb_X10_mend_156 (G : jx_G) : cd_X10_mend G 156 = ([ti_aload 0, ti_getP 10 8 31, ti_iload 7, ti_ald 31], 163) := rfl
theorem cb_X10_mend_163 (G : jx_G) : cd_X10_mend G 163 = ([ti_istore 8, ti_iload 6, ti_if (fun x => ¬ x = 0) 176, ti_aload 0, ti_iload 7, ti_callV G m_X10_takeOfHeap 10 1 0 0 0 0], 176) := rfl
theorem cb_X10_mend_176 (G : jx_G) : cd_X10_mend G 176 = ([ti_aload 0, ti_getP 10 17 36, ti_const 64, ti_iload 1, ti_bin (fun x y => x * y), ti_iload 2, ti_bin (fun x y => x + y), ti_ald 36, ti_istore 9, ti_aload 0, ti_getP 10 17 36, ti_const 64, ti_iload 1, ti_bin (fun x y => x * y), ti_iload 2, ti_bin (fun x y => x + y), ti_iload 8, ti_ast 36, ti_aload 0, ti_getP 10 4 27, ti_iload 8, ti_const 1, ti_ast 27, ti_aload 0, ti_iload 9, ti_callV G m_X10_putHome 10 1 0 0 0 0, ti_istore 10, ti_aload 0, ti_iload 1, ti_callV G m_X10_empty 10 1 0 0 0 0, ti_aload 0, ti_iload 1, ti_callV G m_X10_fill 10 1 0 0 0 0, ti_aload 0, ti_getP 10 23 42, ti_iload 1, ti_ald 42, ti_const (-1), ti_icmp (fun x y => x = y) 250, ti_aload 0, ti_getP 10 25 43, ti_aload 0, ti_getP 10 23 42, ti_iload 1, ti_ald 42, ti_const 0, ti_ast 43], 250) := rfl
theorem cb_X10_mend_250 (G : jx_G) : cd_X10_mend G 250 = ([ti_iload 8, ti_iret 0 0], 252) := rfl
theorem cb_X10_putBack_0 (G : jx_G) : cd_X10_putBack G 0 = ([ti_aload 0, ti_aload 0, ti_iload 1, ti_callV G m_X10_isLine 10 1 0 0 0 0, ti_if (fun x => ¬ x = 0) 13, ti_const 1, ti_goto 28], 10) := rfl
theorem cb_X10_putBack_13 (G : jx_G) : cd_X10_putBack G 13 = ([ti_aload 0, ti_getP 10 23 42, ti_iload 1, ti_ald 42, ti_const (-1), ti_icmp (fun x y => x = y) 27, ti_const 2, ti_goto 28], 24) := rfl
theorem cb_X10_putBack_27 (G : jx_G) : cd_X10_putBack G 27 = ([ti_const 0], 28) := rfl
theorem cb_X10_putBack_28 (G : jx_G) : cd_X10_putBack G 28 = ([ti_callV G m_X10_refused 10 1 0 0 0 0, ti_if (fun x => x = 0) 38, ti_const 0, ti_goto 43], 35) := rfl
theorem cb_X10_putBack_38 (G : jx_G) : cd_X10_putBack G 38 = ([ti_aload 0, ti_iload 1, ti_callV G m_X10_putLineBack 10 1 0 0 0 0], 43) := rfl
theorem cb_X10_putBack_43 (G : jx_G) : cd_X10_putBack G 43 = ([ti_iret 0 0], 43) := rfl
theorem cb_X10_foul_0 (G : jx_G) : cd_X10_foul G 0 = ([ti_iload 1, ti_iload 2, ti_call G m_X10_isBox 2 0 0 0 0, ti_if (fun x => x = 0) 20, ti_iload 1, ti_iload 3, ti_call G m_X10_isBox 2 0 0 0 0, ti_if (fun x => x = 0) 20, ti_const 1, ti_goto 21], 17) := rfl
theorem cb_X10_foul_20 (G : jx_G) : cd_X10_foul G 20 = ([ti_const 0], 21) := rfl
theorem cb_X10_foul_21 (G : jx_G) : cd_X10_foul G 21 = ([ti_istore 4, ti_aload 0, ti_iload 4, ti_if (fun x => ¬ x = 0) 33, ti_const 1, ti_goto 61], 30) := rfl
theorem cb_X10_foul_33 (G : jx_G) : cd_X10_foul G 33 = ([ti_iload 2, ti_iload 3, ti_icmp (fun x y => ¬ x = y) 42, ti_const 2, ti_goto 61], 39) := rfl
theorem cb_X10_foul_42 (G : jx_G) : cd_X10_foul G 42 = ([ti_aload 0, ti_getP 10 7 30, ti_const 29, ti_iload 1, ti_bin (fun x y => x * y), ti_iload 2, ti_bin (fun x y => x + y), ti_ald 30, ti_if (fun x => ¬ x = 0) 60, ti_const 3, ti_goto 61], 57) := rfl
theorem cb_X10_foul_60 (G : jx_G) : cd_X10_foul G 60 = ([ti_const 0], 61) := rfl
theorem cb_X10_foul_61 (G : jx_G) : cd_X10_foul G 61 = ([ti_callV G m_X10_refused 10 1 0 0 0 0, ti_if (fun x => x = 0) 69, ti_const 0, ti_iret 0 0], 68) := rfl
theorem cb_X10_foul_69 (G : jx_G) : cd_X10_foul G 69 = ([ti_aload 0, ti_const 29, ti_iload 1, ti_bin (fun x y => x * y), ti_iload 2, ti_bin (fun x y => x + y), ti_callV G m_X10_takeFrom 10 1 0 0 0 0, ti_istore 5, ti_aload 0, ti_const 29, ti_iload 1, ti_bin (fun x y => x * y), ti_iload 3, ti_bin (fun x y => x + y), ti_iload 5, ti_callV G m_X10_putOn 10 2 0 0 0 0, ti_iload 5, ti_iret 0 0], 95) := rfl
theorem cb_X10_sortPie_0 (G : jx_G) : cd_X10_sortPie G 0 = ([ti_aload 0, ti_iload 1, ti_const 1, ti_const 300, ti_call G m_X10_within 3 0 0 0 0, ti_if (fun x => x = 0) 16, ti_const 0, ti_goto 17], 13) := rfl
theorem cb_X10_sortPie_16 (G : jx_G) : cd_X10_sortPie G 16 = ([ti_const 1], 17) := rfl
theorem cb_X10_sortPie_17 (G : jx_G) : cd_X10_sortPie G 17 = ([ti_callV G m_X10_refused 10 1 0 0 0 0, ti_if (fun x => x = 0) 25, ti_const 0, ti_iret 0 0], 24) := rfl
theorem cb_X10_sortPie_25 (G : jx_G) : cd_X10_sortPie G 25 = ([ti_const 0, ti_istore 2, ti_const 0, ti_istore 3], 29) := rfl
theorem cb_X10_sortPie_29 (G : jx_G) : cd_X10_sortPie G 29 = ([ti_iload 3, ti_iload 1, ti_icmp (fun x y => y ≤ x) 77, ti_aload 0, ti_getI 10 9, ti_if (fun x => x ≤ 0) 77, ti_aload 0, ti_getP 10 8 31, ti_const 0, ti_ald 31, ti_istore 4, ti_aload 0, ti_const 0, ti_callV G m_X10_takeOfHeap 10 1 0 0 0 0, ti_iload 2, ti_aload 0, ti_iload 4, ti_callV G m_X10_putHome 10 1 0 0 0 0, ti_if (fun x => x = 0) 68, ti_const 1, ti_goto 69], 65) := rfl
theorem cb_X10_sortPie_68 (G : jx_G) : cd_X10_sortPie G 68 = ([ti_const 0], 69) := rfl
theorem cb_X10_sortPie_69 (G : jx_G) : cd_X10_sortPie G 69 = ([ti_bin (fun x y => x + y), ti_istore 2, ti_iinc 3 1, ti_goto 29], 74) := rfl
theorem cb_X10_sortPie_77 (G : jx_G) : cd_X10_sortPie G 77 = ([ti_iload 2, ti_iret 0 0], 78) := rfl
theorem cb_X10_lock_0 (G : jx_G) : cd_X10_lock G 0 = ([ti_aload 0, ti_iload 1, ti_callV G m_X10_isLine 10 1 0 0 0 0, ti_if (fun x => x = 0) 20, ti_aload 0, ti_iload 2, ti_callV G m_X10_isLine 10 1 0 0 0 0, ti_if (fun x => x = 0) 20, ti_const 1, ti_goto 21], 17) := rfl
theorem cb_X10_lock_20 (G : jx_G) : cd_X10_lock G 20 = ([ti_const 0], 21) := rfl
theorem cb_X10_lock_21 (G : jx_G) : cd_X10_lock G 21 = ([ti_istore 3, ti_const 1, ti_istore 4, ti_iload 3, ti_if (fun x => x = 0) 33, ti_iload 1, ti_goto 34], 30) := rfl
theorem cb_X10_lock_33 (G : jx_G) : cd_X10_lock G 33 = ([ti_const 0], 34) := rfl
theorem cb_X10_lock_34 (G : jx_G) : cd_X10_lock G 34 = ([ti_istore 5], 36) := rfl
theorem cb_X10_lock_36 (G : jx_G) : cd_X10_lock G 36 = ([ti_iload 3, ti_if (fun x => x = 0) 75, ti_iload 5, ti_iload 2, ti_icmp (fun x y => y < x) 75, ti_iload 4, ti_if (fun x => x = 0) 66, ti_aload 0, ti_getP 10 23 42, ti_iload 5, ti_ald 42, ti_const (-1), ti_icmp (fun x y => ¬ x = y) 66, ti_const 1, ti_goto 67], 63) := rfl
theorem cb_X10_lock_66 (G : jx_G) : cd_X10_lock G 66 = ([ti_const 0], 67) := rfl
theorem cb_X10_lock_67 (G : jx_G) : cd_X10_lock G 67 = ([ti_istore 4, ti_iinc 5 1, ti_goto 36], 72) := rfl
theorem cb_X10_lock_75 (G : jx_G) : cd_X10_lock G 75 = ([ti_aload 0, ti_iload 3, ti_if (fun x => ¬ x = 0) 84, ti_const 1, ti_goto 111], 81) := rfl
theorem cb_X10_lock_84 (G : jx_G) : cd_X10_lock G 84 = ([ti_iload 2, ti_iload 1, ti_icmp (fun x y => y ≤ x) 93, ti_const 2, ti_goto 111], 90) := rfl
theorem cb_X10_lock_93 (G : jx_G) : cd_X10_lock G 93 = ([ti_iload 4, ti_if (fun x => x = 0) 106, ti_aload 0, ti_getI 10 24, ti_const 4, ti_icmp (fun x y => ¬ x = y) 110], 106) := rfl
theorem cb_X10_lock_106 (G : jx_G) : cd_X10_lock G 106 = ([ti_const 3, ti_goto 111], 107) := rfl
theorem cb_X10_lock_110 (G : jx_G) : cd_X10_lock G 110 = ([ti_const 0], 111) := rfl
theorem cb_X10_lock_111 (G : jx_G) : cd_X10_lock G 111 = ([ti_callV G m_X10_refused 10 1 0 0 0 0, ti_if (fun x => x = 0) 119, ti_const 0, ti_iret 0 0], 118) := rfl
theorem cb_X10_lock_119 (G : jx_G) : cd_X10_lock G 119 = ([ti_iload 1, ti_istore 5], 122) := rfl
theorem cb_X10_lock_122 (G : jx_G) : cd_X10_lock G 122 = ([ti_iload 5, ti_iload 2, ti_icmp (fun x y => y < x) 145, ti_aload 0, ti_getP 10 23 42, ti_iload 5, ti_aload 0, ti_getI 10 24, ti_ast 42, ti_iinc 5 1, ti_goto 122], 142) := rfl
theorem cb_X10_lock_145 (G : jx_G) : cd_X10_lock G 145 = ([ti_aload 0, ti_getP 10 25 43, ti_aload 0, ti_getI 10 24, ti_const 0, ti_ast 43, ti_aload 0, ti_dup, ti_getI 10 24, ti_const 1, ti_bin (fun x y => x + y), ti_putI 10 24, ti_aload 0, ti_getI 10 24, ti_const 1, ti_bin (fun x y => x - y), ti_iret 0 0], 171) := rfl
theorem cb_X10_isForm_0 (G : jx_G) : cd_X10_isForm G 0 = ([ti_iload 1, ti_const 0, ti_aload 0, ti_getI 10 24, ti_const 1, ti_bin (fun x y => x - y), ti_call G m_X10_within 3 0 0 0 0, ti_zret 0 0], 11) := rfl
theorem cb_X10_lift_0 (G : jx_G) : cd_X10_lift G 0 = ([ti_aload 0, ti_aload 0, ti_iload 1, ti_callV G m_X10_isForm 10 1 0 0 0 0, ti_if (fun x => ¬ x = 0) 13, ti_const 1, ti_goto 28], 10) := rfl
theorem cb_X10_lift_13 (G : jx_G) : cd_X10_lift G 13 = ([ti_aload 0, ti_getP 10 25 43, ti_iload 1, ti_ald 43, ti_const 2, ti_icmp (fun x y => ¬ x = y) 27, ti_const 2, ti_goto 28], 24) := rfl
theorem cb_X10_lift_27 (G : jx_G) : cd_X10_lift G 27 = ([ti_const 0], 28) := rfl
theorem cb_X10_lift_28 (G : jx_G) : cd_X10_lift G 28 = ([ti_callV G m_X10_refused 10 1 0 0 0 0, ti_if (fun x => x = 0) 36, ti_const 0, ti_iret 0 0], 35) := rfl
theorem cb_X10_lift_36 (G : jx_G) : cd_X10_lift G 36 = ([ti_const 1, ti_istore 2, ti_const 0, ti_istore 3], 40) := rfl
theorem cb_X10_lift_40 (G : jx_G) : cd_X10_lift G 40 = ([ti_iload 3, ti_aload 0, ti_getI 10 14, ti_icmp (fun x y => y ≤ x) 82, ti_iload 2, ti_if (fun x => x = 0) 74, ti_aload 0, ti_getP 10 23 42, ti_iload 3, ti_ald 42, ti_iload 1, ti_icmp (fun x y => ¬ x = y) 70, ti_aload 0, ti_iload 3, ti_callV G m_X10_slackOf 10 1 0 0 0 0, ti_if (fun x => ¬ x = 0) 74], 70) := rfl
theorem cb_X10_lift_70 (G : jx_G) : cd_X10_lift G 70 = ([ti_const 1, ti_goto 75], 71) := rfl
theorem cb_X10_lift_74 (G : jx_G) : cd_X10_lift G 74 = ([ti_const 0], 75) := rfl
theorem cb_X10_lift_75 (G : jx_G) : cd_X10_lift G 75 = ([ti_istore 2, ti_iinc 3 1, ti_goto 40], 79) := rfl
theorem cb_X10_lift_82 (G : jx_G) : cd_X10_lift G 82 = ([ti_aload 0, ti_getP 10 25 43, ti_iload 1, ti_iload 2, ti_if (fun x => x = 0) 95, ti_const 1, ti_goto 96], 92) := rfl
theorem cb_X10_lift_95 (G : jx_G) : cd_X10_lift G 95 = ([ti_const 2], 96) := rfl
theorem cb_X10_lift_96 (G : jx_G) : cd_X10_lift G 96 = ([ti_ast 43, ti_const 0, ti_istore 3, ti_const 0, ti_istore 4], 102) := rfl
theorem cb_X10_lift_102 (G : jx_G) : cd_X10_lift G 102 = ([ti_iload 4, ti_aload 0, ti_getI 10 14, ti_icmp (fun x y => y ≤ x) 253, ti_iload 2, ti_if (fun x => ¬ x = 0) 253, ti_aload 0, ti_getP 10 23 42, ti_iload 4, ti_ald 42, ti_iload 1, ti_icmp (fun x y => ¬ x = y) 130, ti_const 1, ti_goto 131], 127) := rfl
theorem cb_X10_lift_130 (G : jx_G) : cd_X10_lift G 130 = ([ti_const 0], 131) := rfl
theorem cb_X10_lift_131 (G : jx_G) : cd_X10_lift G 131 = ([ti_istore 5, ti_iload 5, ti_if (fun x => x = 0) 151, ti_aload 0, ti_iload 4, ti_callV G m_X10_slackOf 10 1 0 0 0 0, ti_if (fun x => x = 0) 151, ti_const 1, ti_goto 152], 148) := rfl
theorem cb_X10_lift_151 (G : jx_G) : cd_X10_lift G 151 = ([ti_const 0], 152) := rfl
theorem cb_X10_lift_152 (G : jx_G) : cd_X10_lift G 152 = ([ti_istore 6, ti_aload 0, ti_getP 10 23 42, ti_iload 4, ti_iload 5, ti_if (fun x => x = 0) 169, ti_const (-1), ti_goto 176], 166) := rfl
theorem cb_X10_lift_169 (G : jx_G) : cd_X10_lift G 169 = ([ti_aload 0, ti_getP 10 23 42, ti_iload 4, ti_ald 42], 176) := rfl
theorem cb_X10_lift_176 (G : jx_G) : cd_X10_lift G 176 = ([ti_ast 42, ti_iload 6, ti_if (fun x => x = 0) 235, ti_const 0, ti_istore 7], 185) := rfl
theorem cb_X10_lift_185 (G : jx_G) : cd_X10_lift G 185 = ([ti_iload 7, ti_aload 0, ti_getP 10 16 35, ti_iload 4, ti_ald 35, ti_icmp (fun x y => y ≤ x) 223, ti_aload 0, ti_aload 0, ti_getP 10 17 36, ti_const 64, ti_iload 4, ti_bin (fun x y => x * y), ti_iload 7, ti_bin (fun x y => x + y), ti_ald 36, ti_callV G m_X10_putToHeap 10 1 0 0 0 0, ti_iinc 3 1, ti_iinc 7 1, ti_goto 185], 220) := rfl
theorem cb_X10_lift_223 (G : jx_G) : cd_X10_lift G 223 = ([ti_aload 0, ti_iload 4, ti_callV G m_X10_empty 10 1 0 0 0 0, ti_aload 0, ti_iload 4, ti_callV G m_X10_drop 10 1 0 0 0 0], 235) := rfl
theorem cb_X10_lift_235 (G : jx_G) : cd_X10_lift G 235 = ([ti_iload 4, ti_iload 6, ti_if (fun x => x = 0) 246, ti_const 0, ti_goto 247], 243) := rfl
theorem cb_X10_lift_246 (G : jx_G) : cd_X10_lift G 246 = ([ti_const 1], 247) := rfl
theorem cb_X10_lift_247 (G : jx_G) : cd_X10_lift G 247 = ([ti_bin (fun x y => x + y), ti_istore 4, ti_goto 102], 250) := rfl
theorem cb_X10_lift_253 (G : jx_G) : cd_X10_lift G 253 = ([ti_iload 3, ti_iret 0 0], 254) := rfl
theorem cb_X10_show_0 (G : jx_G) : cd_X10_show G 0 = ([ti_aload 0, ti_getP 10 27 45, ti_aload 0, ti_getI 10 28, ti_iload 1, ti_astC 45, ti_aload 0, ti_dup, ti_getI 10 28, ti_const 1, ti_bin (fun x y => x + y), ti_putI 10 28, ti_vret 0 0], 20) := rfl
theorem cb_X10_proof_0 (G : jx_G) : cd_X10_proof G 0 = ([ti_aload 0, ti_aload 0, ti_iload 1, ti_callV G m_X10_isForm 10 1 0 0 0 0, ti_if (fun x => ¬ x = 0) 13, ti_const 1, ti_goto 28], 10) := rfl
theorem cb_X10_proof_13 (G : jx_G) : cd_X10_proof G 13 = ([ti_aload 0, ti_getP 10 25 43, ti_iload 1, ti_ald 43, ti_const 1, ti_icmp (fun x y => x = y) 27, ti_const 2, ti_goto 28], 24) := rfl
theorem cb_X10_proof_27 (G : jx_G) : cd_X10_proof G 27 = ([ti_const 0], 28) := rfl
theorem cb_X10_proof_28 (G : jx_G) : cd_X10_proof G 28 = ([ti_callV G m_X10_refused 10 1 0 0 0 0, ti_if (fun x => x = 0) 36, ti_const 0, ti_iret 0 0], 35) := rfl
theorem cb_X10_proof_36 (G : jx_G) : cd_X10_proof G 36 = ([ti_aload 0, ti_const 0, ti_putI 10 28, ti_const 0, ti_istore 2], 43) := rfl
theorem cb_X10_proof_43 (G : jx_G) : cd_X10_proof G 43 = ([ti_iload 2, ti_aload 0, ti_getI 10 14, ti_icmp (fun x y => y ≤ x) 204, ti_const 0, ti_istore 3, ti_const 0, ti_istore 4], 56) := rfl
theorem cb_X10_proof_56 (G : jx_G) : cd_X10_proof G 56 = ([ti_iload 4, ti_aload 0, ti_getP 10 16 35, ti_iload 2, ti_ald 35, ti_icmp (fun x y => y ≤ x) 198, ti_aload 0, ti_getP 10 23 42, ti_iload 2, ti_ald 42, ti_iload 1, ti_icmp (fun x y => ¬ x = y) 198, ti_iload 3, ti_aload 0, ti_getP 10 19 38, ti_iload 2, ti_ald 38, ti_icmp (fun x y => y ≤ x) 121, ti_aload 0, ti_getP 10 20 39, ti_const 64, ti_iload 2, ti_bin (fun x y => x * y), ti_iload 3, ti_bin (fun x y => x + y), ti_ald 39, ti_iload 4, ti_icmp (fun x y => ¬ x = y) 121, ti_aload 0, ti_iload 2, ti_iload 3, ti_callV G m_X10_unitsIn 10 2 0 0 0 0, ti_if (fun x => x ≤ 0) 118, ti_aload 0, ti_const 32, ti_callV G m_X10_show 10 1 0 0 0 0], 118) := rfl
theorem cb_X10_proof_118 (G : jx_G) : cd_X10_proof G 118 = ([ti_iinc 3 1], 121) := rfl
theorem cb_X10_proof_121 (G : jx_G) : cd_X10_proof G 121 = ([ti_aload 0, ti_getP 10 17 36, ti_const 64, ti_iload 2, ti_bin (fun x y => x * y), ti_iload 4, ti_bin (fun x y => x + y), ti_ald 36, ti_istore 5, ti_aload 0, ti_aload 0, ti_getP 10 3 26, ti_iload 5, ti_ald 26, ti_const 12, ti_icmp (fun x y => x < y) 153, ti_const 63, ti_goto 178], 150) := rfl
theorem cb_X10_proof_153 (G : jx_G) : cd_X10_proof G 153 = ([ti_aload 0, ti_getP 10 5 28, ti_iload 5, ti_ald 28, ti_if (fun x => x = 0) 168, ti_const 61, ti_goto 178], 165) := rfl
theorem cb_X10_proof_168 (G : jx_G) : cd_X10_proof G 168 = ([ti_aload 0, ti_getP 10 2 25, ti_iload 5, ti_ald 25, ti_call G m_X10_signOf 1 0 0 0 0], 178) := rfl
theorem cb_X10_proof_178 (G : jx_G) : cd_X10_proof G 178 = ([ti_callV G m_X10_show 10 1 0 0 0 0, ti_aload 0, ti_getP 10 3 26, ti_iload 5, ti_dup2, ti_ald 26, ti_const 1, ti_bin (fun x y => x + y), ti_ast 26, ti_iinc 4 1, ti_goto 56], 195) := rfl
theorem cb_X10_proof_198 (G : jx_G) : cd_X10_proof G 198 = ([ti_iinc 2 1, ti_goto 43], 201) := rfl
theorem cb_X10_proof_204 (G : jx_G) : cd_X10_proof G 204 = ([ti_aload 0, ti_getP 10 26 44, ti_iload 1, ti_dup2, ti_ald 44, ti_const 1, ti_bin (fun x y => x + y), ti_ast 44, ti_aload 0, ti_getI 10 28, ti_iret 0 0], 218) := rfl
theorem cb_X10_unlock_0 (G : jx_G) : cd_X10_unlock G 0 = ([ti_aload 0, ti_aload 0, ti_iload 1, ti_callV G m_X10_isForm 10 1 0 0 0 0, ti_if (fun x => ¬ x = 0) 13, ti_const 1, ti_goto 28], 10) := rfl
theorem cb_X10_unlock_13 (G : jx_G) : cd_X10_unlock G 13 = ([ti_aload 0, ti_getP 10 25 43, ti_iload 1, ti_ald 43, ti_const 2, ti_icmp (fun x y => ¬ x = y) 27, ti_const 2, ti_goto 28], 24) := rfl
theorem cb_X10_unlock_27 (G : jx_G) : cd_X10_unlock G 27 = ([ti_const 0], 28) := rfl
theorem cb_X10_unlock_28 (G : jx_G) : cd_X10_unlock G 28 = ([ti_callV G m_X10_refused 10 1 0 0 0 0, ti_if (fun x => x = 0) 36, ti_const 0, ti_iret 0 0], 35) := rfl
theorem cb_X10_unlock_36 (G : jx_G) : cd_X10_unlock G 36 = ([ti_const 0, ti_istore 2, ti_const 0, ti_istore 3], 40) := rfl
theorem cb_X10_unlock_40 (G : jx_G) : cd_X10_unlock G 40 = ([ti_iload 3, ti_aload 0, ti_getI 10 14, ti_icmp (fun x y => y ≤ x) 98, ti_aload 0, ti_getP 10 23 42, ti_iload 3, ti_ald 42, ti_iload 1, ti_icmp (fun x y => ¬ x = y) 62, ti_const 1, ti_goto 63], 59) := rfl
theorem cb_X10_unlock_62 (G : jx_G) : cd_X10_unlock G 62 = ([ti_const 0], 63) := rfl
theorem cb_X10_unlock_63 (G : jx_G) : cd_X10_unlock G 63 = ([ti_istore 4, ti_iload 2, ti_iload 4, ti_if (fun x => x = 0) 79, ti_aload 0, ti_iload 3, ti_callV G m_X10_putLineBack 10 1 0 0 0 0, ti_goto 80], 76) := rfl
theorem cb_X10_unlock_79 (G : jx_G) : cd_X10_unlock G 79 = ([ti_const 0], 80) := rfl
theorem cb_X10_unlock_80 (G : jx_G) : cd_X10_unlock G 80 = ([ti_bin (fun x y => x + y), ti_istore 2, ti_iload 3, ti_iload 4, ti_if (fun x => x = 0) 92, ti_const 0, ti_goto 93], 89) := rfl
theorem cb_X10_unlock_92 (G : jx_G) : cd_X10_unlock G 92 = ([ti_const 1], 93) := rfl
theorem cb_X10_unlock_93 (G : jx_G) : cd_X10_unlock G 93 = ([ti_bin (fun x y => x + y), ti_istore 3, ti_goto 40], 95) := rfl
theorem cb_X10_unlock_98 (G : jx_G) : cd_X10_unlock G 98 = ([ti_aload 0, ti_getP 10 25 43, ti_iload 1, ti_const 2, ti_ast 43, ti_iload 2, ti_iret 0 0], 106) := rfl
theorem cb_X10_inBox_0 (G : jx_G) : cd_X10_inBox G 0 = ([ti_aload 0, ti_iload 1, ti_iload 2, ti_call G m_X10_isBox 2 0 0 0 0, ti_if (fun x => x = 0) 13, ti_const 0, ti_goto 14], 10) := rfl
theorem cb_X10_inBox_13 (G : jx_G) : cd_X10_inBox G 13 = ([ti_const 1], 14) := rfl
theorem cb_X10_inBox_14 (G : jx_G) : cd_X10_inBox G 14 = ([ti_callV G m_X10_refused 10 1 0 0 0 0, ti_if (fun x => x = 0) 24, ti_const 0, ti_goto 35], 21) := rfl
theorem cb_X10_inBox_24 (G : jx_G) : cd_X10_inBox G 24 = ([ti_aload 0, ti_getP 10 7 30, ti_const 29, ti_iload 1, ti_bin (fun x y => x * y), ti_iload 2, ti_bin (fun x y => x + y), ti_ald 30], 35) := rfl
theorem cb_X10_inBox_35 (G : jx_G) : cd_X10_inBox G 35 = ([ti_iret 0 0], 35) := rfl
theorem cb_X10_top_0 (G : jx_G) : cd_X10_top G 0 = ([ti_aload 0, ti_iload 1, ti_iload 2, ti_call G m_X10_isBox 2 0 0 0 0, ti_if (fun x => x = 0) 13, ti_const 0, ti_goto 14], 10) := rfl
theorem cb_X10_top_13 (G : jx_G) : cd_X10_top G 13 = ([ti_const 1], 14) := rfl
theorem cb_X10_top_14 (G : jx_G) : cd_X10_top G 14 = ([ti_callV G m_X10_refused 10 1 0 0 0 0, ti_if (fun x => x = 0) 24, ti_const 0, ti_goto 34], 21) := rfl
theorem cb_X10_top_24 (G : jx_G) : cd_X10_top G 24 = ([ti_aload 0, ti_const 29, ti_iload 1, ti_bin (fun x y => x * y), ti_iload 2, ti_bin (fun x y => x + y), ti_callV G m_X10_topOf 10 1 0 0 0 0], 34) := rfl
theorem cb_X10_top_34 (G : jx_G) : cd_X10_top G 34 = ([ti_iret 0 0], 34) := rfl
theorem cb_X10_inSpaces_0 (G : jx_G) : cd_X10_inSpaces G 0 = ([ti_aload 0, ti_iload 1, ti_call G m_X10_isUnits 1 0 0 0 0, ti_if (fun x => x = 0) 12, ti_const 0, ti_goto 13], 9) := rfl
theorem cb_X10_inSpaces_12 (G : jx_G) : cd_X10_inSpaces G 12 = ([ti_const 1], 13) := rfl
theorem cb_X10_inSpaces_13 (G : jx_G) : cd_X10_inSpaces G 13 = ([ti_callV G m_X10_refused 10 1 0 0 0 0, ti_if (fun x => x = 0) 23, ti_const 0, ti_goto 29], 20) := rfl
theorem cb_X10_inSpaces_23 (G : jx_G) : cd_X10_inSpaces G 23 = ([ti_aload 0, ti_getP 10 10 32, ti_iload 1, ti_ald 32], 29) := rfl
theorem cb_X10_inSpaces_29 (G : jx_G) : cd_X10_inSpaces G 29 = ([ti_iret 0 0], 29) := rfl
theorem cb_X10_placeOf_0 (G : jx_G) : cd_X10_placeOf G 0 = ([ti_const (-1), ti_istore 2, ti_const 0, ti_istore 3], 4) := rfl
theorem cb_X10_placeOf_4 (G : jx_G) : cd_X10_placeOf G 4 = ([ti_iload 3, ti_const 58, ti_icmp (fun x y => y ≤ x) 71, ti_aload 0, ti_getP 10 4 27, ti_iload 1, ti_ald 27, ti_if (fun x => ¬ x = 0) 71, ti_const 0, ti_istore 4], 22) := rfl
theorem cb_X10_placeOf_22 (G : jx_G) : cd_X10_placeOf G 22 = ([ti_iload 4, ti_aload 0, ti_getP 10 7 30, ti_iload 3, ti_ald 30, ti_icmp (fun x y => y ≤ x) 65, ti_aload 0, ti_getP 10 6 29, ti_const 300, ti_iload 3, ti_bin (fun x y => x * y), ti_iload 4, ti_bin (fun x y => x + y), ti_ald 29, ti_iload 1, ti_icmp (fun x y => ¬ x = y) 57, ti_iload 3, ti_const 29, ti_rem, ti_goto 58], 54) := rfl
theorem cb_X10_placeOf_57 (G : jx_G) : cd_X10_placeOf G 57 = ([ti_iload 2], 58) := rfl
theorem cb_X10_placeOf_58 (G : jx_G) : cd_X10_placeOf G 58 = ([ti_istore 2, ti_iinc 4 1, ti_goto 22], 62) := rfl
theorem cb_X10_placeOf_65 (G : jx_G) : cd_X10_placeOf G 65 = ([ti_iinc 3 1, ti_goto 4], 68) := rfl
theorem cb_X10_placeOf_71 (G : jx_G) : cd_X10_placeOf G 71 = ([ti_const 0, ti_istore 3], 73) := rfl
theorem cb_X10_placeOf_73 (G : jx_G) : cd_X10_placeOf G 73 = ([ti_iload 3, ti_aload 0, ti_getI 10 14, ti_icmp (fun x y => y ≤ x) 139, ti_aload 0, ti_getP 10 4 27, ti_iload 1, ti_ald 27, ti_const 1, ti_icmp (fun x y => ¬ x = y) 139, ti_const 0, ti_istore 4], 94) := rfl
theorem cb_X10_placeOf_94 (G : jx_G) : cd_X10_placeOf G 94 = ([ti_iload 4, ti_aload 0, ti_getP 10 16 35, ti_iload 3, ti_ald 35, ti_icmp (fun x y => y ≤ x) 133, ti_aload 0, ti_getP 10 17 36, ti_const 64, ti_iload 3, ti_bin (fun x y => x * y), ti_iload 4, ti_bin (fun x y => x + y), ti_ald 36, ti_iload 1, ti_icmp (fun x y => ¬ x = y) 125, ti_iload 3, ti_goto 126], 122) := rfl
theorem cb_X10_placeOf_125 (G : jx_G) : cd_X10_placeOf G 125 = ([ti_iload 2], 126) := rfl
theorem cb_X10_placeOf_126 (G : jx_G) : cd_X10_placeOf G 126 = ([ti_istore 2, ti_iinc 4 1, ti_goto 94], 130) := rfl
theorem cb_X10_placeOf_133 (G : jx_G) : cd_X10_placeOf G 133 = ([ti_iinc 3 1, ti_goto 73], 136) := rfl
theorem cb_X10_placeOf_139 (G : jx_G) : cd_X10_placeOf G 139 = ([ti_const 0, ti_istore 3], 141) := rfl
theorem cb_X10_placeOf_141 (G : jx_G) : cd_X10_placeOf G 141 = ([ti_iload 3, ti_aload 0, ti_getI 10 9, ti_icmp (fun x y => y ≤ x) 181, ti_aload 0, ti_getP 10 4 27, ti_iload 1, ti_ald 27, ti_const 2, ti_icmp (fun x y => ¬ x = y) 181, ti_aload 0, ti_getP 10 8 31, ti_iload 3, ti_ald 31, ti_iload 1, ti_icmp (fun x y => ¬ x = y) 173, ti_iload 3, ti_goto 174], 170) := rfl
theorem cb_X10_placeOf_173 (G : jx_G) : cd_X10_placeOf G 173 = ([ti_iload 2], 174) := rfl
theorem cb_X10_placeOf_174 (G : jx_G) : cd_X10_placeOf G 174 = ([ti_istore 2, ti_iinc 3 1, ti_goto 141], 178) := rfl
theorem cb_X10_placeOf_181 (G : jx_G) : cd_X10_placeOf G 181 = ([ti_iload 2, ti_iret 0 0], 182) := rfl
theorem cb_X10_sort_0 (G : jx_G) : cd_X10_sort G 0 = ([ti_aload 0, ti_iload 1, ti_const 0, ti_aload 0, ti_getI 10 1, ti_const 1, ti_bin (fun x y => x - y), ti_call G m_X10_within 3 0 0 0 0, ti_if (fun x => ¬ x = 0) 19, ti_const 1, ti_goto 34], 16) := rfl
theorem cb_X10_sort_19 (G : jx_G) : cd_X10_sort G 19 = ([ti_iload 2, ti_const 0, ti_const 6, ti_call G m_X10_within 3 0 0 0 0, ti_if (fun x => ¬ x = 0) 33, ti_const 2, ti_goto 34], 30) := rfl
theorem cb_X10_sort_33 (G : jx_G) : cd_X10_sort G 33 = ([ti_const 0], 34) := rfl
theorem cb_X10_sort_34 (G : jx_G) : cd_X10_sort G 34 = ([ti_callV G m_X10_refused 10 1 0 0 0 0, ti_if (fun x => x = 0) 42, ti_const 0, ti_iret 0 0], 41) := rfl
theorem cb_X10_sort_42 (G : jx_G) : cd_X10_sort G 42 = ([ti_iload 2, ti_const 3, ti_icmp (fun x y => y ≤ x) 87, ti_iload 2, ti_if (fun x => ¬ x = 0) 63, ti_aload 0, ti_getP 10 2 25, ti_iload 1, ti_ald 25, ti_const 29, ti_div, ti_goto 86], 60) := rfl
theorem cb_X10_sort_63 (G : jx_G) : cd_X10_sort G 63 = ([ti_iload 2, ti_const 1, ti_icmp (fun x y => ¬ x = y) 80, ti_aload 0, ti_getP 10 2 25, ti_iload 1, ti_ald 25, ti_const 29, ti_rem, ti_goto 86], 77) := rfl
theorem cb_X10_sort_80 (G : jx_G) : cd_X10_sort G 80 = ([ti_aload 0, ti_getP 10 3 26, ti_iload 1, ti_ald 26], 86) := rfl
theorem cb_X10_sort_86 (G : jx_G) : cd_X10_sort G 86 = ([ti_iret 0 0], 86) := rfl
theorem cb_X10_sort_87 (G : jx_G) : cd_X10_sort G 87 = ([ti_iload 2, ti_const 3, ti_icmp (fun x y => ¬ x = y) 101, ti_aload 0, ti_getP 10 4 27, ti_iload 1, ti_ald 27, ti_goto 145], 98) := rfl
theorem cb_X10_sort_101 (G : jx_G) : cd_X10_sort G 101 = ([ti_iload 2, ti_const 4, ti_icmp (fun x y => ¬ x = y) 114, ti_aload 0, ti_iload 1, ti_callV G m_X10_placeOf 10 1 0 0 0 0, ti_goto 145], 111) := rfl
theorem cb_X10_sort_114 (G : jx_G) : cd_X10_sort G 114 = ([ti_iload 2, ti_const 5, ti_icmp (fun x y => ¬ x = y) 136, ti_aload 0, ti_getP 10 5 28, ti_iload 1, ti_ald 28, ti_if (fun x => x = 0) 132, ti_const 1, ti_goto 145], 129) := rfl
theorem cb_X10_sort_132 (G : jx_G) : cd_X10_sort G 132 = ([ti_const 0, ti_goto 145], 133) := rfl
theorem cb_X10_sort_136 (G : jx_G) : cd_X10_sort G 136 = ([ti_aload 0, ti_getP 10 2 25, ti_iload 1, ti_ald 25, ti_call G m_X10_widthOf 1 0 0 0 0], 145) := rfl
theorem cb_X10_sort_145 (G : jx_G) : cd_X10_sort G 145 = ([ti_iret 0 0], 145) := rfl
theorem cb_X10_lines_0 (G : jx_G) : cd_X10_lines G 0 = ([ti_aload 0, ti_const 0, ti_putI 10 0, ti_aload 0, ti_getI 10 14, ti_iret 0 0], 9) := rfl
theorem cb_X10_line_0 (G : jx_G) : cd_X10_line G 0 = ([ti_aload 0, ti_aload 0, ti_iload 1, ti_callV G m_X10_isLine 10 1 0 0 0 0, ti_if (fun x => ¬ x = 0) 13, ti_const 1, ti_goto 28], 10) := rfl
theorem cb_X10_line_13 (G : jx_G) : cd_X10_line G 13 = ([ti_iload 2, ti_const 0, ti_const 7, ti_call G m_X10_within 3 0 0 0 0, ti_if (fun x => ¬ x = 0) 27, ti_const 2, ti_goto 28], 24) := rfl
theorem cb_X10_line_27 (G : jx_G) : cd_X10_line G 27 = ([ti_const 0], 28) := rfl
theorem cb_X10_line_28 (G : jx_G) : cd_X10_line G 28 = ([ti_callV G m_X10_refused 10 1 0 0 0 0, ti_if (fun x => x = 0) 36, ti_const 0, ti_iret 0 0], 35) := rfl
theorem cb_X10_line_36 (G : jx_G) : cd_X10_line G 36 = ([ti_const 0, ti_istore 3, ti_const (-1), ti_istore 4, ti_aload 0, ti_getP 10 16 35, ti_iload 1, ti_ald 35, ti_const 1, ti_bin (fun x y => x - y), ti_istore 5], 51) := rfl
theorem cb_X10_line_51 (G : jx_G) : cd_X10_line G 51 = ([ti_iload 5, ti_if (fun x => x < 0) 99, ti_iload 3, ti_aload 0, ti_iload 1, ti_iload 5, ti_callV G m_X10_isWrong 10 2 0 0 0 0, ti_if (fun x => x = 0) 71, ti_const 1, ti_goto 72], 68) := rfl
theorem cb_X10_line_71 (G : jx_G) : cd_X10_line G 71 = ([ti_const 0], 72) := rfl
theorem cb_X10_line_72 (G : jx_G) : cd_X10_line G 72 = ([ti_bin (fun x y => x + y), ti_istore 3, ti_aload 0, ti_iload 1, ti_iload 5, ti_callV G m_X10_isWrong 10 2 0 0 0 0, ti_if (fun x => x = 0) 89, ti_iload 5, ti_goto 91], 86) := rfl
theorem cb_X10_line_89 (G : jx_G) : cd_X10_line G 89 = ([ti_iload 4], 91) := rfl
theorem cb_X10_line_91 (G : jx_G) : cd_X10_line G 91 = ([ti_istore 4, ti_iinc 5 (-1), ti_goto 51], 96) := rfl
theorem cb_X10_line_99 (G : jx_G) : cd_X10_line G 99 = ([ti_iload 2, ti_const 4, ti_icmp (fun x y => y ≤ x) 151, ti_iload 2, ti_if (fun x => ¬ x = 0) 117, ti_aload 0, ti_getP 10 15 34, ti_iload 1, ti_ald 34, ti_goto 150], 114) := rfl
theorem cb_X10_line_117 (G : jx_G) : cd_X10_line G 117 = ([ti_iload 2, ti_const 1, ti_icmp (fun x y => ¬ x = y) 131, ti_aload 0, ti_getP 10 16 35, ti_iload 1, ti_ald 35, ti_goto 150], 128) := rfl
theorem cb_X10_line_131 (G : jx_G) : cd_X10_line G 131 = ([ti_iload 2, ti_const 2, ti_icmp (fun x y => ¬ x = y) 145, ti_aload 0, ti_getP 10 19 38, ti_iload 1, ti_ald 38, ti_goto 150], 142) := rfl
theorem cb_X10_line_145 (G : jx_G) : cd_X10_line G 145 = ([ti_aload 0, ti_iload 1, ti_callV G m_X10_slackOf 10 1 0 0 0 0], 150) := rfl
theorem cb_X10_line_150 (G : jx_G) : cd_X10_line G 150 = ([ti_iret 0 0], 150) := rfl
theorem cb_X10_line_151 (G : jx_G) : cd_X10_line G 151 = ([ti_iload 2, ti_const 4, ti_icmp (fun x y => ¬ x = y) 165, ti_aload 0, ti_getP 10 23 42, ti_iload 1, ti_ald 42, ti_goto 196], 162) := rfl
theorem cb_X10_line_165 (G : jx_G) : cd_X10_line G 165 = ([ti_iload 2, ti_const 5, ti_icmp (fun x y => ¬ x = y) 174, ti_iload 3, ti_goto 196], 171) := rfl
theorem cb_X10_line_174 (G : jx_G) : cd_X10_line G 174 = ([ti_iload 2, ti_const 6, ti_icmp (fun x y => ¬ x = y) 185, ti_iload 4, ti_goto 196], 182) := rfl
theorem cb_X10_line_185 (G : jx_G) : cd_X10_line G 185 = ([ti_aload 0, ti_iload 1, ti_aload 0, ti_getP 10 19 38, ti_iload 1, ti_ald 38, ti_callV G m_X10_unitsIn 10 2 0 0 0 0], 196) := rfl
theorem cb_X10_line_196 (G : jx_G) : cd_X10_line G 196 = ([ti_iret 0 0], 196) := rfl
theorem cb_X10_sortAt_0 (G : jx_G) : cd_X10_sortAt G 0 = ([ti_aload 0, ti_iload 1, ti_callV G m_X10_isLine 10 1 0 0 0 0, ti_if (fun x => x = 0) 28, ti_iload 2, ti_const 0, ti_aload 0, ti_getP 10 16 35, ti_iload 1, ti_ald 35, ti_const 1, ti_bin (fun x y => x - y), ti_call G m_X10_within 3 0 0 0 0, ti_if (fun x => x = 0) 28, ti_const 1, ti_goto 29], 25) := rfl
theorem cb_X10_sortAt_28 (G : jx_G) : cd_X10_sortAt G 28 = ([ti_const 0], 29) := rfl
theorem cb_X10_sortAt_29 (G : jx_G) : cd_X10_sortAt G 29 = ([ti_istore 3, ti_aload 0, ti_iload 3, ti_if (fun x => x = 0) 39, ti_const 0, ti_goto 40], 36) := rfl
theorem cb_X10_sortAt_39 (G : jx_G) : cd_X10_sortAt G 39 = ([ti_const 1], 40) := rfl
theorem cb_X10_sortAt_40 (G : jx_G) : cd_X10_sortAt G 40 = ([ti_callV G m_X10_refused 10 1 0 0 0 0, ti_if (fun x => x = 0) 50, ti_const 0, ti_goto 61], 47) := rfl
theorem cb_X10_sortAt_50 (G : jx_G) : cd_X10_sortAt G 50 = ([ti_aload 0, ti_getP 10 17 36, ti_const 64, ti_iload 1, ti_bin (fun x y => x * y), ti_iload 2, ti_bin (fun x y => x + y), ti_ald 36], 61) := rfl
theorem cb_X10_sortAt_61 (G : jx_G) : cd_X10_sortAt G 61 = ([ti_iret 0 0], 61) := rfl
theorem cb_X10_gap_0 (G : jx_G) : cd_X10_gap G 0 = ([ti_aload 0, ti_iload 1, ti_callV G m_X10_isLine 10 1 0 0 0 0, ti_if (fun x => x = 0) 28, ti_iload 2, ti_const 0, ti_aload 0, ti_getP 10 19 38, ti_iload 1, ti_ald 38, ti_const 1, ti_bin (fun x y => x - y), ti_call G m_X10_within 3 0 0 0 0, ti_if (fun x => x = 0) 28, ti_const 1, ti_goto 29], 25) := rfl
theorem cb_X10_gap_28 (G : jx_G) : cd_X10_gap G 28 = ([ti_const 0], 29) := rfl
theorem cb_X10_gap_29 (G : jx_G) : cd_X10_gap G 29 = ([ti_istore 3, ti_aload 0, ti_iload 3, ti_if (fun x => x = 0) 39, ti_const 0, ti_goto 40], 36) := rfl
theorem cb_X10_gap_39 (G : jx_G) : cd_X10_gap G 39 = ([ti_const 1], 40) := rfl
theorem cb_X10_gap_40 (G : jx_G) : cd_X10_gap G 40 = ([ti_callV G m_X10_refused 10 1 0 0 0 0, ti_if (fun x => x = 0) 50, ti_const 0, ti_goto 56], 47) := rfl
theorem cb_X10_gap_50 (G : jx_G) : cd_X10_gap G 50 = ([ti_aload 0, ti_iload 1, ti_iload 2, ti_callV G m_X10_unitsIn 10 2 0 0 0 0], 56) := rfl
theorem cb_X10_gap_56 (G : jx_G) : cd_X10_gap G 56 = ([ti_iret 0 0], 56) := rfl
theorem cb_X10_form_0 (G : jx_G) : cd_X10_form G 0 = ([ti_aload 0, ti_aload 0, ti_iload 1, ti_callV G m_X10_isForm 10 1 0 0 0 0, ti_if (fun x => ¬ x = 0) 13, ti_const 1, ti_goto 27], 10) := rfl
theorem cb_X10_form_13 (G : jx_G) : cd_X10_form G 13 = ([ti_iload 2, ti_const 0, ti_const 2, ti_call G m_X10_within 3 0 0 0 0, ti_if (fun x => ¬ x = 0) 26, ti_const 2, ti_goto 27], 23) := rfl
theorem cb_X10_form_26 (G : jx_G) : cd_X10_form G 26 = ([ti_const 0], 27) := rfl
theorem cb_X10_form_27 (G : jx_G) : cd_X10_form G 27 = ([ti_callV G m_X10_refused 10 1 0 0 0 0, ti_if (fun x => x = 0) 35, ti_const 0, ti_iret 0 0], 34) := rfl
theorem cb_X10_form_35 (G : jx_G) : cd_X10_form G 35 = ([ti_const 0, ti_istore 3, ti_const 0, ti_istore 4], 40) := rfl
theorem cb_X10_form_40 (G : jx_G) : cd_X10_form G 40 = ([ti_iload 4, ti_aload 0, ti_getI 10 14, ti_icmp (fun x y => y ≤ x) 74, ti_iload 3, ti_aload 0, ti_getP 10 23 42, ti_iload 4, ti_ald 42, ti_iload 1, ti_icmp (fun x y => ¬ x = y) 65, ti_const 1, ti_goto 66], 62) := rfl
theorem cb_X10_form_65 (G : jx_G) : cd_X10_form G 65 = ([ti_const 0], 66) := rfl
theorem cb_X10_form_66 (G : jx_G) : cd_X10_form G 66 = ([ti_bin (fun x y => x + y), ti_istore 3, ti_iinc 4 1, ti_goto 40], 71) := rfl
theorem cb_X10_form_74 (G : jx_G) : cd_X10_form G 74 = ([ti_iload 2, ti_if (fun x => ¬ x = 0) 87, ti_aload 0, ti_getP 10 25 43, ti_iload 1, ti_ald 43, ti_goto 102], 84) := rfl
theorem cb_X10_form_87 (G : jx_G) : cd_X10_form G 87 = ([ti_iload 2, ti_const 1, ti_icmp (fun x y => ¬ x = y) 96, ti_iload 3, ti_goto 102], 93) := rfl
theorem cb_X10_form_96 (G : jx_G) : cd_X10_form G 96 = ([ti_aload 0, ti_getP 10 26 44, ti_iload 1, ti_ald 44], 102) := rfl
theorem cb_X10_form_102 (G : jx_G) : cd_X10_form G 102 = ([ti_iret 0 0], 102) := rfl
theorem cb_X10_printed_0 (G : jx_G) : cd_X10_printed G 0 = ([ti_aload 0, ti_iload 1, ti_const 0, ti_aload 0, ti_getI 10 28, ti_const 1, ti_bin (fun x y => x - y), ti_call G m_X10_within 3 0 0 0 0, ti_if (fun x => x = 0) 19, ti_const 0, ti_goto 20], 16) := rfl
theorem cb_X10_printed_19 (G : jx_G) : cd_X10_printed G 19 = ([ti_const 1], 20) := rfl
theorem cb_X10_printed_20 (G : jx_G) : cd_X10_printed G 20 = ([ti_callV G m_X10_refused 10 1 0 0 0 0, ti_if (fun x => x = 0) 31, ti_const 32, ti_goto 37], 28) := rfl
theorem cb_X10_printed_31 (G : jx_G) : cd_X10_printed G 31 = ([ti_aload 0, ti_getP 10 27 45, ti_iload 1, ti_ald 45], 37) := rfl
theorem cb_X10_printed_37 (G : jx_G) : cd_X10_printed G 37 = ([ti_cret 0 0], 37) := rfl
theorem cb_X10_pie_0 (G : jx_G) : cd_X10_pie G 0 = ([ti_aload 0, ti_const 0, ti_putI 10 0, ti_aload 0, ti_getI 10 9, ti_iret 0 0], 9) := rfl
theorem cb_X10_lead_0 (G : jx_G) : cd_X10_lead G 0 = ([ti_aload 0, ti_iload 1, ti_iload 2, ti_call G m_X10_isBox 2 0 0 0 0, ti_if (fun x => x = 0) 13, ti_const 0, ti_goto 14], 10) := rfl
theorem cb_X10_lead_13 (G : jx_G) : cd_X10_lead G 13 = ([ti_const 1], 14) := rfl
theorem cb_X10_lead_14 (G : jx_G) : cd_X10_lead G 14 = ([ti_callV G m_X10_refused 10 1 0 0 0 0, ti_if (fun x => x = 0) 22, ti_const 0, ti_iret 0 0], 21) := rfl
theorem cb_X10_lead_22 (G : jx_G) : cd_X10_lead G 22 = ([ti_const 0, ti_istore 3, ti_const 0, ti_istore 4], 27) := rfl
theorem cb_X10_lead_27 (G : jx_G) : cd_X10_lead G 27 = ([ti_iload 4, ti_aload 0, ti_getI 10 1, ti_icmp (fun x y => y ≤ x) 77, ti_iload 3, ti_aload 0, ti_getP 10 2 25, ti_iload 4, ti_ald 25, ti_const 29, ti_iload 1, ti_bin (fun x y => x * y), ti_iload 2, ti_bin (fun x y => x + y), ti_icmp (fun x y => ¬ x = y) 68, ti_aload 0, ti_getP 10 4 27, ti_iload 4, ti_ald 27, ti_const 3, ti_icmp (fun x y => x = y) 68, ti_const 1, ti_goto 69], 65) := rfl
theorem cb_X10_lead_68 (G : jx_G) : cd_X10_lead G 68 = ([ti_const 0], 69) := rfl
theorem cb_X10_lead_69 (G : jx_G) : cd_X10_lead G 69 = ([ti_bin (fun x y => x + y), ti_istore 3, ti_iinc 4 1, ti_goto 27], 74) := rfl
theorem cb_X10_lead_77 (G : jx_G) : cd_X10_lead G 77 = ([ti_iload 3, ti_iret 0 0], 78) := rfl
theorem cb_X10_leadAnew_0 (G : jx_G) : cd_X10_leadAnew G 0 = ([ti_aload 0, ti_iload 1, ti_iload 2, ti_callV G m_X10_lead 10 2 0 0 0 0, ti_iret 0 0], 6) := rfl
theorem cb_X10_ahead_0 (G : jx_G) : cd_X10_ahead G 0 = ([ti_aload 0, ti_iload 1, ti_const 0, ti_const 1, ti_call G m_X10_within 3 0 0 0 0, ti_if (fun x => x = 0) 14, ti_const 0, ti_goto 15], 11) := rfl
theorem cb_X10_ahead_14 (G : jx_G) : cd_X10_ahead G 14 = ([ti_const 1], 15) := rfl
theorem cb_X10_ahead_15 (G : jx_G) : cd_X10_ahead G 15 = ([ti_callV G m_X10_refused 10 1 0 0 0 0, ti_if (fun x => x = 0) 23, ti_const 0, ti_iret 0 0], 22) := rfl
theorem cb_X10_ahead_23 (G : jx_G) : cd_X10_ahead G 23 = ([ti_aload 0, ti_callV G m_X10_keepPiles 10 0 0 0 0 0, ti_const 0, ti_istore 2, ti_const 0, ti_istore 3, ti_aload 0, ti_iload 3, ti_iload 1, ti_callV G m_X10_findLine 10 2 0 0 0 0, ti_istore 4], 39) := rfl
theorem cb_X10_ahead_39 (G : jx_G) : cd_X10_ahead G 39 = ([ti_iload 4, ti_if (fun x => x = 0) 187, ti_aload 0, ti_getI 10 31, ti_if (fun x => x = 0) 60, ti_aload 0, ti_getI 10 30, ti_const 1, ti_bin (fun x y => x + y), ti_goto 64], 57) := rfl
theorem cb_X10_ahead_60 (G : jx_G) : cd_X10_ahead G 60 = ([ti_aload 0, ti_getI 10 30], 64) := rfl
theorem cb_X10_ahead_64 (G : jx_G) : cd_X10_ahead G 64 = ([ti_istore 5, ti_aload 0, ti_getI 10 29, ti_istore 6], 72) := rfl
theorem cb_X10_ahead_72 (G : jx_G) : cd_X10_ahead G 72 = ([ti_iload 6, ti_iload 5, ti_icmp (fun x y => y ≤ x) 147, ti_iload 4, ti_if (fun x => x = 0) 147, ti_iload 6, ti_aload 0, ti_getI 10 30, ti_icmp (fun x y => ¬ x = y) 98, ti_const 45, ti_goto 105], 95) := rfl
theorem cb_X10_ahead_98 (G : jx_G) : cd_X10_ahead G 98 = ([ti_aload 0, ti_getP 10 11 33, ti_iload 6, ti_ald 33], 105) := rfl
theorem cb_X10_ahead_105 (G : jx_G) : cd_X10_ahead G 105 = ([ti_istore 7, ti_iload 7, ti_const 32, ti_icmp (fun x y => x = y) 134, ti_aload 0, ti_const 29, ti_iload 1, ti_bin (fun x y => x * y), ti_iload 7, ti_call G m_X10_boxOf 1 0 0 0 0, ti_bin (fun x y => x + y), ti_iload 1, ti_const 0, ti_callV G m_X10_pick 10 3 0 0 0 0, ti_const (-1), ti_icmp (fun x y => x = y) 138], 134) := rfl
theorem cb_X10_ahead_134 (G : jx_G) : cd_X10_ahead G 134 = ([ti_const 1, ti_goto 139], 135) := rfl
theorem cb_X10_ahead_138 (G : jx_G) : cd_X10_ahead G 138 = ([ti_const 0], 139) := rfl
theorem cb_X10_ahead_139 (G : jx_G) : cd_X10_ahead G 139 = ([ti_istore 4, ti_iinc 6 1, ti_goto 72], 144) := rfl
theorem cb_X10_ahead_147 (G : jx_G) : cd_X10_ahead G 147 = ([ti_iload 2, ti_iload 4, ti_if (fun x => x = 0) 157, ti_const 1, ti_goto 158], 154) := rfl
theorem cb_X10_ahead_157 (G : jx_G) : cd_X10_ahead G 157 = ([ti_const 0], 158) := rfl
theorem cb_X10_ahead_158 (G : jx_G) : cd_X10_ahead G 158 = ([ti_bin (fun x y => x + y), ti_istore 2, ti_iload 4, ti_if (fun x => x = 0) 181, ti_aload 0, ti_aload 0, ti_getI 10 30, ti_iload 1, ti_callV G m_X10_findLine 10 2 0 0 0 0, ti_if (fun x => x = 0) 181, ti_const 1, ti_goto 182], 178) := rfl
theorem cb_X10_ahead_181 (G : jx_G) : cd_X10_ahead G 181 = ([ti_const 0], 182) := rfl
theorem cb_X10_ahead_182 (G : jx_G) : cd_X10_ahead G 182 = ([ti_istore 4, ti_goto 39], 184) := rfl
theorem cb_X10_ahead_187 (G : jx_G) : cd_X10_ahead G 187 = ([ti_aload 0, ti_callV G m_X10_bringPilesBack 10 0 0 0 0 0, ti_iload 2, ti_iret 0 0], 192) := rfl
