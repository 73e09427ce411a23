/-! THE LAW: what it asks, call by call -/
theorem in_n {k n : Nat} (hk : k < n) (hn : n < 2 ^ 31) : inR (nI k) 0 (nI n - nI 1) := by
  refine ⟨(nI_leI (a := 0) (by omega) (by omega)).mpr (Nat.zero_le _), ?_⟩
  rw [pk_sub (by omega), nI_leI (by omega) (by omega)]
  omega
theorem in_c {k n : Nat} (hk : k ≤ n) (hn : n < 2 ^ 31) : inR (nI k) 0 (nI n) := ⟨(nI_leI (a := 0) (by omega) (by omega)).mpr (Nat.zero_le _), (nI_leI (by omega) (by omega)).mpr hk⟩
theorem out_n {k n : Nat} (hk : n ≤ k) (hk2 : k < 2 ^ 31) : ¬ inR (nI k) 0 (nI n - nI 1) := fun h => by
  have := (in_lt (n := n) (by omega) h).1
  rw [jn_nI hk2] at this
  omega
theorem bx_k {k : Nat} (hk : k < 58) : isBx (nI (k / 29)) (nI (k % 29)) ∧ 29 * jn (nI (k / 29)) + jn (nI (k % 29)) = k := by
  have h1 : k / 29 ≤ 1 := by omega
  have h2 : k % 29 ≤ 28 := by omega
  refine ⟨⟨in_c (n := 1) h1 (by omega), in_c (n := 28) h2 (by omega)⟩, ?_⟩
  rw [jn_nI (by omega), jn_nI (by omega)]
  omega
theorem jI_rt (x : Int32) : (jI x.toInt).toInt32 = x := by
  unfold jI
  rw [Int64.toInt32_ofInt, Int32.ofInt_toInt]
theorem no_toInt : (nI 4294967295).toInt = -1 := by decide +kernel
theorem hl_lines (G : jx_G) {M : jx_M} {S : jS} {Q : jx_O → jx_M → Prop} (hM : CE M S) (hQ : ∀ M', CE M' S → Q (rI (S 10 14)) M') : Mt G m_X9_lines [v9] M Q := by
  obtain ⟨p, hM⟩ := hM
  exact kp_lines G ⟨hM, KP.rf⟩ ⟨fun _ M' p' hM' => hQ M' ⟨p', hM'.1⟩, fun h => absurd rfl h⟩
theorem hl_pie (G : jx_G) {M : jx_M} {S : jS} {Q : jx_O → jx_M → Prop} (hM : CE M S) (hQ : ∀ M', CE M' S → Q (rI (S 10 9)) M') : Mt G m_X9_pie [v9] M Q := by
  obtain ⟨p, hM⟩ := hM
  exact kp_pie G ⟨hM, KP.rf⟩ ⟨fun _ M' p' hM' => hQ M' ⟨p', hM'.1⟩, fun h => absurd rfl h⟩
theorem hq_sort (G : jx_G) (hst : (gl G).stackTraces = false) {M : jx_M} {S : jS} {Q : jx_O → jx_M → Prop} {k w : Nat} (hM : CE M S) (hW : Wf S) (h0 : W0 S) (hk : k < S 10 1) (hw : w ≤ 6) (hQ : ∀ M', CE M' S → Q (rJ ((sf_sortV S k w).toInt)) M') : Mh G m_L_sort hh_L_sort [v9, vI k, vI w] M Q := by
  have hn := hW.1.1.1
  have e : sf_sort S (nI k) (nI w) = (0, sf_sortV S k w, S) := by
    unfold sf_sort
    rw [if_pos (in_n hk (by omega)), if_pos (show inR (nI w) 0 6 from in_c (n := 6) hw (by omega)), jn_nI (by omega), jn_nI (by omega)]
  refine hp_sort G hst hM hW h0 (fun M' hM' => ?_)
  rw [e] at hM' ⊢
  exact hQ M' hM'
theorem hq_inBox (G : jx_G) (hst : (gl G).stackTraces = false) {M : jx_M} {S : jS} {Q : jx_O → jx_M → Prop} {k : Nat} (hM : CE M S) (hW : Wf S) (h0 : W0 S) (hk : k < 58) (hQ : ∀ M', CE M' S → Q (rJ ((nI (S 30 k)).toInt)) M') : Mh G m_L_inBox hh_L_inBox [v9, vI (k / 29), vI (k % 29)] M Q := by
  obtain ⟨b1, b2⟩ := bx_k hk
  have e : sf_inBox S (nI (k / 29)) (nI (k % 29)) = (0, nI (S 30 k), S) := by
    unfold sf_inBox
    rw [if_pos b1, b2]
  refine hp_inBox G hst hM hW h0 (fun M' hM' => ?_)
  rw [e] at hM' ⊢
  exact hQ M' hM'
theorem hq_lead (G : jx_G) (hst : (gl G).stackTraces = false) {M : jx_M} {S : jS} {Q : jx_O → jx_M → Prop} {k : Nat} (hM : CE M S) (hW : Wf S) (h0 : W0 S) (hk : k < 58) (hQ : ∀ M', CE M' S → Q (rJ ((nI (spLead S k (S 10 1))).toInt)) M') : Mh G m_L_lead hh_L_lead [v9, vI (k / 29), vI (k % 29)] M Q := by
  obtain ⟨b1, b2⟩ := bx_k hk
  have e : sf_lead S (nI (k / 29)) (nI (k % 29)) = (0, nI (spLead S k (S 10 1)), S) := by
    unfold sf_lead
    rw [if_pos b1, b2]
  refine hp_lead G hst hM hW h0 (fun M' hM' => ?_)
  rw [e] at hM' ⊢
  exact hQ M' hM'
theorem hq_leadAnew (G : jx_G) (hst : (gl G).stackTraces = false) {M : jx_M} {S : jS} {Q : jx_O → jx_M → Prop} {k : Nat} (hM : CE M S) (hW : Wf S) (h0 : W0 S) (hk : k < 58) (hQ : ∀ M', CE M' S → Q (rJ ((nI (spLead S k (S 10 1))).toInt)) M') : Mh G m_L_leadAnew hh_L_leadAnew [v9, vI (k / 29), vI (k % 29)] M Q := by
  obtain ⟨b1, b2⟩ := bx_k hk
  have e : sf_lead S (nI (k / 29)) (nI (k % 29)) = (0, nI (spLead S k (S 10 1)), S) := by
    unfold sf_lead
    rw [if_pos b1, b2]
  refine hp_leadAnew G hst hM hW h0 (fun M' hM' => ?_)
  rw [e] at hM' ⊢
  exact hQ M' hM'
theorem hq_top (G : jx_G) (hst : (gl G).stackTraces = false) {M : jx_M} {S : jS} {Q : jx_O → jx_M → Prop} {k : Nat} (hM : CE M S) (hW : Wf S) (h0 : W0 S) (hk : k < 58) (hQ : ∀ M', CE M' S → Q (rJ ((nI (if S 30 k = 0 then jNo else S 29 (300 * k + S 30 k - 1))).toInt)) M') : Mh G m_L_top hh_L_top [v9, vI (k / 29), vI (k % 29)] M Q := by
  obtain ⟨b1, b2⟩ := bx_k hk
  have e : sf_top S (nI (k / 29)) (nI (k % 29)) = (0, nI (if S 30 k = 0 then jNo else S 29 (300 * k + S 30 k - 1)), S) := by
    unfold sf_top
    rw [if_pos b1, b2]
  refine hp_top G hst hM hW h0 (fun M' hM' => ?_)
  rw [e] at hM' ⊢
  exact hQ M' hM'
theorem hq_line (G : jx_G) (hst : (gl G).stackTraces = false) {M : jx_M} {S : jS} {Q : jx_O → jx_M → Prop} {l w : Nat} (hM : CE M S) (hW : Wf S) (h0 : W0 S) (hl : l < S 10 14) (hw : w ≤ 7) (hQ : ∀ M', CE M' S → Q (rJ ((sf_lineV S l w).toInt)) M') : Mh G m_L_line hh_L_line [v9, vI l, vI w] M Q := by
  have hn := hW.1.1.1
  have e : sf_line S (nI l) (nI w) = (0, sf_lineV S l w, S) := by
    unfold sf_line
    rw [if_pos (in_n hl (by omega)), if_pos (show inR (nI w) 0 7 from in_c (n := 7) hw (by omega)), jn_nI (by omega), jn_nI (by omega)]
  refine hp_line G hst hM hW h0 (fun M' hM' => ?_)
  rw [e] at hM' ⊢
  exact hQ M' hM'
theorem hq_sortAt (G : jx_G) (hst : (gl G).stackTraces = false) {M : jx_M} {S : jS} {Q : jx_O → jx_M → Prop} {l k : Nat} (hM : CE M S) (hW : Wf S) (h0 : W0 S) (hl : l < S 10 14) (hk : k < S 35 l) (hQ : ∀ M', CE M' S → Q (rJ ((nI (S 36 (64 * l + k))).toInt)) M') : Mh G m_L_sortAt hh_L_sortAt [v9, vI l, vI k] M Q := by
  have hn := hW.1.1.1
  have h60 := (hW.2.2.1 l hl).1
  have e : sf_sortAt S (nI l) (nI k) = (0, nI (S 36 (64 * l + k)), S) := by
    have hc : jn (nI l) = l := nI_clamp (by omega)
    unfold sf_sortAt
    rw [hc, if_pos ⟨in_n hl (by omega), in_n hk (by omega)⟩, jn_nI (by omega)]
  refine hp_sortAt G hst hM hW h0 (fun M' hM' => ?_)
  rw [e] at hM' ⊢
  exact hQ M' hM'
theorem hq_sortAtN (G : jx_G) (hst : (gl G).stackTraces = false) {M : jx_M} {S : jS} {Q : jx_O → jx_M → Prop} {l : Nat} (hM : CE M S) (hW : Wf S) (h0 : W0 S) (hl : l < S 10 14) (hQ : ∀ M', CE M' S → Q (rJ (-9000000000000000001)) M') : Mh G m_L_sortAt hh_L_sortAt [v9, vI l, vI (S 35 l)] M Q := by
  have hn := hW.1.1.1
  have h60 := (hW.2.2.1 l hl).1
  have e : sf_sortAt S (nI l) (nI (S 35 l)) = (1, 0, S) := by
    have hc : jn (nI l) = l := nI_clamp (by omega)
    unfold sf_sortAt
    rw [hc, if_neg (fun q => out_n (Nat.le_refl _) (by omega) q.2)]
  refine hp_sortAt G hst hM hW h0 (fun M' hM' => ?_)
  rw [e] at hM' ⊢
  exact hQ M' hM'
theorem hq_gap (G : jx_G) (hst : (gl G).stackTraces = false) {M : jx_M} {S : jS} {Q : jx_O → jx_M → Prop} {l g : Nat} (hM : CE M S) (hW : Wf S) (h0 : W0 S) (hl : l < S 10 14) (hg : g < S 38 l) (hQ : ∀ M', CE M' S → Q (rJ ((nI (spUnits S l g)).toInt)) M') : Mh G m_L_gap hh_L_gap [v9, vI l, vI g] M Q := by
  have hn := hW.1.1.1
  have h60 := (hW.2.2.1 l hl).1
  have e : sf_gap S (nI l) (nI g) = (0, nI (spUnits S l g), S) := by
    have hc : jn (nI l) = l := nI_clamp (by omega)
    unfold sf_gap
    rw [hc, if_pos ⟨in_n hl (by omega), in_n hg (by omega)⟩, jn_nI (by omega)]
  refine hp_gap G hst hM hW h0 (fun M' hM' => ?_)
  rw [e] at hM' ⊢
  exact hQ M' hM'
theorem hq_gapN (G : jx_G) (hst : (gl G).stackTraces = false) {M : jx_M} {S : jS} {Q : jx_O → jx_M → Prop} {l : Nat} (hM : CE M S) (hW : Wf S) (h0 : W0 S) (hl : l < S 10 14) (hQ : ∀ M', CE M' S → Q (rJ (-9000000000000000001)) M') : Mh G m_L_gap hh_L_gap [v9, vI l, vI (S 38 l)] M Q := by
  have hn := hW.1.1.1
  have h60 := (hW.2.2.1 l hl).1
  have e : sf_gap S (nI l) (nI (S 38 l)) = (1, 0, S) := by
    have hc : jn (nI l) = l := nI_clamp (by omega)
    unfold sf_gap
    rw [hc, if_neg (fun q => out_n (Nat.le_refl _) (by omega) q.2)]
  refine hp_gap G hst hM hW h0 (fun M' hM' => ?_)
  rw [e] at hM' ⊢
  exact hQ M' hM'
theorem hq_inSpaces (G : jx_G) (hst : (gl G).stackTraces = false) {M : jx_M} {S : jS} {Q : jx_O → jx_M → Prop} {u : Nat} (hM : CE M S) (hW : Wf S) (h0 : W0 S) (h1 : 1 ≤ u) (h6 : u ≤ 6) (h5 : ¬ u = 5) (hQ : ∀ M', CE M' S → Q (rJ ((nI (S 32 u)).toInt)) M') : Mh G m_L_inSpaces hh_L_inSpaces [v9, vI u] M Q := by
  have e : sf_inSpaces S (nI u) = (0, nI (S 32 u), S) := by
    have hu : isUn (nI u) := ⟨⟨(nI_leI (a := 1) (by omega) (by omega)).mpr h1, (nI_leI (b := 6) (by omega) (by omega)).mpr h6⟩, fun q => h5 ((nI_eq (b := 5) (by omega) (by omega)).mp q)⟩
    unfold sf_inSpaces
    rw [if_pos hu, jn_nI (by omega)]
  refine hp_inSpaces G hst hM hW h0 (fun M' hM' => ?_)
  rw [e] at hM' ⊢
  exact hQ M' hM'
theorem hq_form (G : jx_G) (hst : (gl G).stackTraces = false) {M : jx_M} {S : jS} {Q : jx_O → jx_M → Prop} {f : Nat} (hM : CE M S) (hW : Wf S) (h0 : W0 S) (hf : f < S 10 24) (hQ : ∀ M', CE M' S → Q (rJ ((nI (S 43 f)).toInt)) M') : Mh G m_L_form hh_L_form [v9, vI f, vI 0] M Q := by
  have hn := hW.1.1.1
  have e : sf_form S (nI f) (nI 0) = (0, nI (S 43 f), S) := by
    unfold sf_form
    rw [if_pos (in_n hf (by omega)), if_pos (show inR (nI 0) 0 2 from in_c (n := 2) (by omega) (by omega)), jn_nI (by omega), jn_nI (by omega), if_pos rfl]
  refine hp_form G hst hM hW h0 (fun M' hM' => ?_)
  rw [e] at hM' ⊢
  exact hQ M' hM'
theorem hq_printed (G : jx_G) (hst : (gl G).stackTraces = false) {M : jx_M} {S : jS} {Q : jx_O → jx_M → Prop} {k : Nat} (hM : CE M S) (hW : Wf S) (h0 : W0 S) (hk : k < S 10 28) (hQ : ∀ M', CE M' S → Q (rJ ((nI (S 45 k)).toInt)) M') : Mh G m_L_printed hh_L_printed [v9, vI k] M Q := by
  have hn := hW.1.1.1
  have e : sf_printed S (nI k) = (0, nI (S 45 k), S) := by
    unfold sf_printed
    rw [if_pos (in_n hk (by omega)), jn_nI (by omega)]
  refine hp_printed G hst hM hW h0 (fun M' hM' => ?_)
  rw [e] at hM' ⊢
  exact hQ M' hM'
theorem hq_printedN (G : jx_G) (hst : (gl G).stackTraces = false) {M : jx_M} {S : jS} {Q : jx_O → jx_M → Prop} (hM : CE M S) (hW : Wf S) (h0 : W0 S) (hQ : ∀ M', CE M' S → Q (rJ (-9000000000000000001)) M') : Mh G m_L_printed hh_L_printed [v9, vI (S 10 28)] M Q := by
  have hn := hW.1.1.1
  have e : sf_printed S (nI (S 10 28)) = (1, 32, S) := by
    unfold sf_printed
    rw [if_neg (out_n (Nat.le_refl _) (by omega))]
  refine hp_printed G hst hM hW h0 (fun M' hM' => ?_)
  rw [e] at hM' ⊢
  exact hQ M' hM'
theorem hq_ahead (G : jx_G) (hst : (gl G).stackTraces = false) {M : jx_M} {S : jS} {Q : jx_O → jx_M → Prop} {f : Nat} (hM : CE M S) (hW : Wf S) (h0 : W0 S) (hf : f < 2) (hQ : ∀ M', CE M' S → Q (rJ ((nI (ahL S f 61 0 0 (S 30))).toInt)) M') : Mh G m_L_ahead hh_L_ahead [v9, vI f] M Q := by
  have e : sf_aheadR S (nI f) = (0, nI (ahL S f 61 0 0 (S 30))) := by
    unfold sf_aheadR
    rw [if_pos (show inR (nI f) 0 1 from in_c (n := 1) (by omega) (by omega)), jn_nI (by omega)]
  refine hp_ahead G hst hM hW h0 (fun M' hM' => ?_)
  rw [e] at hM' ⊢
  exact hQ M' hM'
