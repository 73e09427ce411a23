theorem S00_at (a b : Nat) : S00 a b = if a = 10 ∧ b = 13 then 60 else 0 := rfl
theorem S00_0 {a b : Nat} (h : ¬ (a = 10 ∧ b = 13)) : S00 a b = 0 := if_neg h
theorem Wf_00 : Wf S00 := by
  have e13 : S00 10 13 = 60 := rfl
  have z : ∀ a b, ¬ (a = 10 ∧ b = 13) → S00 a b = 0 := fun a b h => S00_0 h
  refine ⟨⟨⟨⟨?_, ?_, ?_, ?_, ?_, ?_, ?_⟩, ⟨?_, fun k => ?_, fun k hk => ?_⟩, fun s => ?_, fun s => ?_, fun s => ?_, fun k => ?_, fun k => ?_, fun k => ?_, fun k hk => ?_⟩, ⟨fun k i hk hi => ?_, fun i hi => ?_⟩, fun w => ?_⟩, fun l k hl hk => ?_, fun l hl => ?_, fun a b c h1 h2 h3 h4 h5 => ?_⟩
  · rw [z 10 1 (by omega)]; omega
  · rw [z 10 14 (by omega)]; omega
  · rw [z 10 24 (by omega)]; omega
  · rw [z 10 28 (by omega)]; omega
  · rw [e13]; omega
  · rw [e13]; omega
  · exact z 32 5 (by omega)
  · rw [z 10 12 (by omega)]; omega
  · rw [z 33 k (by omega)]; omega
  · rw [z 10 12 (by omega)] at hk; omega
  · rw [z 25 s (by omega)]; omega
  · rw [z 27 s (by omega)]; omega
  · rw [z 28 s (by omega)]; omega
  · rw [z 41 k (by omega)]; omega
  · rw [z 45 k (by omega)]; omega
  · rw [z 43 k (by omega)]; omega
  · exact z 43 k (by omega)
  · rw [z 30 k (by omega)] at hi; omega
  · rw [z 10 9 (by omega)] at hi; omega
  · have p1 : pws S00 w = 0 := sumr_0 _ (fun k _ => by unfold pw; rw [z 30 k (by omega)]; rfl)
    have p2 : hws S00 w = 0 := by unfold hws; rw [z 10 9 (by omega)]; rfl
    have p3 : lvs S00 w = 0 := by unfold lvs; rw [z 10 1 (by omega)]; rfl
    have p4 : lws S00 w (S00 10 14) = 0 := by rw [z 10 14 (by omega)]; rfl
    rw [p1, p2, p3]
    show 0 + 0 + lws S00 w (S00 10 14) = 0
    rw [p4]
  · rw [z 10 14 (by omega)] at hl; omega
  · rw [z 10 14 (by omega)] at hl; omega
  · rw [z 10 14 (by omega)] at h3; omega
theorem W0_00 : W0 S00 := fun s _ => S00_0 (by omega)
