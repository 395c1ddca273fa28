/-! one woman more: the reference -/
theorem MV_ad {σ : Sg} {ℓ : Int} {nr nw ng : Nat} (hV : MV σ ℓ nr nw ng) (h3 : nw ≤ 3) (h0 : 0 < nw) : MV (adS σ nw) ℓ nr (nw + 1) ng := by
  obtain ⟨⟨s1, s2, s3, s4, s5⟩, v2, v3, v4⟩ := hV
  refine ⟨⟨s1, by omega, fun r hr => ?_, fun w hw => ?_, s5⟩, v2, fun q hq => ?_, by rw [ad_chn]; exact v4⟩
  · have := s3 r hr
    unfold RV at this ⊢
    rw [ad_o (by omega), ad_o (by omega), ad_o (by omega), ad_o (by omega), ad_o (by omega), ad_o (by omega), ad_o (by omega)]
    exact this
  · unfold WV
    by_cases e : w = nw
    · have := s4 0 h0
      unfold WV at this
      have a : ∀ k, (k = 7 ∨ k = 8 ∨ k = 9) → adS σ nw k w = σ k 0 := fun k hk => by unfold adS; rw [if_pos ⟨hk, e⟩]
      rw [a 7 (by omega), a 8 (by omega), a 9 (by omega)]
      exact this
    · have := s4 w (by omega)
      unfold WV at this
      rw [ad_o (by omega), ad_o (by omega), ad_o (by omega)]
      exact this
  · have := v3 q hq
    unfold GV at this ⊢
    rw [ad_o (by omega), ad_o (by omega), ad_o (by omega), ad_o (by omega)]
    exact this
theorem CAN_ad {σ : Sg} {nr nw : Nat} (h : CAN σ nr) : CAN (adS σ nw) nr := fun r hr => by
  rw [ad_o (by omega), ad_o (by omega)]
  exact h r hr
theorem ARS_ad {σ : Sg} {ng nw : Nat} (h : ARS σ ng) : ARS (adS σ nw) ng := by
  obtain ⟨ar, a1, a2⟩ := h
  refine ⟨ar, a1, fun i j hi hj => ?_⟩
  have := a2 i j hi hj
  unfold bef at this ⊢
  rw [ad_o (by omega), ad_o (by omega)]
  exact this
