/-- a giving told at once -/
def GLB (σ : Sg) (nr ng : Nat) (rd b : Nat → Int) : Prop := (∀ q, q < ng → b q = -1 ∨ ∃ r : Nat, b q = (r : Int) ∧ r < nr ∧ rd r ≠ -1 ∧ fitS σ r q = true) ∧ (∀ q p, q < ng → p < ng → b q = b p → b q ≠ -1 → q = p)
theorem VLD_glb {σ : Sg} {nr ng : Nat} {rd b : Nat → Int} : ∀ k m, k ≤ ng → VLD σ nr ng rd b k m → (∀ q, ng - k ≤ q → q < ng → b q = -1 ∨ ∃ r : Nat, b q = (r : Int) ∧ r < nr ∧ rd r ≠ -1 ∧ fitS σ r q = true ∧ m.testBit r = false) ∧ (∀ q p, ng - k ≤ q → q < ng → ng - k ≤ p → p < ng → b q = b p → b q ≠ -1 → q = p)
  | 0, _, _, _ => ⟨fun q h1 h2 => by omega, fun q p h1 h2 => by omega⟩
  | k + 1, m, hk, hv => by
    obtain ⟨h1, h2⟩ := hv
    obtain ⟨i1, i2⟩ := VLD_glb k _ (by omega) h2
    have cn : ∀ r, cnH σ rd (ng - (k + 1)) m r = true → rd r ≠ -1 ∧ fitS σ r (ng - (k + 1)) = true ∧ m.testBit r = false := fun r h => by
      unfold cnH at h
      rw [Bool.and_eq_true, Bool.and_eq_true, decide_eq_true_iff] at h
      exact ⟨h.1.1, h.1.2, by simpa using h.2⟩
    have nb : ∀ r, (nxM m (b (ng - (k + 1)))).testBit r = false → m.testBit r = false ∧ b (ng - (k + 1)) ≠ (r : Int) := fun r h => by
      unfold nxM at h
      rcases h1 with e | ⟨x, e, -, -⟩
      · rw [if_pos e] at h
        exact ⟨h, by rw [e]; omega⟩
      · rw [e, if_neg (by omega), Int.toNat_natCast, or_bit] at h
        rw [Bool.or_eq_false_iff] at h
        have := of_decide_eq_false h.2
        exact ⟨h.1, by rw [e]; omega⟩
    have cross : ∀ q, ng - k ≤ q → q < ng → b q = b (ng - (k + 1)) → b q ≠ -1 → False := fun q a c e hn => by
      rcases i1 q a c with e1 | ⟨r, e1, -, -, -, e2⟩
      · exact hn e1
      · exact (nb r e2).2 (by rw [← e, e1])
    refine ⟨fun q a c => ?_, fun q p a1 a2 a3 a4 e hn => ?_⟩
    · by_cases eq : q = ng - (k + 1)
      · rw [eq]
        rcases h1 with e | ⟨r, e, hr, hc⟩
        · exact Or.inl e
        · obtain ⟨c1, c2, c3⟩ := cn r hc
          exact Or.inr ⟨r, e, hr, c1, c2, c3⟩
      · rcases i1 q (by omega) c with e | ⟨r, e, c1, c2, c3, c4⟩
        · exact Or.inl e
        · exact Or.inr ⟨r, e, c1, c2, c3, (nb r c4).1⟩
    · by_cases eq : q = ng - (k + 1)
      · by_cases ep : p = ng - (k + 1)
        · omega
        · rw [eq] at e hn
          exact absurd (cross p (by omega) a4 e.symm (by rw [← e]; exact hn)) id
      · by_cases ep : p = ng - (k + 1)
        · rw [ep] at e
          exact absurd (cross q (by omega) a2 e hn) id
        · exact i2 q p (by omega) a2 (by omega) a4 e hn
theorem glb_VLD {σ : Sg} {nr ng : Nat} {rd b : Nat → Int} (h : GLB σ nr ng rd b) : ∀ k m, k ≤ ng → (∀ q, ng - k ≤ q → q < ng → ∀ r : Nat, b q = (r : Int) → m.testBit r = false) → VLD σ nr ng rd b k m
  | 0, _, _, _ => trivial
  | k + 1, m, hk, hm => by
    have h1 := h.1 (ng - (k + 1)) (by omega)
    refine ⟨?_, glb_VLD h k _ (by omega) (fun q a c r e => ?_)⟩
    · rcases h1 with e | ⟨r, e, c1, c2, c3⟩
      · exact Or.inl e
      · refine Or.inr ⟨r, e, c1, ?_⟩
        unfold cnH
        rw [decide_eq_true c2, c3, hm _ (Nat.le_refl _) (by omega) r e]; rfl
    · have m1 := hm q (by omega) c r e
      unfold nxM
      rcases h1 with e1 | ⟨x, e1, -⟩
      · rw [if_pos e1]; exact m1
      · rw [e1, if_neg (by omega), Int.toNat_natCast, or_bit, m1, Bool.false_or]
        refine decide_eq_false (fun ex => ?_)
        have := h.2 q (ng - (k + 1)) c (by omega) (by rw [e, e1, ex]) (by rw [e]; omega)
        omega
/-- what a guest with a room gains -/
def gvQ (σ : Sg) (rd : Nat → Int) (q : Nat) (p : Int) : Int := if p = -1 then 0 else (cstS σ rd q (-1) - cstS σ rd q p) * 43046721 + dgS p * rkS q
theorem wk_sv {x c : Int} (hx : x ≤ 44) : (44 - c) - wtR x c = 44 - (if x < c then c else x) := by
  unfold wtR
  split <;> split <;> omega
theorem gn_gv {σ : Sg} {nr ng : Nat} {rd : Nat → Int} {ρ j : Nat} (hρ : ρ < nr) (hj : j < ng) (hrd : rd ρ ≤ 44) : gnF σ nr ng rd ρ j = if fitS σ ρ j = true then gvQ σ rd j (ρ : Int) else 0 := by
  unfold gnF gnS
  rw [if_pos hρ]
  have eb : (fmS σ j nr).testBit ρ = fitS σ ρ j := by rw [fmS_bit, decide_eq_true hρ, Bool.true_and]
  rw [eb]
  by_cases hf : fitS σ ρ j = true
  · rw [if_pos ⟨hj, hf⟩, if_pos hf]
    unfold gvQ cstS wkS dgS
    rw [if_neg (show ¬ (ρ : Int) = -1 by omega), if_pos (show (-1 : Int) = -1 from rfl), if_neg (show ¬ (ρ : Int) = -1 by omega), if_neg (show ¬ (ρ : Int) = -1 by omega), Int.toNat_natCast, ← wk_sv hrd]
    congr 1
    congr 1
    rw [Int.mul_comm (44 - σ 10 j - wtR (rd ρ) (σ 10 j)), Int.mul_sub]
  · rw [if_neg (fun q => hf q.2), if_neg hf]
theorem gn_out {σ : Sg} {nr ng : Nat} {rd : Nat → Int} {ρ j : Nat} (hj : ng ≤ j) : gnF σ nr ng rd ρ j = 0 := by
  unfold gnF gnS
  split
  · rw [if_neg (by omega)]
  · rfl
def cutB (σ : Sg) (b : Nat → Int) : Nat → Int := fun q => if b q ≠ -1 ∧ fitS σ (b q).toNat q = true then b q else -1
theorem cut_glb {σ : Sg} {nr ng P : Nat} {rd b : Nat → Int} (hP : P = max ng nr) (h : GOK P (dnS nr rd) b) : GLB σ nr ng rd (cutB σ b) := by
  refine ⟨fun q hq => ?_, fun q p hq hp e hn => ?_⟩
  · unfold cutB
    split
    · next c =>
      rcases h.1 q (by omega) with e | ⟨r, e, -, hd⟩
      · exact absurd e c.1
      · have hd2 := of_decide_eq_true hd
        rw [e, Int.toNat_natCast] at c
        exact Or.inr ⟨r, e, hd2.1, hd2.2, c.2⟩
    · exact Or.inl rfl
  · have eb : ∀ q, cutB σ b q ≠ -1 → cutB σ b q = b q := fun q hn => by
      unfold cutB at hn ⊢
      split
      · rfl
      · next c => rw [if_neg c] at hn; exact absurd rfl hn
    have e1 := eb q hn
    have e2 := eb p (by rw [← e]; exact hn)
    exact h.2 q p (by omega) (by omega) (by rw [← e1, ← e2]; exact e) (by rw [← e1]; exact hn)
theorem sum_ext {f : Nat → Int} {n : Nat} : ∀ m, n ≤ m → (∀ i, n ≤ i → i < m → f i = 0) → sumN f m = sumN f n
  | 0, h, _ => by rw [show n = 0 by omega]
  | m + 1, h, hz => by
    by_cases e : n = m + 1
    · rw [e]
    · show sumN f m + f m = _
      rw [sum_ext m (by omega) (fun i h1 h2 => hz i h1 (by omega)), hz m (by omega) (by omega), Int.add_zero]
theorem gain_cut {σ : Sg} {nr ng P : Nat} {rd b : Nat → Int} (hP : P = max ng nr) (hrd : ∀ r, r < nr → -1 ≤ rd r ∧ rd r ≤ 44) (h : GOK P (dnS nr rd) b) : gainOf (gnF σ nr ng rd) b P = sumN (fun q => gvQ σ rd q (cutB σ b q)) ng := by
  unfold gainOf
  rw [sum_ext (n := ng) P (by omega) (fun i h1 h2 => by
    show (if b i = -1 then 0 else _) = 0
    split
    · rfl
    · exact gn_out h1)]
  refine sumN_eq ng (fun q hq => ?_)
  show (if b q = -1 then 0 else gnF σ nr ng rd (b q).toNat q) = gvQ σ rd q (cutB σ b q)
  rcases h.1 q (by omega) with e | ⟨r, e, -, hd⟩
  · rw [if_pos e]
    have ec : cutB σ b q = -1 := by unfold cutB; rw [if_neg (fun c => c.1 e)]
    rw [ec]
    unfold gvQ
    rw [if_pos rfl]
  · have hd2 := of_decide_eq_true hd
    rw [if_neg (by rw [e]; omega), e, Int.toNat_natCast, gn_gv hd2.1 hq (hrd r hd2.1).2]
    unfold cutB
    rw [e, Int.toNat_natCast]
    by_cases hf : fitS σ r q = true
    · rw [if_pos hf, if_pos ⟨by omega, hf⟩]
    · rw [if_neg hf, if_neg (fun c => hf c.2)]
      unfold gvQ
      rw [if_pos rfl]
theorem gv_split {σ : Sg} {rd b : Nat → Int} : ∀ n, sumN (fun q => gvQ σ rd q (b q)) n = (bareS σ n - sumN (fun q => cstS σ rd q (b q)) n) * 43046721 + sumN (fun q => dgS (b q) * rkS q) n
  | 0 => rfl
  | n + 1 => by
    have ih := gv_split (σ := σ) (rd := rd) (b := b) n
    have e1 : bareS σ (n + 1) = bareS σ n + (44 - σ 10 n) * σ 13 n := rfl
    show sumN (fun q => gvQ σ rd q (b q)) n + gvQ σ rd n (b n) = (bareS σ (n + 1) - (sumN (fun q => cstS σ rd q (b q)) n + cstS σ rd n (b n))) * 43046721 + (sumN (fun q => dgS (b q) * rkS q) n + dgS (b n) * rkS n)
    rw [ih, e1]
    have e2 : (44 - σ 10 n) * σ 13 n = cstS σ rd n (-1) := by unfold cstS wkS; rw [if_pos rfl, Int.mul_comm]
    rw [e2]
    unfold gvQ
    by_cases h : b n = -1
    · rw [if_pos h, h]
      have : dgS (-1) = 0 := rfl
      rw [this, Int.zero_mul]
      omega
    · rw [if_neg h]
      omega
theorem rnk_sum {b : Nat → Int} (n : Nat) : sumN (fun q => dgS (b q) * rkS q) n = rnkF b n 0 := by
  have := srF_sum (fun q => dgS (b q) * rkS q) n 0
  unfold rnkF
  rw [Nat.zero_add] at this
  rw [← this]
  show 0 + _ = _
  omega
theorem cst_sum {σ : Sg} {rd b : Nat → Int} (n : Nat) : sumN (fun q => cstS σ rd q (b q)) n = srF (fun q => cstS σ rd q (b q)) n 0 := by
  have := srF_sum (fun q => cstS σ rd q (b q)) n 0
  rw [Nat.zero_add] at this
  rw [← this]
  show 0 + _ = _
  omega
theorem GLB_rg {σ : Sg} {nr ng : Nat} {rd b : Nat → Int} (h8 : nr ≤ 8) (h : GLB σ nr ng rd b) : ∀ q, q < ng → -1 ≤ b q ∧ b q < 8 := fun q hq => by
  rcases h.1 q hq with e | ⟨r, e, hr, -⟩ <;> rw [e] <;> omega
/-- the reference's keys are a giving that gains most -/
theorem wise_opt {σ : Sg} {nr ng P : Nat} {rd c : Nat → Int} (hP : P = max ng nr) (h8 : nr ≤ 8) (hg8 : ng ≤ 8) (hrd : ∀ r, r < nr → -1 ≤ rd r ∧ rd r ≤ 44) (hg : ∀ q, q < ng → GV σ q) (hk : KYS σ nr ng rd c ng 0) : ∃ a, OPT P (dnS nr rd) (gnF σ nr ng rd) a ∧ sumN (fun q => cstS σ rd q (c q)) ng = bareS σ ng - gainOf (gnF σ nr ng rd) a P / 43046721 ∧ ∀ q, q < ng → c q = wsR (gnF σ nr ng rd) a q := by
  obtain ⟨hv, hcost⟩ := ky_cost ng 0 (Nat.le_refl _) hk
  rw [Nat.sub_self] at hcost
  obtain ⟨g1, g2⟩ := VLD_glb ng 0 (Nat.le_refl _) hv
  have hG : GLB σ nr ng rd c := ⟨fun q hq => by
    rcases g1 q (by omega) hq with e | ⟨r, e, c1, c2, c3, -⟩
    · exact Or.inl e
    · exact Or.inr ⟨r, e, c1, c2, c3⟩, fun q p hq hp => g2 q p (by omega) hq (by omega) hp⟩
  obtain ⟨a, ha⟩ : ∃ a : Nat → Int, a = fun j => if j < ng then c j else -1 := ⟨_, rfl⟩
  have aq : ∀ q, q < ng → a q = c q := fun q hq => by rw [ha]; exact if_pos hq
  have an : ∀ q, ng ≤ q → a q = -1 := fun q hq => by rw [ha]; exact if_neg (by omega)
  have hA : GOK P (dnS nr rd) a := by
    refine ⟨fun j hj => ?_, fun i j hi hj e hn => ?_⟩
    · by_cases h : j < ng
      · rw [aq j h]
        rcases hG.1 j h with e | ⟨r, e, c1, c2, -⟩
        · exact Or.inl e
        · exact Or.inr ⟨r, e, by omega, decide_eq_true ⟨c1, c2⟩⟩
      · exact Or.inl (an j (by omega))
    · have hi2 : i < ng := Classical.byContradiction (fun h => hn (an i (by omega)))
      have hj2 : j < ng := Classical.byContradiction (fun h => hn (by rw [e]; exact an j (by omega)))
      rw [aq i hi2] at e hn
      rw [aq j hj2] at e
      exact hG.2 i j hi2 hj2 e hn
  have cutA : ∀ q, q < ng → cutB σ a q = c q := fun q hq => by
    unfold cutB
    rw [aq q hq]
    rcases hG.1 q hq with e | ⟨r, e, c1, c2, c3⟩
    · rw [if_neg (fun p => p.1 e), e]
    · rw [e, Int.toNat_natCast, if_pos ⟨by omega, c3⟩]
  have gA : gainOf (gnF σ nr ng rd) a P = (bareS σ ng - sumN (fun q => cstS σ rd q (c q)) ng) * 43046721 + rnkF c ng 0 := by
    rw [gain_cut hP hrd hA, sumN_eq ng (fun q hq => by show gvQ σ rd q (cutB σ a q) = gvQ σ rd q (c q); rw [cutA q hq]), gv_split, rnk_sum]
  have rkb := rnk_bd (b := c) ng 0 (by omega) (fun q _ h => GLB_rg h8 hG q (by omega))
  have e98 : (9 : Int) ^ (8 - 0) = 43046721 := by decide
  rw [e98] at rkb
  refine ⟨a, ⟨hA, fun b hb => ?_⟩, ?_, fun q hq => ?_⟩
  · have hB := cut_glb (σ := σ) hP hb
    have gB : gainOf (gnF σ nr ng rd) b P = (bareS σ ng - sumN (fun q => cstS σ rd q (cutB σ b q)) ng) * 43046721 + rnkF (cutB σ b) ng 0 := by
      rw [gain_cut hP hrd hb, gv_split, rnk_sum]
    have hvb := glb_VLD hB ng 0 (Nat.le_refl _) (fun q _ _ r _ => Nat.zero_testBit r)
    have lo := rs_low ng 0 (Nat.le_refl _) hvb
    rw [Nat.sub_self] at lo
    have lex := ky_lex h8 hg8 ng 0 (Nat.le_refl _) hk hvb
    rw [Nat.sub_self] at lex
    have rkc := rnk_bd (b := cutB σ b) ng 0 (by omega) (fun q _ h => GLB_rg h8 hB q (by omega))
    rw [e98] at rkc
    rw [gA, gB, cst_sum, cst_sum, hcost]
    by_cases e : srF (fun q => cstS σ rd q (cutB σ b q)) ng 0 = rsS σ nr ng rd ng 0
    · have := lex e
      rw [e]; omega
    · omega
  · rw [gA]
    omega
  · unfold wsR
    rw [aq q hq]
    rcases hG.1 q hq with e | ⟨r, e, c1, c2, c3⟩
    · rw [e, if_neg (fun p => p.1 rfl)]
    · rw [e, Int.toNat_natCast, gn_gv c1 hq (hrd r c1).2, if_pos c3, if_pos]
      refine ⟨by omega, ?_⟩
      unfold gvQ dgS
      rw [if_neg (by omega), if_neg (by omega)]
      have hs : 0 ≤ cstS σ rd q (-1) - cstS σ rd q (r : Int) := by
        have gq := hg q hq
        unfold GV at gq
        have hr2 := (hrd r c1).2
        unfold cstS wkS
        rw [if_pos rfl, if_neg (by omega), Int.toNat_natCast, ← Int.mul_sub, wk_sv hr2]
        refine Int.mul_nonneg (by omega) ?_
        split <;> omega
      have hk2 : 0 < rkS q := by unfold rkS; exact Int.pow_pos (by decide)
      have : 0 < (8 - (r : Int)) * rkS q := Int.mul_pos (by omega) hk2
      omega
