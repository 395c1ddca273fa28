/-! a giving is one alone: what it costs, and who gets which room -/
theorem rnk_inj {b c : Nat → Int} : ∀ k g, g + k ≤ 8 → (∀ q, g ≤ q → q < g + k → -1 ≤ b q ∧ b q < 8) → (∀ q, g ≤ q → q < g + k → -1 ≤ c q ∧ c q < 8) → rnkF b k g = rnkF c k g → ∀ q, g ≤ q → q < g + k → b q = c q
  | 0, _, _, _, _, _, q, h1, h2 => by omega
  | k + 1, g, h, hb, hc, he, q, h1, h2 => by
    have hd : dgS (b g) = dgS (c g) := by
      rcases Int.lt_trichotomy (dgS (b g)) (dgS (c g)) with l | l | l
      · have := rnk_lt h hb hc l; omega
      · exact l
      · have := rnk_lt h hc hb l; omega
    by_cases e : q = g
    · subst e
      have h3 := hb q (by omega) (by omega)
      have h4 := hc q (by omega) (by omega)
      unfold dgS at hd
      split at hd <;> split at hd <;> omega
    · rw [rnk_suc, rnk_suc, hd] at he
      exact rnk_inj k (g + 1) (by omega) (fun x a d => hb x (by omega) (by omega)) (fun x a d => hc x (by omega) (by omega)) (by omega) q (by omega) (by omega)
theorem ws_cut {σ : Sg} {nr ng P : Nat} {rd a : Nat → Int} (hP : P = max ng nr) (h8 : nr ≤ 8) (hrd : ∀ r, r < nr → -1 ≤ rd r ∧ rd r ≤ 44) (hg : ∀ q, q < ng → GV σ q) (hA : GOK P (dnS nr rd) a) {q : Nat} (hq : q < ng) : wsR (gnF σ nr ng rd) a q = cutB σ a q := by
  unfold wsR cutB
  rcases hA.1 q (by omega) with e | ⟨r, e, -, hd⟩
  · rw [if_neg (fun p => p.1 e), if_neg (fun p => p.1 e)]
  · have hd2 := of_decide_eq_true hd
    rw [e, Int.toNat_natCast, gn_gv hd2.1 hq (hrd r hd2.1).2]
    by_cases hf : fitS σ r q = true
    · rw [if_pos hf, if_pos, if_pos ⟨by omega, hf⟩]
      refine ⟨by omega, ?_⟩
      unfold gvQ dgS
      rw [if_neg (by omega), if_neg (by omega)]
      have hs : 0 ≤ cstS σ rd q (-1) - cstS σ rd q (r : Int) := by
        have gq := hg q hq
        unfold GV at gq
        have hr2 := (hrd r hd2.1).2
        unfold cstS wkS
        rw [if_pos rfl, if_neg (by omega), Int.toNat_natCast, ← Int.mul_sub, wk_sv hr2]
        refine Int.mul_nonneg (by omega) ?_
        split <;> omega
      have hk2 : 0 < rkS q := by unfold rkS; exact Int.pow_pos (by decide)
      have : 0 < (8 - (r : Int)) * rkS q := Int.mul_pos (by omega) hk2
      omega
    · rw [if_neg hf, if_neg (fun p => by have := p.2; omega), if_neg (fun p => hf p.2)]
theorem ar_uq {σ : Sg} {n : Nat} {ar as_ : Nat → Nat} (h1 : ∀ i, i < n → ar i < n) (h2 : ∀ i j, i < j → j < n → bef σ (ar i) (ar j)) (k1 : ∀ i, i < n → as_ i < n) (k2 : ∀ i j, i < j → j < n → bef σ (as_ i) (as_ j)) : ∀ i, i < n → ar i = as_ i := by
  have main : ∀ m i, i < m → i < n → ar i = as_ i := by
    intro m
    induction m with
    | zero => intro i h; omega
    | succ m ih =>
      intro i hi hn
      by_cases e : i < m
      · exact ih i e hn
      · have hm : i = m := by omega
        have inj1 := fun {i j : Nat} (hi : i < n) (hj : j < n) (e : ar i = ar j) => ar_inj h2 hi hj e
        have inj2 := fun {i j : Nat} (hi : i < n) (hj : j < n) (e : as_ i = as_ j) => ar_inj k2 hi hj e
        obtain ⟨j, j1, j2⟩ := perm_onto k1 (fun i j hi hj e => inj2 hi hj e) (ar i) (h1 i hn)
        obtain ⟨l, l1, l2⟩ := perm_onto h1 (fun i j hi hj e => inj1 hi hj e) (as_ i) (k1 i hn)
        have hj : ¬ j < i := fun h => by
          have := ih j (by omega) j1
          have := inj1 j1 hn (by rw [this, j2])
          omega
        have hl : ¬ l < i := fun h => by
          have := ih l (by omega) l1
          have := inj2 l1 hn (by rw [← this, l2])
          omega
        by_cases ej : j = i
        · rw [← j2, ej]
        · by_cases el : l = i
          · rw [← l2, el]
          · have b1 := k2 i j (by omega) j1
            have b2 := h2 i l (by omega) l1
            rw [j2] at b1
            rw [l2] at b2
            unfold bef at b1 b2
            omega
  exact fun i hi => main (i + 1) i (by omega) hi
theorem gv_ar {σ : Sg} {nr : Nat} {rd : Nat → Int} {ar as_ : Nat → Nat} : ∀ i, (∀ j, j < i → ar j = as_ j) → gvS σ nr rd ar i = gvS σ nr rd as_ i
  | 0, _ => rfl
  | i + 1, h => by
    have ih := gv_ar (σ := σ) (nr := nr) (rd := rd) i (fun j hj => h j (by omega))
    unfold gvS
    rw [ih, h i (by omega)]
theorem pk_ar {σ : Sg} {nr : Nat} {rd : Nat → Int} {ar as_ : Nat → Nat} {i : Nat} (h : ∀ j, j < i + 1 → ar j = as_ j) : pkS σ nr rd ar i = pkS σ nr rd as_ i := by
  unfold pkS
  rw [gv_ar i (fun j hj => h j (by omega)), h i (by omega)]
theorem GVX_uq {σ : Sg} {nr ng : Nat} {rd : Nat → Int} {how z z' : Int} {ro ro' : Nat → Int} (h8 : nr ≤ 8) (hg8 : ng ≤ 8) (hrd : ∀ r, r < nr → -1 ≤ rd r ∧ rd r ≤ 44) (hg : ∀ q, q < ng → GV σ q) (h : GVX σ nr ng rd how z ro) (h' : GVX σ nr ng rd how z' ro') : z = z' ∧ ∀ q, q < ng → ro q = ro' q := by
  rcases h with ⟨e, ar, a1, a2, a3, a4⟩ | ⟨e, a, a1, a2, a3⟩
  · rcases h' with ⟨-, as_, b1, b2, b3, b4⟩ | ⟨e', -⟩
    · have eq := ar_uq a1 a2 b1 b2
      have pk : ∀ i, i < ng → pkS σ nr rd ar i = pkS σ nr rd as_ i := fun i hi => pk_ar (fun j hj => eq j (by omega))
      refine ⟨?_, fun q hq => ?_⟩
      · rw [a3, b3]
        unfold asS
        exact sumN_eq ng (fun i hi => by rw [pk i hi, eq i hi])
      · obtain ⟨i, i1, i2⟩ := perm_onto a1 (fun i j hi hj e => ar_inj a2 hi hj e) q hq
        rw [← i2, a4 i i1, pk i i1, ← b4 i i1, eq i i1]
    · rw [e] at e'; omega
  · rcases h' with ⟨e', -⟩ | ⟨-, b, b1, b2, b3⟩
    · rw [e] at e'; omega
    · have g1 := a1.2 b b1.1
      have g2 := b1.2 a a1.1
      have ge : gainOf (gnF σ nr ng rd) a (max ng nr) = gainOf (gnF σ nr ng rd) b (max ng nr) := by omega
      refine ⟨by rw [a2, b2, ge], fun q hq => ?_⟩
      have hA := cut_glb (σ := σ) rfl a1.1
      have hB := cut_glb (σ := σ) rfl b1.1
      have ra := rnk_bd (b := cutB σ a) ng 0 (by omega) (fun q _ h => GLB_rg h8 hA q (by omega))
      have rb := rnk_bd (b := cutB σ b) ng 0 (by omega) (fun q _ h => GLB_rg h8 hB q (by omega))
      have e98 : (9 : Int) ^ (8 - 0) = 43046721 := by decide
      rw [e98] at ra rb
      rw [gain_cut rfl hrd a1.1, gv_split, rnk_sum, gain_cut rfl hrd b1.1, gv_split, rnk_sum] at ge
      rw [a3 q hq, b3 q hq, ws_cut rfl h8 hrd hg a1.1 hq, ws_cut rfl h8 hrd hg b1.1 hq]
      exact rnk_inj ng 0 (by omega) (fun q _ h => GLB_rg h8 hA q (by omega)) (fun q _ h => GLB_rg h8 hB q (by omega)) (by omega) q (by omega) (by omega)
/-- as they come, told guest by guest -/
theorem as_sum {σ : Sg} {nr ng : Nat} {rd : Nat → Int} {ar : Nat → Nat} {ky : Nat → Int} (a1 : ∀ i, i < ng → ar i < ng) (a2 : ∀ i j, i < j → j < ng → bef σ (ar i) (ar j)) (h : ∀ i, i < ng → ky (ar i) = pkS σ nr rd ar i) : sumN (fun q => cstS σ rd q (ky q)) ng = asS σ nr rd ar ng := by
  have e1 : asS σ nr rd ar ng = sumN (fun i => cstS σ rd (ar i) (ky (ar i))) ng := by
    unfold asS
    exact sumN_eq ng (fun i hi => by rw [h i hi]; unfold cstS; rw [Int.mul_comm])
  rw [e1]
  have e2 : sumN (fun i => cstS σ rd (ar i) (ky (ar i))) ng = sumN (fun i => sumN (fun q => if (ar i : Int) = (q : Int) then cstS σ rd q (ky q) else 0) ng) ng := by
    refine sumN_eq ng (fun i hi => ?_)
    have := sum_pick (w := fun q => cstS σ rd q (ky q)) (x := ar i) ng
    rw [if_pos (a1 i hi)] at this
    exact this.symm
  rw [e2, sumN_swap (fun i q => if (ar i : Int) = (q : Int) then cstS σ rd q (ky q) else 0) ng ng]
  refine sumN_eq ng (fun q hq => ?_)
  obtain ⟨i, i1, i2⟩ := perm_onto a1 (fun i j hi hj e => ar_inj a2 hi hj e) q hq
  exact (sum_one (b := fun i => (ar i : Int)) (ρ := (q : Int)) (x := cstS σ rd q (ky q)) (j0 := i) ng i1 (by rw [i2]) (fun j hj e => ar_inj a2 hj i1 (by rw [i2]; omega))).symm
