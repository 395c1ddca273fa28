/-! the wise giving: least rest by sets of rooms, then room by room; and that no giving gains more -/
def srF (f : Nat → Int) : Nat → Nat → Int
  | 0, _ => 0
  | k + 1, b => f b + srF f k (b + 1)
theorem srF_sum (f : Nat → Int) : ∀ k b, sumN f b + srF f k b = sumN f (b + k)
  | 0, b => by show sumN f b + 0 = _; rw [Int.add_zero]; rfl
  | k + 1, b => by
    have := srF_sum f k (b + 1)
    show sumN f b + (f b + srF f k (b + 1)) = _
    rw [show b + (k + 1) = b + 1 + k by omega, ← this]
    show _ = sumN f b + f b + _
    omega
theorem srF_eq {f h : Nat → Int} : ∀ k b, (∀ i, b ≤ i → i < b + k → f i = h i) → srF f k b = srF h k b
  | 0, _, _ => rfl
  | k + 1, b, hh => by
    show f b + srF f k (b + 1) = h b + srF h k (b + 1)
    rw [hh b (by omega) (by omega), srF_eq k (b + 1) (fun i h1 h2 => hh i (by omega) (by omega))]
/-- the first n with the least, or b -/
def mnR (b : Int) (ok : Nat → Bool) (f : Nat → Int) : Nat → Int
  | 0 => b
  | n + 1 => if ok n = true ∧ f n < mnR b ok f n then f n else mnR b ok f n
theorem mn_le {b : Int} {ok : Nat → Bool} {f : Nat → Int} : ∀ n, mnR b ok f n ≤ b ∧ (∀ i, i < n → ok i = true → mnR b ok f n ≤ f i) ∧ (mnR b ok f n = b ∨ ∃ i, i < n ∧ ok i = true ∧ mnR b ok f n = f i)
  | 0 => ⟨Int.le_refl _, fun i h => absurd h (by omega), Or.inl rfl⟩
  | n + 1 => by
    obtain ⟨h1, h2, h3⟩ := mn_le (b := b) (ok := ok) (f := f) n
    by_cases c : ok n = true ∧ f n < mnR b ok f n
    · have e : mnR b ok f (n + 1) = f n := by show (if _ then _ else _) = _; rw [if_pos c]
      rw [e]
      refine ⟨by omega, fun i hi ho => ?_, Or.inr ⟨n, by omega, c.1, rfl⟩⟩
      by_cases ei : i = n
      · rw [ei]; exact Int.le_refl _
      · have := h2 i (by omega) ho; omega
    · have e : mnR b ok f (n + 1) = mnR b ok f n := by show (if _ then _ else _) = _; rw [if_neg c]
      rw [e]
      refine ⟨h1, fun i hi ho => ?_, ?_⟩
      · by_cases ei : i = n
        · subst ei
          exact Int.not_lt.mp (fun q => c ⟨ho, q⟩)
        · exact h2 i (by omega) ho
      · rcases h3 with h3 | ⟨i, h4, h5, h6⟩
        · exact Or.inl h3
        · exact Or.inr ⟨i, by omega, h5, h6⟩
def cstS (σ : Sg) (rd : Nat → Int) (q : Nat) (p : Int) : Int := σ 13 q * wkS σ rd q p
def cnH (σ : Sg) (rd : Nat → Int) (q m r : Nat) : Bool := decide (rd r ≠ -1) && fitS σ r q && !m.testBit r
/-- what the guests from ng - k on cost at least, when the rooms of m are taken -/
def rsS (σ : Sg) (nr ng : Nat) (rd : Nat → Int) : Nat → Nat → Int
  | 0, _ => 0
  | k + 1, m => mnR (cstS σ rd (ng - (k + 1)) (-1) + rsS σ nr ng rd k m) (fun r => cnH σ rd (ng - (k + 1)) m r) (fun r => cstS σ rd (ng - (k + 1)) (r : Int) + rsS σ nr ng rd k (m ||| 2 ^ r)) nr
def kyO (σ : Sg) (nr ng : Nat) (rd : Nat → Int) (k m : Nat) : Int := amin (fun r => cnH σ rd (ng - (k + 1)) m r && decide (cstS σ rd (ng - (k + 1)) (r : Int) + rsS σ nr ng rd k (m ||| 2 ^ r) = rsS σ nr ng rd (k + 1) m)) (fun _ => 0) nr
def nxM (m : Nat) (p : Int) : Nat := if p = -1 then m else m ||| 2 ^ p.toNat
/-- a giving from guest ng - k on, that leaves the rooms of m alone -/
def VLD (σ : Sg) (nr ng : Nat) (rd : Nat → Int) (b : Nat → Int) : Nat → Nat → Prop
  | 0, _ => True
  | k + 1, m => (b (ng - (k + 1)) = -1 ∨ ∃ r : Nat, b (ng - (k + 1)) = (r : Int) ∧ r < nr ∧ cnH σ rd (ng - (k + 1)) m r = true) ∧ VLD σ nr ng rd b k (nxM m (b (ng - (k + 1))))
/-- the reference's keys -/
def KYS (σ : Sg) (nr ng : Nat) (rd : Nat → Int) (b : Nat → Int) : Nat → Nat → Prop
  | 0, _ => True
  | k + 1, m => b (ng - (k + 1)) = kyO σ nr ng rd k m ∧ KYS σ nr ng rd b k (nxM m (b (ng - (k + 1))))
theorem rs_low {σ : Sg} {nr ng : Nat} {rd b : Nat → Int} : ∀ k m, k ≤ ng → VLD σ nr ng rd b k m → rsS σ nr ng rd k m ≤ srF (fun q => cstS σ rd q (b q)) k (ng - k)
  | 0, _, _, _ => Int.le_refl _
  | k + 1, m, hk, hv => by
    obtain ⟨h1, h2⟩ := hv
    have ih := rs_low k _ (by omega) h2
    rw [show ng - k = ng - (k + 1) + 1 by omega] at ih
    obtain ⟨n1, n2, -⟩ := mn_le (b := cstS σ rd (ng - (k + 1)) (-1) + rsS σ nr ng rd k m) (ok := fun r => cnH σ rd (ng - (k + 1)) m r) (f := fun r => cstS σ rd (ng - (k + 1)) (r : Int) + rsS σ nr ng rd k (m ||| 2 ^ r)) nr
    show mnR _ _ _ nr ≤ cstS σ rd (ng - (k + 1)) (b (ng - (k + 1))) + srF (fun q => cstS σ rd q (b q)) k (ng - (k + 1) + 1)
    rcases h1 with e | ⟨r, e, hr, hc⟩
    · rw [e] at ih ⊢
      have : nxM m (-1) = m := if_pos rfl
      rw [this] at ih
      omega
    · rw [e] at ih ⊢
      have : nxM m (r : Int) = m ||| 2 ^ r := by unfold nxM; rw [if_neg (by omega), Int.toNat_natCast]
      rw [this] at ih
      have := n2 r hr hc
      omega
theorem ky_eq {σ : Sg} {nr ng : Nat} {rd : Nat → Int} {k m : Nat} : (kyO σ nr ng rd k m = -1 ∧ rsS σ nr ng rd (k + 1) m = cstS σ rd (ng - (k + 1)) (-1) + rsS σ nr ng rd k m ∧ ∀ r, r < nr → cnH σ rd (ng - (k + 1)) m r = true → cstS σ rd (ng - (k + 1)) (r : Int) + rsS σ nr ng rd k (m ||| 2 ^ r) ≠ rsS σ nr ng rd (k + 1) m) ∨ ∃ r : Nat, kyO σ nr ng rd k m = (r : Int) ∧ r < nr ∧ cnH σ rd (ng - (k + 1)) m r = true ∧ rsS σ nr ng rd (k + 1) m = cstS σ rd (ng - (k + 1)) (r : Int) + rsS σ nr ng rd k (m ||| 2 ^ r) ∧ ∀ i, i < r → cnH σ rd (ng - (k + 1)) m i = true → cstS σ rd (ng - (k + 1)) (i : Int) + rsS σ nr ng rd k (m ||| 2 ^ i) ≠ rsS σ nr ng rd (k + 1) m := by
  obtain ⟨n1, n2, n3⟩ := mn_le (b := cstS σ rd (ng - (k + 1)) (-1) + rsS σ nr ng rd k m) (ok := fun r => cnH σ rd (ng - (k + 1)) m r) (f := fun r => cstS σ rd (ng - (k + 1)) (r : Int) + rsS σ nr ng rd k (m ||| 2 ^ r)) nr
  rcases amin_spec (fun r => cnH σ rd (ng - (k + 1)) m r && decide (cstS σ rd (ng - (k + 1)) (r : Int) + rsS σ nr ng rd k (m ||| 2 ^ r) = rsS σ nr ng rd (k + 1) m)) (fun _ => 0) nr with ⟨h, h2⟩ | ⟨r, h, h1, h2, h3, h4⟩
  · refine Or.inl ⟨h, ?_, fun r hr hc he => ?_⟩
    · rcases n3 with e | ⟨i, i1, i2, i3⟩
      · exact e
      · have := h2 i i1
        have e : cstS σ rd (ng - (k + 1)) (i : Int) + rsS σ nr ng rd k (m ||| 2 ^ i) = rsS σ nr ng rd (k + 1) m := i3.symm
        have i2' : cnH σ rd (ng - (k + 1)) m i = true := i2
        rw [i2', decide_eq_true e] at this
        cases this
    · have := h2 r hr
      rw [hc, decide_eq_true he] at this
      cases this
  · rw [Bool.and_eq_true, decide_eq_true_iff] at h2
    refine Or.inr ⟨r, h, h1, h2.1, h2.2.symm, fun i hi hc he => ?_⟩
    have := h4 i hi (by rw [hc, decide_eq_true he]; rfl)
    exact absurd this (by decide)
theorem ky_cost {σ : Sg} {nr ng : Nat} {rd b : Nat → Int} : ∀ k m, k ≤ ng → KYS σ nr ng rd b k m → VLD σ nr ng rd b k m ∧ srF (fun q => cstS σ rd q (b q)) k (ng - k) = rsS σ nr ng rd k m
  | 0, _, _, _ => ⟨trivial, rfl⟩
  | k + 1, m, hk, hv => by
    obtain ⟨h1, h2⟩ := hv
    obtain ⟨i1, i2⟩ := ky_cost k _ (by omega) h2
    rw [show ng - k = ng - (k + 1) + 1 by omega] at i2
    show (_ ∧ _) ∧ cstS σ rd (ng - (k + 1)) (b (ng - (k + 1))) + srF (fun q => cstS σ rd q (b q)) k (ng - (k + 1) + 1) = _
    rcases ky_eq (σ := σ) (nr := nr) (ng := ng) (rd := rd) (k := k) (m := m) with ⟨e, q1, -⟩ | ⟨r, e, q1, q2, q3, -⟩
    · refine ⟨⟨Or.inl (by rw [h1, e]), i1⟩, ?_⟩
      rw [i2, h1, e, q1]
      have : nxM m (-1) = m := if_pos rfl
      rw [this]
    · refine ⟨⟨Or.inr ⟨r, by rw [h1, e], q1, q2⟩, i1⟩, ?_⟩
      rw [i2, h1, e, q3]
      have : nxM m (r : Int) = m ||| 2 ^ r := by unfold nxM; rw [if_neg (by omega), Int.toNat_natCast]
      rw [this]
def dgS (p : Int) : Int := if p = -1 then 0 else 8 - p
def rnkF (b : Nat → Int) (k g : Nat) : Int := srF (fun q => dgS (b q) * rkS q) k g
theorem rnk_bd {b : Nat → Int} : ∀ k g, g + k ≤ 8 → (∀ q, g ≤ q → q < g + k → -1 ≤ b q ∧ b q < 8) → 0 ≤ rnkF b k g ∧ rnkF b k g ≤ 9 ^ (8 - g) - 1
  | 0, g, h, _ => by
    have : (0 : Int) < 9 ^ (8 - g) := Int.pow_pos (by decide)
    show (0 : Int) ≤ 0 ∧ (0 : Int) ≤ _
    omega
  | k + 1, g, h, hb => by
    obtain ⟨h1, h2⟩ := rnk_bd k (g + 1) (by omega) (fun q a c => hb q (by omega) (by omega))
    have hd : 0 ≤ dgS (b g) ∧ dgS (b g) ≤ 8 := by have := hb g (by omega) (by omega); unfold dgS; split <;> omega
    have e : (9 : Int) ^ (8 - g) = 9 * 9 ^ (7 - g) := by rw [show 8 - g = (7 - g) + 1 by omega, Int.pow_succ]; omega
    have hp : (0 : Int) < 9 ^ (7 - g) := Int.pow_pos (by decide)
    rw [show 8 - (g + 1) = 7 - g by omega] at h2
    have hm := mul_bd (A := 8) (B := 9 ^ (7 - g)) hd ⟨Int.le_of_lt hp, Int.le_refl _⟩
    show 0 ≤ dgS (b g) * rkS g + rnkF b k (g + 1) ∧ dgS (b g) * rkS g + rnkF b k (g + 1) ≤ _
    unfold rkS
    rw [e]
    generalize (9 : Int) ^ (7 - g) = P at *
    generalize dgS (b g) * P = Y at *
    omega
theorem rnk_suc {b : Nat → Int} {k g : Nat} : rnkF b (k + 1) g = dgS (b g) * rkS g + rnkF b k (g + 1) := rfl
/-- a greater first digit -/
theorem rnk_lt {b c : Nat → Int} {k g : Nat} (h : g + (k + 1) ≤ 8) (hb : ∀ q, g ≤ q → q < g + (k + 1) → -1 ≤ b q ∧ b q < 8) (hc : ∀ q, g ≤ q → q < g + (k + 1) → -1 ≤ c q ∧ c q < 8) (hd : dgS (b g) < dgS (c g)) : rnkF b (k + 1) g < rnkF c (k + 1) g := by
  rw [rnk_suc, rnk_suc]
  obtain ⟨-, h2⟩ := rnk_bd (b := b) k (g + 1) (by omega) (fun q a d => hb q (by omega) (by omega))
  obtain ⟨h3, -⟩ := rnk_bd (b := c) k (g + 1) (by omega) (fun q a d => hc q (by omega) (by omega))
  have hp : (0 : Int) < 9 ^ (7 - g) := Int.pow_pos (by decide)
  rw [show 8 - (g + 1) = 7 - g by omega] at h2
  unfold rkS
  have hm : (dgS (b g) + 1) * 9 ^ (7 - g) ≤ dgS (c g) * 9 ^ (7 - g) := Int.mul_le_mul_of_nonneg_right (by omega) (Int.le_of_lt hp)
  rw [Int.add_mul, Int.one_mul] at hm
  generalize (9 : Int) ^ (7 - g) = P at *
  generalize dgS (b g) * P = Y at *
  generalize dgS (c g) * P = Z at *
  omega
theorem VLD_rg {σ : Sg} {nr ng : Nat} {rd b : Nat → Int} (h8 : nr ≤ 8) : ∀ k m, k ≤ ng → VLD σ nr ng rd b k m → ∀ q, ng - k ≤ q → q < ng → -1 ≤ b q ∧ b q < 8
  | 0, _, _, _, q, h1, h2 => by omega
  | k + 1, m, hk, hv, q, h1, h2 => by
    by_cases e : q = ng - (k + 1)
    · subst e
      rcases hv.1 with e | ⟨r, e, hr, -⟩
      · rw [e]; omega
      · rw [e]; omega
    · exact VLD_rg h8 k _ (by omega) hv.2 q (by omega) h2
theorem ky_lex {σ : Sg} {nr ng : Nat} {rd b c : Nat → Int} (h8 : nr ≤ 8) (hg8 : ng ≤ 8) : ∀ k m, k ≤ ng → KYS σ nr ng rd c k m → VLD σ nr ng rd b k m → srF (fun q => cstS σ rd q (b q)) k (ng - k) = rsS σ nr ng rd k m → rnkF b k (ng - k) ≤ rnkF c k (ng - k)
  | 0, _, _, _, _, _ => Int.le_refl _
  | k + 1, m, hk, hc, hb, he => by
    have hvc := (ky_cost (k + 1) m hk hc).1
    have rb := VLD_rg h8 (k + 1) m hk hb
    have rc := VLD_rg h8 (k + 1) m hk hvc
    obtain ⟨hc1, hc2⟩ := hc
    obtain ⟨hb1, hb2⟩ := hb
    have lo := rs_low k _ (by omega) hb2
    rw [show ng - k = ng - (k + 1) + 1 by omega] at lo
    have he2 : cstS σ rd (ng - (k + 1)) (b (ng - (k + 1))) + srF (fun q => cstS σ rd q (b q)) k (ng - (k + 1) + 1) = rsS σ nr ng rd (k + 1) m := he
    obtain ⟨n1, n2, -⟩ := mn_le (b := cstS σ rd (ng - (k + 1)) (-1) + rsS σ nr ng rd k m) (ok := fun r => cnH σ rd (ng - (k + 1)) m r) (f := fun r => cstS σ rd (ng - (k + 1)) (r : Int) + rsS σ nr ng rd k (m ||| 2 ^ r)) nr
    have nm : nxM m (-1) = m := if_pos rfl
    have nr_ : ∀ r : Nat, nxM m (r : Int) = m ||| 2 ^ r := fun r => by unfold nxM; rw [if_neg (by omega), Int.toNat_natCast]
    have less : dgS (b (ng - (k + 1))) < dgS (c (ng - (k + 1))) → rnkF b (k + 1) (ng - (k + 1)) ≤ rnkF c (k + 1) (ng - (k + 1)) := fun h => Int.le_of_lt (rnk_lt (by omega) (fun q a d => rb q (by omega) (by omega)) (fun q a d => rc q (by omega) (by omega)) h)
    have same : b (ng - (k + 1)) = c (ng - (k + 1)) → srF (fun q => cstS σ rd q (b q)) k (ng - (k + 1) + 1) = rsS σ nr ng rd k (nxM m (b (ng - (k + 1)))) → rnkF b (k + 1) (ng - (k + 1)) ≤ rnkF c (k + 1) (ng - (k + 1)) := fun h h2 => by
      rw [rnk_suc, rnk_suc, h]
      have := ky_lex h8 hg8 k (nxM m (b (ng - (k + 1)))) (by omega) (by rw [h]; exact hc2) hb2 (by rw [show ng - k = ng - (k + 1) + 1 by omega]; exact h2)
      rw [show ng - k = ng - (k + 1) + 1 by omega] at this
      omega
    rcases hb1 with e | ⟨r, e, hr, hcn⟩
    · rw [e] at lo he2 less same
      rw [nm] at lo same
      rcases ky_eq (σ := σ) (nr := nr) (ng := ng) (rd := rd) (k := k) (m := m) with ⟨e0, q1, -⟩ | ⟨r0, e0, q1, q2, q3, -⟩
      · exact same (by rw [hc1, e0]) (by omega)
      · refine less ?_
        rw [hc1, e0]
        show (if (-1 : Int) = -1 then (0 : Int) else _) < (if (r0 : Int) = -1 then 0 else 8 - (r0 : Int))
        rw [if_pos rfl, if_neg (by omega)]; omega
    · rw [e] at lo he2 less same
      rw [nr_] at lo same
      have hmin : rsS σ nr ng rd (k + 1) m ≤ cstS σ rd (ng - (k + 1)) (r : Int) + rsS σ nr ng rd k (m ||| 2 ^ r) := n2 r hr hcn
      have hatt : cstS σ rd (ng - (k + 1)) (r : Int) + rsS σ nr ng rd k (m ||| 2 ^ r) = rsS σ nr ng rd (k + 1) m := by omega
      rcases ky_eq (σ := σ) (nr := nr) (ng := ng) (rd := rd) (k := k) (m := m) with ⟨e0, -, q1⟩ | ⟨r0, e0, q1, q2, q3, q4⟩
      · exact absurd hatt (q1 r hr hcn)
      · by_cases el : r = r0
        · exact same (by rw [hc1, e0, el]) (by omega)
        · have : ¬ r < r0 := fun hl => q4 r hl hcn hatt
          refine less ?_
          rw [hc1, e0]
          show (if (r : Int) = -1 then 0 else 8 - (r : Int)) < (if (r0 : Int) = -1 then 0 else 8 - (r0 : Int))
          rw [if_neg (by omega), if_neg (by omega)]; omega
