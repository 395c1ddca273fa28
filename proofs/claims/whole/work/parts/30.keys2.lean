def SS (s : Nat → Bool) : Nat → Prop := fun ρ => ρ < 8 ∧ s ρ = true
theorem cmp_ge {x y : Int} : (0 ≤ (if y < x then (1 : Int) else if x = y then 0 else -1)) ↔ y ≤ x := by
  split
  · omega
  · split <;> omega
theorem cmp_rg {x y : Int} : -1 ≤ (if y < x then (1 : Int) else if x = y then 0 else -1) ∧ (if y < x then (1 : Int) else if x = y then 0 else -1) ≤ 1 := by
  split
  · omega
  · split <;> omega
theorem sum_ones : ∀ n : Nat, sumN (fun _ => 1) n = (n : Int)
  | 0 => rfl
  | n + 1 => by
    show sumN (fun _ => 1) n + 1 = _
    rw [sum_ones n]; omega
theorem sum_below {s : Nat → Bool} {P r : Nat} (hs : ∀ ρ, s ρ = true → ρ < P) (hr : s r = false) (hrP : r < P) : ∀ n, sumN (fun ρ => if s ρ = true then 1 else 0) n ≤ (if n ≤ P then (n : Int) else P) - (if r < n then 1 else 0)
  | 0 => by simp [sumN]
  | n + 1 => by
    have ih := sum_below hs hr hrP n
    show sumN _ n + (if s n = true then 1 else 0) ≤ _
    by_cases h : s n = true
    · have h1 := hs n h
      have h2 : n ≠ r := fun e => by rw [e, hr] at h; cases h
      rw [if_pos h, if_pos (by omega)]
      rw [if_pos (by omega)] at ih
      by_cases q : r < n
      · rw [if_pos q] at ih; rw [if_pos (by omega)]; omega
      · rw [if_neg q] at ih; rw [if_neg (by omega)]; omega
    · rw [if_neg h]
      by_cases q : r < n
      · rw [if_pos q] at ih; rw [if_pos (show r < n + 1 by omega)]
        split at ih <;> split <;> omega
      · rw [if_neg q] at ih
        by_cases e : r = n
        · rw [if_pos (by omega), if_pos (by omega)]
          rw [if_pos (by omega)] at ih
          omega
        · rw [if_neg (show ¬ r < n + 1 by omega)]
          split at ih <;> split <;> omega
/-- one room is not placed: a place is free -/
theorem some_free {s : Nat → Bool} {P r : Nat} {b : Nat → Int} (hP : P ≤ 8) (hs : ∀ ρ, s ρ = true → ρ < P) (hr : s r = false) (hrP : r < P) (hb : ∀ j, j < P → b j = -1 ∨ ∃ ρ : Nat, b j = (ρ : Int) ∧ ρ < 8 ∧ s ρ = true) (hi : ∀ i j, i < P → j < P → b i = b j → b i ≠ -1 → i = j) (hall : ∀ j, j < P → b j ≠ -1) : False := by
  have h1 := inj_le (w := fun _ => 1) hb hi (fun _ _ => by omega)
  have h2 : sumN (fun j => if b j = -1 then 0 else (1 : Int)) P = (P : Int) := by
    rw [← sum_ones P]
    exact sumN_eq P (fun j hj => by rw [if_neg (hall j hj)])
  have h3 := sum_below hs hr hrP 8
  rw [if_pos (by omega : r < 8)] at h3
  have h4 : (if 8 ≤ P then ((8 : Nat) : Int) else (P : Int)) = (P : Int) := by split <;> omega
  rw [h4] at h3
  have h1 : sumN (fun j => if b j = -1 then 0 else (1 : Int)) P ≤ sumN (fun ρ => if s ρ = true then 1 else 0) 8 := h1
  omega
section K2
variable {g : sG} {Ls : Nat} {tl : List Nat} {I L : sI} {P lv r : Nat} {s : Nat → Bool} {G : Nat → Nat → Int} {E : Int}
theorem c_cheapestEnd (h1 : I 79 1 = (P : Int)) (hP : P ≤ 8) (hl : lv < 9) (hL : LVL P (SS s) G (L (90 + lv)) (L (100 + lv)) (I (110 + lv)) E) (hE : 0 ≤ E ∧ E ≤ 10000000000000) (hG : ∀ ρ j, ρ < 8 → j < P → 0 ≤ G ρ j ∧ G ρ j ≤ 17200000000) (hgr : ∀ ρ, ρ < 8 → (s ρ = true ∨ ρ = r) → ∀ j, j < P → L (81 + ρ) j = G ρ j) (hs : ∀ ρ, s ρ = true → ρ < P) (hr : r < P) (hsr : s r = false) (hur : L (90 + lv) r = 0) : Mc g 0 m_X3_cheapestEnd 0 0 [vr 79, vi (lv : Int), vi (r : Int)] (TT Ls tl) I L (RR tl) (qI fun z T' I' L' R' => ∃ en : Nat, z = (en : Int) ∧ T' = TT Ls tl ∧ R' = RR tl ∧ (∀ a, ¬ (a = 120 ∨ a = 121) → I' a = I a) ∧ (∀ a, ¬ a = 119 → L' a = L a) ∧
    DJ P (SS s) G (L (90 + lv)) (L (100 + lv)) (I (110 + lv)) r (fun j => I' 121 j = 1) (L' 119) (I' 120) en ∧ (∀ j, j < P → -17200000000 ≤ L' 119 j ∧ L' 119 j ≤ 10000000000000) ∧ (∀ j, j < P → I' 121 j = 0 ∨ I' 121 j = 1) ∧ ∃ (o : Nat → Nat) (b : Nat), b < P ∧ (∀ j, j < P → (I' 121 j = 1 ∨ j = en) → ∀ i : Nat, I' 120 j = (i : Int) → i < P ∧ I' 121 i = 1 ∧ o i < b ∧ (I' 121 j = 1 → o i < o j))) := by
  refine Mc_of rfl (Nat.le_of_ble_eq_true rfl) ?_
  obtain ⟨Q, hQ⟩ : ∃ Q : sQ, Q = (qI fun z T' I' L' R' => ∃ en : Nat, z = (en : Int) ∧ T' = TT Ls tl ∧ R' = RR tl ∧ (∀ a, ¬ (a = 120 ∨ a = 121) → I' a = I a) ∧ (∀ a, ¬ a = 119 → L' a = L a) ∧
    DJ P (SS s) G (L (90 + lv)) (L (100 + lv)) (I (110 + lv)) r (fun j => I' 121 j = 1) (L' 119) (I' 120) en ∧ (∀ j, j < P → -17200000000 ≤ L' 119 j ∧ L' 119 j ≤ 10000000000000) ∧ (∀ j, j < P → I' 121 j = 0 ∨ I' 121 j = 1) ∧ ∃ (o : Nat → Nat) (b : Nat), b < P ∧ (∀ j, j < P → (I' 121 j = 1 ∨ j = en) → ∀ i : Nat, I' 120 j = (i : Int) → i < P ∧ I' 121 i = 1 ∧ o i < b ∧ (I' 121 j = 1 → o i < o j))) := ⟨_, rfl⟩
  rw [← hQ]
  have hL' := hL
  obtain ⟨l1, l2, l3, l4, l5, l6, l7, -⟩ := hL'
  have outer : ∀ (k b row : Nat) (last bh : Int) (o : Nat → Nat) (I1 L1 : sI), b + k = P → (∀ a, ¬ (a = 120 ∨ a = 121) → I1 a = I a) → (∀ a, ¬ a = 119 → L1 a = L a) → (b = 0 → ∀ j, j < P → L1 119 j = 1000000000000000) → OUT P (SS s) G (L (90 + lv)) (L (100 + lv)) (I (110 + lv)) r 17200000000 b (I1 121) (L1 119) (I1 120) o row last bh → Cp g 0 m_X3_cheapestEnd 0 0 Q 50 [(0, vr 79), (1, vi (lv : Int)), (2, vi (r : Int)), (3, vi (row : Int)), (4, vi last), (5, vl bh), (7, vi (b : Int))] [] (TT Ls tl) I1 L1 (RR tl) := by
    intro k
    induction k with
    | zero =>
      intro b row last bh o I1 L1 hbk fI fL h0 hO
      obtain ⟨o1, o2, o3, o4, o5, -⟩ := hO
      have hb : b = P := by omega
      subst hb
      exact (some_free hP hs hsr hr l1 l2 (fun j hj => (o5 j hj ((sum01_all _ o2).2 o1 j hj)).1)).elim
    | succ k ih =>
      intro b row last bh o I1 L1 hbk fI fL h0 hO
      have hO' := hO
      obtain ⟨o1, o2, o3, o4, o5, o6, o7, o8, o9⟩ := hO'
      have hp1 : I1 79 1 = (P : Int) := by rw [fI 79 (by omega)]; exact h1
      have hrow : row < P ∧ (s row = true ∨ row = r) ∧ (-E ≤ L (90 + lv) row ∧ L (90 + lv) row ≤ 0) ∧ (-17200000000 ≤ bh ∧ bh ≤ E) := by
        by_cases hb : b = 0
        · obtain ⟨e1, e2, e3⟩ := o3 hb
          rw [e1, hur]
          refine ⟨hr, Or.inr rfl, ?_, ?_⟩ <;> omega
        · obtain ⟨jl, q1, q2, q3, q4, q5, q6⟩ := o4 (by omega)
          have e1 := l7 row q5
          have e2 := o7 (by omega) jl q2
          have e3 := (l6 jl q2).1
          have e4 := hG r jl (by omega) q2
          refine ⟨hs row q5.2, Or.inl q5.2, e1, ?_⟩
          omega
      obtain ⟨w1, w2, w3, w4⟩ := hrow
      obtain ⟨FR, hFR⟩ : ∃ FR : Nat → Int, ∀ j, FR j = bh - G row j - L (90 + lv) row - L (100 + lv) j := ⟨_, fun _ => rfl⟩
      have hfr : ∀ j, j < P → -100000000000000 ≤ FR j ∧ FR j ≤ 100000000000000 := fun j hj => by
        have e3 := (l6 j hj).1
        have e4 := hG row j (by omega) hj
        rw [hFR j]
        omega
      have hrc : ∀ j, j < P → -17200000000 ≤ L1 119 j ∧ L1 119 j ≤ 1000000000000000 := fun j hj => by
        by_cases hb : b = 0
        · rw [h0 hb j hj]; omega
        · have e2 := o7 (by omega) j hj
          have e3 := (l6 j hj).1
          have e4 := hG r j (by omega) hj
          omega
      have hfar : b = 0 → ∀ j, j < P → bh - G row j - L (90 + lv) row - L (100 + lv) j < L1 119 j := fun hb j hj => by
        rw [h0 hb j hj, ← hFR j]
        have := hfr j hj
        omega
      have inner : ∀ (k2 j : Nat) (nst : Int) (I2 L2 : sI), j + k2 = P → (∀ a, ¬ a = 120 → I2 a = I1 a) → (∀ a, ¬ a = 119 → L2 a = L1 a) →
          (∀ i, j ≤ i → L2 119 i = L1 119 i ∧ I2 120 i = I1 120 i) → (∀ i, i < j → I1 121 i = 1 → L2 119 i = L1 119 i ∧ I2 120 i = I1 120 i) → (∀ i, i < j → I1 121 i = 0 → FR i < L1 119 i → L2 119 i = FR i ∧ I2 120 i = last) → (∀ i, i < j → I1 121 i = 0 → ¬ FR i < L1 119 i → L2 119 i = L1 119 i ∧ I2 120 i = I1 120 i) →
          ((nst = -1 ∧ ∀ i, i < j → I1 121 i ≠ 0) ∨ ∃ nx : Nat, nst = (nx : Int) ∧ nx < j ∧ I1 121 nx = 0 ∧ ∀ i, i < j → I1 121 i = 0 → L2 119 nx ≤ L2 119 i) → Cp g 0 m_X3_cheapestEnd 0 0 Q 65 [(0, vr 79), (1, vi (lv : Int)), (2, vi (r : Int)), (3, vi (row : Int)), (4, vi last), (5, vl bh), (7, vi (b : Int)), (8, vi nst), (9, vi (j : Int))] [] (TT Ls tl) I2 L2 (RR tl) := by
        intro k2
        induction k2 with
        | zero =>
          intro j nst I2 L2 hjk gI gL p0 p1 p2 p3 p4
          have hj : j = P := by omega
          subst hj
          have hp2 : I2 79 1 = (j : Int) := by rw [gI 79 (by omega)]; exact hp1
          rcases p4 with ⟨-, q2⟩ | ⟨nx, rfl, n1, n2, n3⟩
          · have := (sum01_none (sn := fun i => 1 - I1 121 i) j (fun i hi => by have := o2 i hi; omega))
            have e : sumN (I1 121) j = (j : Int) := by
              rw [← sum_ones j]
              exact sumN_eq j (fun i hi => by have := o2 i hi; have := q2 i hi; omega)
            omega
          · obtain ⟨k1, k2, k3, k4, k5⟩ := out_relax (B := 17200000000) hL hur (fun i hi => hG r i (by omega) hi) hO hfar p1 (fun i hi e q => by rw [← hFR i] at q ⊢; exact p2 i hi e q) (fun i hi e q => by rw [← hFR i] at q; exact p3 i hi e q)
            have e110 : I2 (110 + lv) nx = I (110 + lv) nx := by rw [gI _ (by omega), fI _ (by omega)]
            have hrc2 : ∀ i, i < j → -17200000000 ≤ L2 119 i ∧ L2 119 i ≤ 10000000000000 := fun i hi => by
              have e1 := k3 i hi
              have e3 := (l6 i hi).1
              have e4 := hG r i (by omega) hi
              omega
            have e121 : I2 121 = I1 121 := gI 121 (by omega)
            have haE := l1 nx n1
            refine r_iload d_X3_cheapestEnd_65 rfl ?_
            refine r_aload_n d_X3_cheapestEnd_67 rfl ?_
            refine r_geti d_X3_cheapestEnd_68 f_X3_61 (tt_79 _ _) (by decide) (by decide) ?_
            refine r_icmp_ge d_X3_cheapestEnd_71 (by omega) (by omega) (fun c71 => ?_) (fun c71 => absurd c71 (by omega))
            refine r_iload d_X3_cheapestEnd_182 rfl ?_
            refine r_iconst d_X3_cheapestEnd_184 ?_
            refine r_icmp_eq d_X3_cheapestEnd_185 (by omega) (by omega) (fun c185 => absurd c185 (by omega)) (fun c185 => ?_)
            refine r_aload_n d_X3_cheapestEnd_188 rfl ?_
            refine r_getr d_X3_cheapestEnd_189 f_X3_24 (tt_79 _ _) (by decide) rfl (rr_79_5 _) ?_
            refine r_iload_n d_X3_cheapestEnd_192 rfl ?_
            refine r_aaldJ d_X3_cheapestEnd_193 (tt_109 _ _) (by decide) rfl (by omega) (rr2_109 _ (by omega)) (kk := ?_)
            refine r_iload d_X3_cheapestEnd_194 rfl ?_
            refine r_ialdJ (j := nx) d_X3_cheapestEnd_196 (tt2_109 _ _ (by omega)) (by omega) (by omega) (kk := ?_)
            refine r_iconst d_X3_cheapestEnd_197 ?_
            refine r_icmp_ne d_X3_cheapestEnd_198 (by rw [e110]; rcases haE with h | ⟨ρ, h, h2⟩; omega; have := h2.1; omega) (by omega) (fun c198 => ?_) (fun c198 => ?_)
            · rw [e110] at c198
              obtain ⟨ρ, ha, hS⟩ : ∃ ρ : Nat, I (110 + lv) nx = (ρ : Int) ∧ SS s ρ := by rcases haE with h | h; exact absurd h c198; exact h
              have hρ : up2 I2 121 nx 1 (110 + lv) nx = (ρ : Int) := by rw [up2_ne _ _ (by omega), e110]; exact ha
              refine r_aload_n d_X3_cheapestEnd_204 rfl ?_
              refine r_getr d_X3_cheapestEnd_205 f_X3_35 (tt_79 _ _) (by decide) rfl (rr_79_8 _) ?_
              refine r_iload d_X3_cheapestEnd_208 rfl ?_
              refine r_iconst d_X3_cheapestEnd_210 ?_
              refine r_zastJ d_X3_cheapestEnd_211 (tt_121 _ _) (by omega) rfl (by omega) (by omega) (kk := ?_)
              refine r_iload d_X3_cheapestEnd_212 rfl ?_
              refine r_istore d_X3_cheapestEnd_214 (by decide) ?_
              refine r_aload_n d_X3_cheapestEnd_216 rfl ?_
              refine r_getr d_X3_cheapestEnd_217 f_X3_27 (tt_79 _ _) (by decide) rfl (rr_79_6 _) ?_
              refine r_iload d_X3_cheapestEnd_220 rfl ?_
              refine r_laldJ d_X3_cheapestEnd_222 (tt_119 _ _) rfl (by omega) (kk := ?_)
              refine r_lstore d_X3_cheapestEnd_223 (by decide) ?_
              refine r_aload_n d_X3_cheapestEnd_225 rfl ?_
              refine r_getr d_X3_cheapestEnd_226 f_X3_24 (tt_79 _ _) (by decide) rfl (rr_79_5 _) ?_
              refine r_iload_n d_X3_cheapestEnd_229 rfl ?_
              refine r_aaldJ d_X3_cheapestEnd_230 (tt_109 _ _) (by decide) rfl (by omega) (rr2_109 _ (by omega)) (kk := ?_)
              refine r_iload d_X3_cheapestEnd_231 rfl ?_
              refine r_ialdJ d_X3_cheapestEnd_233 (tt2_109 _ _ (by omega)) rfl (by omega) (kk := ?_)
              rw [hρ]
              refine r_istore_n d_X3_cheapestEnd_234 (by decide) ?_
              refine r_iinc d_X3_cheapestEnd_235 rfl (by decide) ?_
              refine r_goto d_X3_cheapestEnd_238 ?_
              refine CpL (ih (b + 1) ρ (nx : Int) (L2 119 nx) (fun i => if i = nx then b else o i) (up2 I2 121 nx 1) L2 (by omega) (fun a ha => ?_) (fun a ha => by rw [gL a ha]; exact fL a ha) (fun h => absurd h (by omega)) ?_) (by repeat (first | exact trivial | refine ⟨rfl, ?_⟩))
              · rw [up2_ne _ _ (by omega), gI a (by omega)]; exact fI a ha
              · rw [up2_ne _ _ (show (120 : Nat) ≠ 121 by omega)]
                exact out_next hL o1 o2 k1 k2 k3 k4 k5 n1 n2 n3 ha hS (up2_at _ _ _ _) (fun i hi e => by rw [up2_nj _ _ e, e121])
            · refine r_iload d_X3_cheapestEnd_201 rfl ?_
              refine r_iret d_X3_cheapestEnd_203 rfl ?_
              rw [e110] at c198
              have ha : I (110 + lv) nx = -1 := by omega
              obtain ⟨d1, d2⟩ := out_end (bf := I2 120) (B := 17200000000) o2 k1 k2 k3 k4 k5 n1 n2 n3 ha
              rw [hQ]
              refine ⟨_, rfl, nx, rfl, rfl, rfl, fun a ha => by rw [gI a (by omega)]; exact fI a ha, fun a ha => by rw [gL a ha]; exact fL a ha, ?_, hrc2, ?_, o, b, by omega, ?_⟩
              · rw [e121]; exact d1
              · rw [e121]; exact o2
              · rw [e121]; exact d2
        | succ k2 ih2 =>
          intro j nst I2 L2 hjk gI gL p0 p1 p2 p3 p4
          have hj : j < P := by omega
          have hp2 : I2 79 1 = (P : Int) := by rw [gI 79 (by omega)]; exact hp1
          have e121 : I2 121 = I1 121 := gI 121 (by omega)
          have hsj := o2 j hj
          have ef : bh - L2 (81 + row) j - L2 (90 + lv) row - L2 (100 + lv) j = FR j := by
            rw [gL _ (by omega), gL _ (by omega), gL _ (by omega), fL _ (by omega), fL _ (by omega), fL _ (by omega), hgr row (by omega) w2 j hj, hFR j]
          have hfj := hfr j hj
          have hrj := hrc j hj
          have ej := p0 j (Nat.le_refl j)
          have hnb : nst ≠ -1 → ∃ nx : Nat, nst = (nx : Int) ∧ nx < j ∧ I1 121 nx = 0 ∧ (∀ i, i < j → I1 121 i = 0 → L2 119 nx ≤ L2 119 i) ∧ (-100000000000000 ≤ L2 119 nx ∧ L2 119 nx ≤ 1000000000000000) := fun h => by
            rcases p4 with ⟨q, -⟩ | ⟨nx, q1, n1, n2, n3⟩
            · exact absurd q h
            · refine ⟨nx, q1, n1, n2, n3, ?_⟩
              have e1 := hrc nx (by omega)
              have e2 := hfr nx (by omega)
              by_cases q : FR nx < L1 119 nx
              · rw [(p2 nx n1 n2 q).1]; omega
              · rw [(p3 nx n1 n2 q).1]; omega
          -- what is behind the comparison: the place is nearer or not
          have fin : ∀ (I3 L3 : sI) (nst' : Int), I1 121 j = 0 → (∀ a, ¬ a = 120 → I3 a = I1 a) → (∀ a, ¬ a = 119 → L3 a = L1 a) → (∀ i, i ≠ j → L3 119 i = L2 119 i ∧ I3 120 i = I2 120 i) → (FR j < L1 119 j → L3 119 j = FR j ∧ I3 120 j = last) → (¬ FR j < L1 119 j → L3 119 j = L1 119 j ∧ I3 120 j = I1 120 j) → ((nst' = (j : Int) ∧ (nst = -1 ∨ L3 119 j < L2 119 nst.toNat)) ∨ (nst' = nst ∧ nst ≠ -1 ∧ L2 119 nst.toNat ≤ L3 119 j)) → Cp g 0 m_X3_cheapestEnd 0 0 Q 65 [(0, vr 79), (1, vi (lv : Int)), (2, vi (r : Int)), (3, vi (row : Int)), (4, vi last), (5, vl bh), (7, vi (b : Int)), (8, vi nst'), (9, vi ((j + 1 : Nat) : Int))] [] (TT Ls tl) I3 L3 (RR tl) := by
            intro I3 L3 nst' s0 t1 t2 t3 t4 t5 t6
            refine ih2 (j + 1) nst' I3 L3 (by omega) t1 t2 (fun i hi => ?_) (fun i hi e => ?_) (fun i hi e q => ?_) (fun i hi e q => ?_) ?_
            · rw [(t3 i (by omega)).1, (t3 i (by omega)).2]; exact p0 i (by omega)
            · have : i ≠ j := fun q => by rw [q] at e; omega
              rw [(t3 i this).1, (t3 i this).2]; exact p1 i (by omega) e
            · by_cases h : i = j
              · subst h; exact t4 q
              · rw [(t3 i h).1, (t3 i h).2]; exact p2 i (by omega) e q
            · by_cases h : i = j
              · subst h; exact t5 q
              · rw [(t3 i h).1, (t3 i h).2]; exact p3 i (by omega) e q
            · rcases t6 with ⟨u1, u2⟩ | ⟨u1, u2, u3⟩
              · refine Or.inr ⟨j, u1, by omega, s0, fun i hi e => ?_⟩
                by_cases h : i = j
                · rw [h]; exact Int.le_refl _
                · rw [(t3 i h).1]
                  by_cases hn : nst = -1
                  · rcases p4 with ⟨-, q⟩ | ⟨nx, q1, -⟩
                    · exact absurd e (q i (by omega))
                    · omega
                  · obtain ⟨nx, q1, n1, n2, n3, -⟩ := hnb hn
                    have u2' : L3 119 j < L2 119 nst.toNat := by rcases u2 with q | q; exact absurd q hn; exact q
                    rw [q1, Int.toNat_natCast] at u2'
                    have := n3 i (by omega) e
                    omega
              · obtain ⟨nx, q1, n1, n2, n3, -⟩ := hnb u2
                refine Or.inr ⟨nx, by rw [u1]; exact q1, by omega, n2, fun i hi e => ?_⟩
                rw [(t3 nx (by omega)).1]
                by_cases h : i = j
                · rw [q1, Int.toNat_natCast] at u3
                  rw [h]; exact u3
                · rw [(t3 i h).1]; exact n3 i (by omega) e
          have tail : ∀ (I3 L3 : sI), I1 121 j = 0 → (∀ a, ¬ a = 120 → I3 a = I1 a) → (∀ a, ¬ a = 119 → L3 a = L1 a) → (∀ i, i ≠ j → L3 119 i = L2 119 i ∧ I3 120 i = I2 120 i) → (FR j < L1 119 j → L3 119 j = FR j ∧ I3 120 j = last) → (¬ FR j < L1 119 j → L3 119 j = L1 119 j ∧ I3 120 j = I1 120 j) → Cp g 0 m_X3_cheapestEnd 0 0 Q 148 [(0, vr 79), (1, vi (lv : Int)), (2, vi (r : Int)), (3, vi (row : Int)), (4, vi last), (5, vl bh), (7, vi (b : Int)), (8, vi nst), (9, vi (j : Int))] [] (TT Ls tl) I3 L3 (RR tl) := by
            intro I3 L3 s0 t1 t2 t3 t4 t5
            have tb : -100000000000000 ≤ L3 119 j ∧ L3 119 j ≤ 1000000000000000 := by
              by_cases q : FR j < L1 119 j
              · rw [(t4 q).1]; omega
              · rw [(t5 q).1]; omega
            have hnr : -1 ≤ nst ∧ nst < 8 := by
              rcases p4 with ⟨q, -⟩ | ⟨nx, q, n1, -⟩ <;> omega
            refine r_iload d_X3_cheapestEnd_148 rfl ?_
            refine r_iconst d_X3_cheapestEnd_150 ?_
            refine r_icmp_eq d_X3_cheapestEnd_151 (by omega) (by omega) (fun c151 => ?_) (fun c151 => ?_)
            · have hor : nst = -1 ∨ L3 119 j < L2 119 nst.toNat := Or.inl c151
              refine r_iload d_X3_cheapestEnd_172 rfl ?_
              refine r_istore d_X3_cheapestEnd_174 (by decide) ?_
              refine r_iinc d_X3_cheapestEnd_176 rfl (by decide) ?_
              refine r_goto d_X3_cheapestEnd_179 ?_
              first
              | exact CpL (fin I3 L3 (j : Int) s0 t1 t2 t3 t4 t5 (Or.inl ⟨rfl, hor⟩)) (by repeat (first | exact trivial | refine ⟨rfl, ?_⟩))
              | exact CpL (fin I3 L3 nst s0 t1 t2 t3 t4 t5 (Or.inr ⟨rfl, c151, hle⟩)) (by repeat (first | exact trivial | refine ⟨rfl, ?_⟩))
            · obtain ⟨nx, q1, n1, n2, n3, q4⟩ := hnb c151
              have en : L3 119 nx = L2 119 nx := (t3 nx (by omega)).1
              refine r_aload_n d_X3_cheapestEnd_154 rfl ?_
              refine r_getr d_X3_cheapestEnd_155 f_X3_27 (tt_79 _ _) (by decide) rfl (rr_79_6 _) ?_
              refine r_iload d_X3_cheapestEnd_158 rfl ?_
              refine r_laldJ d_X3_cheapestEnd_160 (tt_119 _ _) rfl (by omega) (kk := ?_)
              refine r_aload_n d_X3_cheapestEnd_161 rfl ?_
              refine r_getr d_X3_cheapestEnd_162 f_X3_27 (tt_79 _ _) (by decide) rfl (rr_79_6 _) ?_
              refine r_iload d_X3_cheapestEnd_165 rfl ?_
              refine r_laldJ (j := nx) d_X3_cheapestEnd_167 (tt_119 _ _) (by omega) (by omega) (kk := ?_)
              refine r_lcmp d_X3_cheapestEnd_168 (by omega) (by rw [en]; omega) ?_
              refine r_if_ge d_X3_cheapestEnd_169 (by have := cmp_rg (x := L3 119 j) (y := L3 119 nx); omega) (fun c169 => ?_) (fun c169 => ?_)
              · have hle : L2 119 nst.toNat ≤ L3 119 j := by rw [q1, Int.toNat_natCast, ← en]; exact cmp_ge.mp c169
                refine r_iinc d_X3_cheapestEnd_176 rfl (by decide) ?_
                refine r_goto d_X3_cheapestEnd_179 ?_
                first
                | exact CpL (fin I3 L3 (j : Int) s0 t1 t2 t3 t4 t5 (Or.inl ⟨rfl, hor⟩)) (by repeat (first | exact trivial | refine ⟨rfl, ?_⟩))
                | exact CpL (fin I3 L3 nst s0 t1 t2 t3 t4 t5 (Or.inr ⟨rfl, c151, hle⟩)) (by repeat (first | exact trivial | refine ⟨rfl, ?_⟩))
              · have hor : nst = -1 ∨ L3 119 j < L2 119 nst.toNat := Or.inr (by rw [q1, Int.toNat_natCast, ← en]; exact Int.not_le.mp (fun q => c169 (cmp_ge.mpr q)))
                refine r_iload d_X3_cheapestEnd_172 rfl ?_
                refine r_istore d_X3_cheapestEnd_174 (by decide) ?_
                refine r_iinc d_X3_cheapestEnd_176 rfl (by decide) ?_
                refine r_goto d_X3_cheapestEnd_179 ?_
                first
                | exact CpL (fin I3 L3 (j : Int) s0 t1 t2 t3 t4 t5 (Or.inl ⟨rfl, hor⟩)) (by repeat (first | exact trivial | refine ⟨rfl, ?_⟩))
                | exact CpL (fin I3 L3 nst s0 t1 t2 t3 t4 t5 (Or.inr ⟨rfl, c151, hle⟩)) (by repeat (first | exact trivial | refine ⟨rfl, ?_⟩))
          refine r_iload d_X3_cheapestEnd_65 rfl ?_
          refine r_aload_n d_X3_cheapestEnd_67 rfl ?_
          refine r_geti d_X3_cheapestEnd_68 f_X3_61 (tt_79 _ _) (by decide) (by decide) ?_
          refine r_icmp_ge d_X3_cheapestEnd_71 (by omega) (by omega) (fun c71 => absurd c71 (by omega)) (fun c71 => ?_)
          refine r_aload_n d_X3_cheapestEnd_74 rfl ?_
          refine r_getr d_X3_cheapestEnd_75 f_X3_35 (tt_79 _ _) (by decide) rfl (rr_79_8 _) ?_
          refine r_iload d_X3_cheapestEnd_78 rfl ?_
          refine r_zaldJ d_X3_cheapestEnd_80 (tt_121 _ _) rfl (by omega) (kk := ?_)
          refine r_if_ne d_X3_cheapestEnd_81 (by rw [e121]; rcases hsj with h | h <;> rw [h] <;> decide) (fun c81 => ?_) (fun c81 => ?_)
          · refine r_iinc d_X3_cheapestEnd_176 rfl (by decide) ?_
            refine r_goto d_X3_cheapestEnd_179 ?_
            refine CpL (ih2 (j + 1) nst I2 L2 (by omega) gI gL (fun i hi => p0 i (by omega)) (fun i hi e => ?_) (fun i hi e q => ?_) (fun i hi e q => ?_) ?_) (by repeat (first | exact trivial | refine ⟨rfl, ?_⟩))
            · by_cases h : i = j
              · rw [h]; exact ej
              · exact p1 i (by omega) e
            · refine p2 i ?_ e q
              have : i ≠ j := fun h => by rw [e121] at c81; rw [h] at e; exact c81 e
              omega
            · refine p3 i ?_ e q
              have : i ≠ j := fun h => by rw [e121] at c81; rw [h] at e; exact c81 e
              omega
            · rw [e121] at c81
              rcases p4 with ⟨q, q2⟩ | ⟨nx, q, n1, n2, n3⟩
              · refine Or.inl ⟨q, fun i hi => ?_⟩
                by_cases h : i = j
                · rw [h]; exact c81
                · exact q2 i (by omega)
              · refine Or.inr ⟨nx, q, by omega, n2, fun i hi e => ?_⟩
                have : i ≠ j := fun h => by rw [h] at e; exact c81 e
                exact n3 i (by omega) e
          · have s0 : I1 121 j = 0 := by rw [e121] at c81; omega
            refine r_lload d_X3_cheapestEnd_84 rfl ?_
            refine r_aload_n d_X3_cheapestEnd_86 rfl ?_
            refine r_getr d_X3_cheapestEnd_87 f_X3_11 (tt_79 _ _) (by decide) rfl (rr_79_2 _) ?_
            refine r_iload_n d_X3_cheapestEnd_90 rfl ?_
            refine r_aaldJ d_X3_cheapestEnd_91 (tt_80 _ _) (by decide) rfl (by omega) (rr2_80 _ (by omega)) (kk := ?_)
            refine r_iload d_X3_cheapestEnd_92 rfl ?_
            refine r_laldJ d_X3_cheapestEnd_94 (tt2_80 _ _ (by omega)) rfl (by omega) (kk := ?_)
            refine r_lsub d_X3_cheapestEnd_95 ?_
            refine r_aload_n d_X3_cheapestEnd_96 rfl ?_
            refine r_getr d_X3_cheapestEnd_97 f_X3_16 (tt_79 _ _) (by decide) rfl (rr_79_3 _) ?_
            refine r_iload_n d_X3_cheapestEnd_100 rfl ?_
            refine r_aaldJ d_X3_cheapestEnd_101 (tt_89 _ _) (by decide) rfl (by omega) (rr2_89 _ (by omega)) (kk := ?_)
            refine r_iload_n d_X3_cheapestEnd_102 rfl ?_
            refine r_laldJ d_X3_cheapestEnd_103 (tt2_89 _ _ (by omega)) rfl (by omega) (kk := ?_)
            refine r_lsub d_X3_cheapestEnd_104 ?_
            refine r_aload_n d_X3_cheapestEnd_105 rfl ?_
            refine r_getr d_X3_cheapestEnd_106 f_X3_19 (tt_79 _ _) (by decide) rfl (rr_79_4 _) ?_
            refine r_iload_n d_X3_cheapestEnd_109 rfl ?_
            refine r_aaldJ d_X3_cheapestEnd_110 (tt_99 _ _) (by decide) rfl (by omega) (rr2_99 _ (by omega)) (kk := ?_)
            refine r_iload d_X3_cheapestEnd_111 rfl ?_
            refine r_laldJ d_X3_cheapestEnd_113 (tt2_99 _ _ (by omega)) rfl (by omega) (kk := ?_)
            refine r_lsub d_X3_cheapestEnd_114 ?_
            rw [ef]
            refine r_lstore d_X3_cheapestEnd_115 (by decide) ?_
            refine r_lload d_X3_cheapestEnd_117 rfl ?_
            refine r_aload_n d_X3_cheapestEnd_119 rfl ?_
            refine r_getr d_X3_cheapestEnd_120 f_X3_27 (tt_79 _ _) (by decide) rfl (rr_79_6 _) ?_
            refine r_iload d_X3_cheapestEnd_123 rfl ?_
            refine r_laldJ d_X3_cheapestEnd_125 (tt_119 _ _) rfl (by omega) (kk := ?_)
            refine r_lcmp d_X3_cheapestEnd_126 (by omega) (by rw [ej.1]; omega) ?_
            refine r_if_ge d_X3_cheapestEnd_127 (by have := cmp_rg (x := FR j) (y := L2 119 j); omega) (fun c127 => ?_) (fun c127 => ?_)
            · have nf : ¬ FR j < L1 119 j := by rw [ej.1] at c127; have := cmp_ge.mp c127; omega
              first
              | exact CpL (tail I2 L2 s0 gI gL (fun i hi => ⟨rfl, rfl⟩) (fun h => absurd h nf) (fun _ => ej)) (by repeat (first | exact trivial | refine ⟨rfl, ?_⟩))
              | exact CpL (tail _ _ s0 (fun a ha => by rw [up2_ne _ _ ha]; exact gI a ha) (fun a ha => by rw [up2_ne _ _ ha]; exact gL a ha) (fun i hi => ⟨up2_nj _ _ hi, up2_nj _ _ hi⟩) (fun _ => ⟨up2_at _ _ _ _, up2_at _ _ _ _⟩) (fun h => absurd nf h)) (by repeat (first | exact trivial | refine ⟨rfl, ?_⟩))
            · have nf : FR j < L1 119 j := by rw [ej.1] at c127; exact Int.not_le.mp (fun q => c127 (cmp_ge.mpr q))
              refine r_aload_n d_X3_cheapestEnd_130 rfl ?_
              refine r_getr d_X3_cheapestEnd_131 f_X3_27 (tt_79 _ _) (by decide) rfl (rr_79_6 _) ?_
              refine r_iload d_X3_cheapestEnd_134 rfl ?_
              refine r_lload d_X3_cheapestEnd_136 rfl ?_
              refine r_lastJ d_X3_cheapestEnd_138 (tt_119 _ _) (by omega) rfl (by omega) (kk := ?_)
              refine r_aload_n d_X3_cheapestEnd_139 rfl ?_
              refine r_getr d_X3_cheapestEnd_140 f_X3_31 (tt_79 _ _) (by decide) rfl (rr_79_7 _) ?_
              refine r_iload d_X3_cheapestEnd_143 rfl ?_
              refine r_iload d_X3_cheapestEnd_145 rfl ?_
              refine r_iastJ d_X3_cheapestEnd_147 (tt_120 _ _) (by omega) rfl (by omega) (kk := ?_)
              first
              | exact CpL (tail I2 L2 s0 gI gL (fun i hi => ⟨rfl, rfl⟩) (fun h => absurd h nf) (fun _ => ej)) (by repeat (first | exact trivial | refine ⟨rfl, ?_⟩))
              | exact CpL (tail _ _ s0 (fun a ha => by rw [up2_ne _ _ ha]; exact gI a ha) (fun a ha => by rw [up2_ne _ _ ha]; exact gL a ha) (fun i hi => ⟨up2_nj _ _ hi, up2_nj _ _ hi⟩) (fun _ => ⟨up2_at _ _ _ _, up2_at _ _ _ _⟩) (fun h => absurd nf h)) (by repeat (first | exact trivial | refine ⟨rfl, ?_⟩))
      refine r_iload d_X3_cheapestEnd_50 rfl ?_
      refine r_aload_n d_X3_cheapestEnd_52 rfl ?_
      refine r_geti d_X3_cheapestEnd_53 f_X3_61 (tt_79 _ _) (by decide) (by decide) ?_
      refine r_icmp_ge d_X3_cheapestEnd_56 (by omega) (by omega) (fun c56 => absurd c56 (by omega)) (fun c56 => ?_)
      refine r_iconst d_X3_cheapestEnd_59 ?_
      refine r_istore d_X3_cheapestEnd_60 (by decide) ?_
      refine r_iconst d_X3_cheapestEnd_62 ?_
      refine r_istore d_X3_cheapestEnd_63 (by decide) ?_
      refine CpL (inner P 0 (-1) I1 L1 (by omega) (fun _ _ => rfl) (fun _ _ => rfl) (fun _ _ => ⟨rfl, rfl⟩) (fun i hi => absurd hi (by omega)) (fun i hi => absurd hi (by omega)) (fun i hi => absurd hi (by omega)) (Or.inl ⟨rfl, fun i hi => absurd hi (by omega)⟩)) (by repeat (first | exact trivial | refine ⟨rfl, ?_⟩))
  have start : ∀ (k b : Nat) (I1 L1 : sI), b + k = P → (∀ a, ¬ (a = 120 ∨ a = 121) → I1 a = I a) → (∀ a, ¬ a = 119 → L1 a = L a) → (∀ j, j < b → L1 119 j = 1000000000000000 ∧ I1 120 j = -1 ∧ I1 121 j = 0) → Cp g 0 m_X3_cheapestEnd 0 0 Q 2 [(0, vr 79), (1, vi (lv : Int)), (2, vi (r : Int)), (3, vi (b : Int))] [] (TT Ls tl) I1 L1 (RR tl) := by
    intro k
    induction k with
    | zero =>
      intro b I1 L1 hbk fI fL hj
      have hp1 : I1 79 1 = (P : Int) := by rw [fI 79 (by omega)]; exact h1
      refine r_iload_n d_X3_cheapestEnd_2 rfl ?_
      refine r_aload_n d_X3_cheapestEnd_3 rfl ?_
      refine r_geti d_X3_cheapestEnd_4 f_X3_61 (tt_79 _ _) (by decide) (by decide) ?_
      refine r_icmp_ge d_X3_cheapestEnd_7 (by omega) (by omega) (fun c7 => ?_) (fun c7 => absurd c7 (by omega))
      refine r_iload_n d_X3_cheapestEnd_39 rfl ?_
      refine r_istore_n d_X3_cheapestEnd_40 (by decide) ?_
      refine r_iconst d_X3_cheapestEnd_41 ?_
      refine r_istore d_X3_cheapestEnd_42 (by decide) ?_
      refine r_lconst (z := 0) d_X3_cheapestEnd_44 rfl ?_
      refine r_lstore d_X3_cheapestEnd_45 (by decide) ?_
      refine r_iconst d_X3_cheapestEnd_47 ?_
      refine r_istore d_X3_cheapestEnd_48 (by decide) ?_
      refine CpL (outer P 0 r (-1) 0 (fun _ => 0) I1 L1 (by omega) fI fL (fun _ j hj' => (hj j (by omega)).1) ?_) (by repeat (first | exact trivial | refine ⟨rfl, ?_⟩))
      have hz : ∀ j, j < P → I1 121 j = 0 := fun j hj' => (hj j (by omega)).2.2
      refine ⟨?_, fun j hj' => Or.inl (hz j hj'), fun _ => ⟨rfl, rfl, rfl⟩, fun h => absurd h (by omega), fun j hj' e => ?_, fun h => absurd h (by omega), fun h => absurd h (by omega), fun i j ρ hi e => ?_, fun h => absurd h (by omega)⟩
      · rw [sumN_eq P (h := fun _ => 0) hz, sumN_zero]; rfl
      · have := hz j hj'; omega
      · have := hz i hi; omega
    | succ k ih =>
      intro b I1 L1 hbk fI fL hj
      have hp1 : I1 79 1 = (P : Int) := by rw [fI 79 (by omega)]; exact h1
      refine r_iload_n d_X3_cheapestEnd_2 rfl ?_
      refine r_aload_n d_X3_cheapestEnd_3 rfl ?_
      refine r_geti d_X3_cheapestEnd_4 f_X3_61 (tt_79 _ _) (by decide) (by decide) ?_
      refine r_icmp_ge d_X3_cheapestEnd_7 (by omega) (by omega) (fun c7 => absurd c7 (by omega)) (fun c7 => ?_)
      refine r_aload_n d_X3_cheapestEnd_10 rfl ?_
      refine r_getr d_X3_cheapestEnd_11 f_X3_27 (tt_79 _ _) (by decide) rfl (rr_79_6 _) ?_
      refine r_iload_n d_X3_cheapestEnd_14 rfl ?_
      refine r_ldc2 d_X3_cheapestEnd_15 (k_X3_103 _ rfl) ?_
      refine r_lastJ d_X3_cheapestEnd_18 (tt_119 _ _) (by omega) rfl (by omega) (kk := ?_)
      refine r_aload_n d_X3_cheapestEnd_19 rfl ?_
      refine r_getr d_X3_cheapestEnd_20 f_X3_31 (tt_79 _ _) (by decide) rfl (rr_79_7 _) ?_
      refine r_iload_n d_X3_cheapestEnd_23 rfl ?_
      refine r_iconst d_X3_cheapestEnd_24 ?_
      refine r_iastJ d_X3_cheapestEnd_25 (tt_120 _ _) (by omega) rfl (by omega) (kk := ?_)
      refine r_aload_n d_X3_cheapestEnd_26 rfl ?_
      refine r_getr d_X3_cheapestEnd_27 f_X3_35 (tt_79 _ _) (by decide) rfl (rr_79_8 _) ?_
      refine r_iload_n d_X3_cheapestEnd_30 rfl ?_
      refine r_iconst d_X3_cheapestEnd_31 ?_
      refine r_zastJ d_X3_cheapestEnd_32 (tt_121 _ _) (by omega) rfl (by omega) (by omega) (kk := ?_)
      refine r_iinc d_X3_cheapestEnd_33 rfl (by decide) ?_
      refine r_goto d_X3_cheapestEnd_36 ?_
      refine CpL (ih (b + 1) _ _ (by omega) (fun a ha => ?_) (fun a ha => ?_) (fun j hjb => ?_)) (by repeat (first | exact trivial | refine ⟨rfl, ?_⟩))
      · rw [up2_ne _ _ (by omega), up2_ne _ _ (by omega)]; exact fI a ha
      · rw [up2_ne _ _ (by omega)]; exact fL a ha
      · by_cases e : j = b
        · subst e
          simp [up2]
        · have := hj j (by omega)
          simp [up2, e, this]
  refine r_iconst d_X3_cheapestEnd_0 ?_
  refine r_istore_n d_X3_cheapestEnd_1 (by decide) ?_
  exact CpL (start P 0 I L (by omega) (fun _ _ => rfl) (fun _ _ => rfl) (fun j hj => absurd hj (by omega))) (by repeat (first | exact trivial | refine ⟨rfl, ?_⟩))
end K2
