/-! the reference's giving -/
theorem cst_bd {σ : Sg} {rd : Nat → Int} {q : Nat} {p : Int} (gq : GV σ q) (h : p = -1 ∨ (-1 ≤ rd p.toNat ∧ rd p.toNat ≤ 44)) : (0 ≤ wkS σ rd q p ∧ wkS σ rd q p ≤ 44) ∧ (0 ≤ cstS σ rd q p ∧ cstS σ rd q p ≤ 396) := by
  unfold GV at gq
  have hw : 0 ≤ wkS σ rd q p ∧ wkS σ rd q p ≤ 44 := by
    unfold wkS wtR
    split
    · omega
    · rcases h with h | h
      · contradiction
      · split <;> omega
  refine ⟨hw, ?_⟩
  have := mul_bd (A := 9) (B := 44) (a := σ 13 q) (b := wkS σ rd q p) (by omega) hw
  unfold cstS
  omega
theorem rs_bd {σ : Sg} {nr ng : Nat} {rd : Nat → Int} (hrd : ∀ r, r < nr → -1 ≤ rd r ∧ rd r ≤ 44) (hg : ∀ q, q < ng → GV σ q) : ∀ k m, k ≤ ng → 0 ≤ rsS σ nr ng rd k m ∧ rsS σ nr ng rd k m ≤ 396 * (k : Int)
  | 0, _, _ => by show (0 : Int) ≤ 0 ∧ (0 : Int) ≤ _; omega
  | k + 1, m, hk => by
    have i1 := rs_bd hrd hg k m (by omega)
    have c1 := (cst_bd (rd := rd) (p := -1) (hg (ng - (k + 1)) (by omega)) (Or.inl rfl)).2
    obtain ⟨n1, n2, n3⟩ := mn_le (b := cstS σ rd (ng - (k + 1)) (-1) + rsS σ nr ng rd k m) (ok := fun r => cnH σ rd (ng - (k + 1)) m r) (f := fun r => cstS σ rd (ng - (k + 1)) (r : Int) + rsS σ nr ng rd k (m ||| 2 ^ r)) nr
    have e : rsS σ nr ng rd (k + 1) m = mnR (cstS σ rd (ng - (k + 1)) (-1) + rsS σ nr ng rd k m) (fun r => cnH σ rd (ng - (k + 1)) m r) (fun r => cstS σ rd (ng - (k + 1)) (r : Int) + rsS σ nr ng rd k (m ||| 2 ^ r)) nr := rfl
    rw [e]
    refine ⟨?_, by omega⟩
    rcases n3 with h | ⟨i, i2, -, h⟩
    · omega
    · have i3 := rs_bd hrd hg k (m ||| 2 ^ i) (by omega)
      have c2 := (cst_bd (rd := rd) (p := (i : Int)) (hg (ng - (k + 1)) (by omega)) (Or.inr (hrd i i2))).2
      rw [h]
      show 0 ≤ cstS σ rd (ng - (k + 1)) (i : Int) + rsS σ nr ng rd k (m ||| 2 ^ i)
      omega
section X85
variable {g : sG} {Ls : Nat} {tl : List Nat} {T : sT} {R : sR} {I L : sI} {σ δ : Sg} {ℓ ab : Int} {nr nW ng : Nat} {rd : Nat → Int}
theorem x_waits (hV : MV σ ℓ nr nW ng) (hX : MX σ nr nW ng I) (hrd : ∀ r, r < nr → I 179 r = rd r ∧ -1 ≤ rd r ∧ rd r ≤ 44) {q : Nat} (hq : q < ng) {p : Int} (hp : -1 ≤ p ∧ p < nr) : Mc g 1 m_X8_waits 0 0 [vr 139, vi (q : Int), vi p] (TT Ls tl) I L (RR tl) (qI fun z T' I' L' R' => z = wkS σ rd q p ∧ same (TT Ls tl) I L (RR tl) T' I' L' R') := by
  refine Mc_of rfl (Nat.le_of_ble_eq_true rfl) ?_
  obtain ⟨⟨s1, s2, s3, s4, s5⟩, v2, v3, v4⟩ := id hV
  have e10 : I 150 q = σ 10 q := hX.2.2.2.2 q hq 0 (by omega)
  have gq := v3 q hq
  unfold GV at gq
  by_cases h : p = -1
  · subst h
    refine r_iload_n d_X8_waits_0 rfl ?_
    refine r_iconst d_X8_waits_1 ?_
    refine r_icmp_ne d_X8_waits_2 (by omega) (by omega) (fun c2 => absurd c2 (by decide)) (fun c2 => ?_)
    refine r_bipush d_X8_waits_5 (by decide) ?_
    refine r_aload_n d_X8_waits_7 rfl ?_
    refine r_getr d_X8_waits_8 f_X8_40 (tt_139 _ _) (by decide) rfl (rr_139_13 _) ?_
    refine r_iload_n d_X8_waits_11 rfl ?_
    refine r_ialdJ d_X8_waits_12 (tt_150 _ _) rfl (by omega) (kk := ?_)
    rw [e10]
    refine r_isub d_X8_waits_13 ?_
    refine r_goto d_X8_waits_14 ?_
    refine r_iret d_X8_waits_34 rfl ?_
    exact ⟨_, rfl, by unfold wkS; rw [if_pos rfl], same_rf⟩
  · obtain ⟨r, rfl⟩ : ∃ r : Nat, p = (r : Int) := ⟨p.toNat, by omega⟩
    obtain ⟨r1, r2, r3⟩ := hrd r (by omega)
    refine r_iload_n d_X8_waits_0 rfl ?_
    refine r_iconst d_X8_waits_1 ?_
    refine r_icmp_ne d_X8_waits_2 (by omega) (by omega) (fun c2 => ?_) (fun c2 => absurd c2 (by exact h))
    refine r_iconst d_X8_waits_17 ?_
    refine r_aload_n d_X8_waits_18 rfl ?_
    refine r_getr d_X8_waits_19 f_X8_136 (tt_139 _ _) (by decide) rfl (rr_139_61 _) ?_
    refine r_iload_n d_X8_waits_22 rfl ?_
    refine r_ialdJ d_X8_waits_23 (tt_179 _ _) rfl (by omega) (kk := ?_)
    rw [r1]
    refine r_aload_n d_X8_waits_24 rfl ?_
    refine r_getr d_X8_waits_25 f_X8_40 (tt_139 _ _) (by decide) rfl (rr_139_13 _) ?_
    refine r_iload_n d_X8_waits_28 rfl ?_
    refine r_ialdJ d_X8_waits_29 (tt_150 _ _) rfl (by omega) (kk := ?_)
    rw [e10]
    refine r_isub d_X8_waits_30 ?_
    refine r_S2i d_X8_waits_31 (w_X8_285 _ rfl) (x_greater (by omega) (by omega)) (by decide) (Nat.le_of_ble_eq_true rfl) (fun z31 T31 I31 L31 R31 h31 => ?_)
    obtain ⟨rfl, rfl, rfl, rfl, rfl⟩ := h31
    refine r_iret d_X8_waits_34 rfl ?_
    exact ⟨_, rfl, by unfold wkS wtR; rw [if_neg h, Int.toNat_natCast], same_rf⟩
theorem x_costOf (hV : MV σ ℓ nr nW ng) (hX : MX σ nr nW ng I) (hrd : ∀ r, r < nr → I 179 r = rd r ∧ -1 ≤ rd r ∧ rd r ≤ 44) {q : Nat} (hq : q < ng) {p : Int} (hp : -1 ≤ p ∧ p < nr) : Mc g 2 m_X8_costOf 0 0 [vr 139, vi (q : Int), vi p] (TT Ls tl) I L (RR tl) (qI fun z T' I' L' R' => z = cstS σ rd q p ∧ same (TT Ls tl) I L (RR tl) T' I' L' R') := by
  refine Mc_of rfl (Nat.le_of_ble_eq_true rfl) ?_
  obtain ⟨⟨s1, s2, s3, s4, s5⟩, v2, v3, v4⟩ := id hV
  have e13 : I 153 q = σ 13 q := hX.2.2.2.2 q hq 3 (by omega)
  refine r_aload_n d_X8_costOf_0 rfl ?_
  refine r_getr d_X8_costOf_1 f_X8_50 (tt_139 _ _) (by decide) rfl (rr_139_16 _) ?_
  refine r_iload_n d_X8_costOf_4 rfl ?_
  refine r_ialdJ d_X8_costOf_5 (tt_153 _ _) rfl (by omega) (kk := ?_)
  rw [e13]
  refine r_aload_n d_X8_costOf_6 rfl ?_
  refine r_iload_n d_X8_costOf_7 rfl ?_
  refine r_iload_n d_X8_costOf_8 rfl ?_
  refine r_V2i d_X8_costOf_9 (w_X8_339 _ rfl) (tt_139 _ _) rfl rfl (x_waits hV hX hrd hq hp) (by decide) (Nat.le_of_ble_eq_true rfl) (fun z9 T9 I9 L9 R9 h9 => ?_)
  obtain ⟨rfl, rfl, rfl, rfl, rfl⟩ := h9
  refine r_imul d_X8_costOf_12 ?_
  refine r_iret d_X8_costOf_13 rfl ?_
  exact ⟨_, rfl, rfl, same_rf⟩
theorem x_canHave (hV : MV σ ℓ nr nW ng) (hX : MX σ nr nW ng I) (hrd : ∀ r, r < nr → I 179 r = rd r ∧ -1 ≤ rd r ∧ rd r ≤ 44) {q r m : Nat} (hq : q < ng) (hr : r < nr) (hm : m < 256) : Mc g 1 m_X8_canHave 0 0 [vr 139, vi (q : Int), vi (r : Int), vi (m : Int)] (TT Ls tl) I L (RR tl) (qI fun z T' I' L' R' => z = (if cnH σ rd q m r = true then 1 else 0) ∧ same (TT Ls tl) I L (RR tl) T' I' L' R') := by
  refine Mc_of rfl (Nat.le_of_ble_eq_true rfl) ?_
  obtain ⟨⟨s1, s2, s3, s4, s5⟩, v2, v3, v4⟩ := id hV
  obtain ⟨r1, r2, r3⟩ := hrd r hr
  have et : sand (sshr (m : Int) (r : Int)) 1 = if m.testBit r then 1 else 0 := bit_tst (by omega) (by omega)
  have hs := x_suits (g := g) (Ls := Ls) (tl := tl) (L := L) hV hX hr hq
  by_cases h1 : rd r = -1
  · have e : ¬ cnH σ rd q m r = true := fun h => by unfold cnH at h; rw [decide_eq_false (fun p => p h1)] at h; cases h
    refine r_aload_n d_X8_canHave_0 rfl ?_
    refine r_getr d_X8_canHave_1 f_X8_136 (tt_139 _ _) (by decide) rfl (rr_139_61 _) ?_
    refine r_iload_n d_X8_canHave_4 rfl ?_
    refine r_ialdJ d_X8_canHave_5 (tt_179 _ _) rfl (by omega) (kk := ?_)
    rw [r1]
    refine r_iconst d_X8_canHave_6 ?_
    refine r_icmp_eq d_X8_canHave_7 (by omega) (by omega) (fun c7 => ?_) (fun c7 => absurd c7 (by exact fun q => q h1))
    refine r_iconst d_X8_canHave_31 ?_
    refine r_zret d_X8_canHave_32 rfl (by omega) ?_
    exact ⟨_, rfl, by rw [if_neg e], same_rf⟩
  · cases hf : fitS σ r q with
    | false =>
      rw [hf, if_neg (by decide)] at hs
      have e : ¬ cnH σ rd q m r = true := fun h => by unfold cnH at h; rw [hf, Bool.and_false] at h; cases h
      refine r_aload_n d_X8_canHave_0 rfl ?_
      refine r_getr d_X8_canHave_1 f_X8_136 (tt_139 _ _) (by decide) rfl (rr_139_61 _) ?_
      refine r_iload_n d_X8_canHave_4 rfl ?_
      refine r_ialdJ d_X8_canHave_5 (tt_179 _ _) rfl (by omega) (kk := ?_)
      rw [r1]
      refine r_iconst d_X8_canHave_6 ?_
      refine r_icmp_eq d_X8_canHave_7 (by omega) (by omega) (fun c7 => absurd c7 (by exact h1)) (fun c7 => ?_)
      refine r_aload_n d_X8_canHave_10 rfl ?_
      refine r_iload_n d_X8_canHave_11 rfl ?_
      refine r_iload_n d_X8_canHave_12 rfl ?_
      refine r_V2i d_X8_canHave_13 (w_X8_304 _ rfl) (tt_139 _ _) rfl rfl (hs) (by decide) (Nat.le_of_ble_eq_true rfl) (fun z13 T13 I13 L13 R13 h13 => ?_)
      obtain ⟨rfl, rfl, rfl, rfl, rfl⟩ := h13
      refine r_if_eq d_X8_canHave_16 (by omega) (fun c16 => ?_) (fun c16 => absurd c16 (by decide))
      refine r_iconst d_X8_canHave_31 ?_
      refine r_zret d_X8_canHave_32 rfl (by omega) ?_
      exact ⟨_, rfl, by rw [if_neg e], same_rf⟩
    | true =>
      rw [hf, if_pos rfl] at hs
      cases hb : m.testBit r with
      | false =>
        rw [hb, if_neg (by decide)] at et
        have e : cnH σ rd q m r = true := by unfold cnH; rw [hf, hb, decide_eq_true h1]; rfl
        refine r_aload_n d_X8_canHave_0 rfl ?_
        refine r_getr d_X8_canHave_1 f_X8_136 (tt_139 _ _) (by decide) rfl (rr_139_61 _) ?_
        refine r_iload_n d_X8_canHave_4 rfl ?_
        refine r_ialdJ d_X8_canHave_5 (tt_179 _ _) rfl (by omega) (kk := ?_)
        rw [r1]
        refine r_iconst d_X8_canHave_6 ?_
        refine r_icmp_eq d_X8_canHave_7 (by omega) (by omega) (fun c7 => absurd c7 (by exact h1)) (fun c7 => ?_)
        refine r_aload_n d_X8_canHave_10 rfl ?_
        refine r_iload_n d_X8_canHave_11 rfl ?_
        refine r_iload_n d_X8_canHave_12 rfl ?_
        refine r_V2i d_X8_canHave_13 (w_X8_304 _ rfl) (tt_139 _ _) rfl rfl (hs) (by decide) (Nat.le_of_ble_eq_true rfl) (fun z13 T13 I13 L13 R13 h13 => ?_)
        obtain ⟨rfl, rfl, rfl, rfl, rfl⟩ := h13
        refine r_if_eq d_X8_canHave_16 (by omega) (fun c16 => absurd c16 (by decide)) (fun c16 => ?_)
        refine r_iload_n d_X8_canHave_19 rfl ?_
        refine r_iload_n d_X8_canHave_20 rfl ?_
        refine r_ishr d_X8_canHave_21 ?_
        refine r_iconst d_X8_canHave_22 ?_
        refine r_iand d_X8_canHave_23 ?_
        rw [et]
        refine r_if_ne d_X8_canHave_24 (by omega) (fun c24 => absurd c24 (by decide)) (fun c24 => ?_)
        refine r_iconst d_X8_canHave_27 ?_
        refine r_goto d_X8_canHave_28 ?_
        refine r_zret d_X8_canHave_32 rfl (by omega) ?_
        exact ⟨_, rfl, by rw [if_pos e], same_rf⟩
      | true =>
        rw [hb, if_pos rfl] at et
        have e : ¬ cnH σ rd q m r = true := fun h => by unfold cnH at h; rw [hb] at h; simp at h
        refine r_aload_n d_X8_canHave_0 rfl ?_
        refine r_getr d_X8_canHave_1 f_X8_136 (tt_139 _ _) (by decide) rfl (rr_139_61 _) ?_
        refine r_iload_n d_X8_canHave_4 rfl ?_
        refine r_ialdJ d_X8_canHave_5 (tt_179 _ _) rfl (by omega) (kk := ?_)
        rw [r1]
        refine r_iconst d_X8_canHave_6 ?_
        refine r_icmp_eq d_X8_canHave_7 (by omega) (by omega) (fun c7 => absurd c7 (by exact h1)) (fun c7 => ?_)
        refine r_aload_n d_X8_canHave_10 rfl ?_
        refine r_iload_n d_X8_canHave_11 rfl ?_
        refine r_iload_n d_X8_canHave_12 rfl ?_
        refine r_V2i d_X8_canHave_13 (w_X8_304 _ rfl) (tt_139 _ _) rfl rfl (hs) (by decide) (Nat.le_of_ble_eq_true rfl) (fun z13 T13 I13 L13 R13 h13 => ?_)
        obtain ⟨rfl, rfl, rfl, rfl, rfl⟩ := h13
        refine r_if_eq d_X8_canHave_16 (by omega) (fun c16 => absurd c16 (by decide)) (fun c16 => ?_)
        refine r_iload_n d_X8_canHave_19 rfl ?_
        refine r_iload_n d_X8_canHave_20 rfl ?_
        refine r_ishr d_X8_canHave_21 ?_
        refine r_iconst d_X8_canHave_22 ?_
        refine r_iand d_X8_canHave_23 ?_
        rw [et]
        refine r_if_ne d_X8_canHave_24 (by omega) (fun c24 => ?_) (fun c24 => absurd c24 (by decide))
        refine r_iconst d_X8_canHave_31 ?_
        refine r_zret d_X8_canHave_32 rfl (by omega) ?_
        exact ⟨_, rfl, by rw [if_neg e], same_rf⟩
theorem x_giveAsTheyCome (hV : MV σ ℓ nr nW ng) (hX : MX σ nr nW ng I) (hrd : ∀ r, r < nr → I 179 r = rd r ∧ -1 ≤ rd r ∧ rd r ≤ 44) {ar : Nat → Nat} (a1 : ∀ i, i < ng → ar i < ng) (a2 : ∀ i j, i < j → j < ng → bef σ (ar i) (ar j)) : Mc g 2 m_X8_giveAsTheyCome 0 0 [vr 139] (TT Ls tl) I L (RR tl) (qV fun T' I' L' R' => T' = TT Ls tl ∧ R' = RR tl ∧ L' = L ∧ frb 181 182 I I' ∧ ∀ i, i < ng → I' 181 (ar i) = pkS σ nr rd ar i) := by
  refine Mc_of rfl (Nat.le_of_ble_eq_true rfl) ?_
  obtain ⟨⟨s1, s2, s3, s4, s5⟩, v2, v3, v4⟩ := id hV
  obtain ⟨Q, hQ⟩ : ∃ Q : sQ, Q = (qV fun T' I' L' R' => T' = TT Ls tl ∧ R' = RR tl ∧ L' = L ∧ frb 181 182 I I' ∧ ∀ i, i < ng → I' 181 (ar i) = pkS σ nr rd ar i) := ⟨_, rfl⟩
  rw [← hQ]
  have outer : ∀ (k t i m : Nat) (I1 : sI), t + k = 45 → frb 181 182 I I1 → i ≤ ng → m < 256 → (∀ r, r < nr → m.testBit r = gvS σ nr rd ar i r) → (∀ j, j < i → I1 181 (ar j) = pkS σ nr rd ar j ∧ σ 10 (ar j) < (t : Int)) → (∀ j, i ≤ j → j < ng → (t : Int) ≤ σ 10 (ar j)) → Cp g 2 m_X8_giveAsTheyCome 0 0 Q 4 [(0, vr 139), (1, vi (m : Int)), (2, vi (t : Int))] [] (TT Ls tl) I1 L (RR tl) := by
    intro k
    induction k with
    | zero =>
      intro t i m I1 ht f hi hm hb hd hu
      have hin : i = ng := by
        rcases Nat.lt_or_ge i ng with h | h
        · have := hu i (Nat.le_refl _) h
          have gq := v3 (ar i) (a1 i h)
          unfold GV at gq
          omega
        · omega
      refine r_iload_n d_X8_giveAsTheyCome_4 rfl ?_
      refine r_bipush d_X8_giveAsTheyCome_5 (by decide) ?_
      refine r_icmp_gt d_X8_giveAsTheyCome_7 (by omega) (by omega) (fun c7 => ?_) (fun c7 => absurd c7 (by omega))
      refine r_vret d_X8_giveAsTheyCome_131 rfl ?_
      rw [hQ]
      exact ⟨rfl, rfl, rfl, rfl, f, fun j hj => (hd j (by omega)).1⟩
    | succ k ih =>
      intro t i m I1 ht f hi hm hb hd hu
      have inner : ∀ (k2 q i m : Nat) (I1 : sI), q + k2 = ng → frb 181 182 I I1 → i ≤ ng → m < 256 → (∀ r, r < nr → m.testBit r = gvS σ nr rd ar i r) → (∀ j, j < i → I1 181 (ar j) = pkS σ nr rd ar j ∧ (σ 10 (ar j) < (t : Int) ∨ (σ 10 (ar j) = (t : Int) ∧ ar j < q))) → (∀ j, i ≤ j → j < ng → ¬ (σ 10 (ar j) < (t : Int) ∨ (σ 10 (ar j) = (t : Int) ∧ ar j < q))) → Cp g 2 m_X8_giveAsTheyCome 0 0 Q 12 [(0, vr 139), (1, vi (m : Int)), (2, vi (t : Int)), (3, vi (q : Int))] [] (TT Ls tl) I1 L (RR tl) := by
        intro k2
        induction k2 with
        | zero =>
          intro q i m I1 hqn f hi hm hb hd hu
          have e12 : I1 139 12 = (ng : Int) := by rw [f 139 (by omega)]; exact hX.2.1
          refine r_iload_n d_X8_giveAsTheyCome_12 rfl ?_
          refine r_aload_n d_X8_giveAsTheyCome_13 rfl ?_
          refine r_geti d_X8_giveAsTheyCome_14 f_X8_238 (tt_139 _ _) (by decide) (by decide) ?_
          refine r_icmp_ge d_X8_giveAsTheyCome_17 (by omega) (by omega) (fun c17 => ?_) (fun c17 => absurd c17 (by omega))
          refine r_iinc d_X8_giveAsTheyCome_125 rfl (by decide) ?_
          refine r_goto d_X8_giveAsTheyCome_128 ?_
          exact CpL (ih (t + 1) i m I1 (by omega) f hi hm hb (fun j hj => ⟨(hd j hj).1, by have := (hd j hj).2; omega⟩) (fun j h1 h2 => by have := hu j h1 h2; have := a1 j h2; omega)) (by repeat (first | exact trivial | refine ⟨rfl, ?_⟩))
        | succ k2 ih2 =>
          intro q i m I1 hqn f hi hm hb hd hu
          have hq : q < ng := by omega
          have hX1 := MX_frb hX f (by omega)
          have e12 : I1 139 12 = (ng : Int) := hX1.2.1
          have e0 : I1 139 0 = (nr : Int) := hX1.1
          have e10 : I1 150 q = σ 10 q := hX1.2.2.2.2 q hq 0 (by omega)
          have gq := v3 q hq
          unfold GV at gq
          have hrd1 : ∀ r, r < nr → I1 179 r = rd r ∧ -1 ≤ rd r ∧ rd r ≤ 44 := fun r hr => by rw [f 179 (by omega)]; exact hrd r hr
          by_cases ht2 : σ 10 q = (t : Int)
          · obtain ⟨j, j1, j2⟩ := perm_onto a1 (fun i j hi hj e => ar_inj a2 hi hj e) q hq
            have hij : j = i := by
              rcases Nat.lt_trichotomy j i with h | h | h
              · have := (hd j h).2; rw [j2] at this; omega
              · exact h
              · have b := a2 i j h j1
                rw [j2] at b
                unfold bef at b
                have := hu i (Nat.le_refl _) (by omega)
                omega
            rw [hij] at j1 j2
            have ep : pickS σ nr rd (gvS σ nr rd ar i) q = pkS σ nr rd ar i := by unfold pkS; rw [j2]
            obtain ⟨ok, hok⟩ : ∃ ok : Nat → Bool, ok = fun r => fitS σ r q && !gvS σ nr rd ar i r && decide (rd r ≠ -1) := ⟨_, rfl⟩
            obtain ⟨ky, hky⟩ : ∃ ky : Nat → Int, ky = fun r => wtR (rd r) (σ 10 q) := ⟨_, rfl⟩
            have eA : amin ok ky nr = pkS σ nr rd ar i := by rw [hok, hky]; exact ep
            have ecn : ∀ r, r < nr → cnH σ rd q m r = ok r := fun r hr => by
              rw [hok]
              show _ = (fitS σ r q && !gvS σ nr rd ar i r && decide (rd r ≠ -1))
              unfold cnH
              rw [hb r hr]
              cases decide (rd r ≠ -1) <;> cases fitS σ r q <;> cases gvS σ nr rd ar i r <;> rfl
            have ewk : ∀ r : Nat, wkS σ rd q (r : Int) = ky r := fun r => by rw [hky]; unfold wkS; rw [if_neg (by omega), Int.toNat_natCast]
            have rooms : ∀ (k3 b : Nat), b + k3 = nr → Cp g 2 m_X8_giveAsTheyCome 0 0 Q 36 [(0, vr 139), (1, vi (m : Int)), (2, vi (t : Int)), (3, vi (q : Int)), (4, vi (amin ok ky b)), (5, vi (b : Int))] [] (TT Ls tl) I1 L (RR tl) := by
              intro k3
              induction k3 with
              | zero =>
                intro b hbn
                have hb2 : b = nr := by omega
                obtain ⟨p, hp⟩ : ∃ p, p = amin ok ky b := ⟨_, rfl⟩
                have ep2 : p = pkS σ nr rd ar i := by rw [hp, hb2]; exact eA
                have prg := amin_rng ok ky b
                rw [← hp] at prg ⊢
                obtain ⟨I2, hI2⟩ : ∃ I2, I2 = up2 I1 181 q p := ⟨_, rfl⟩
                have f2 : frb 181 182 I I2 := fun a ha => by rw [hI2, up2_ne _ _ (by omega)]; exact f a ha
                have fin : ∀ m' : Nat, m' < 256 → (∀ r, r < nr → m'.testBit r = (m.testBit r || decide (p = (r : Int)))) → Cp g 2 m_X8_giveAsTheyCome 0 0 Q 12 [(0, vr 139), (1, vi (m' : Int)), (2, vi (t : Int)), (3, vi ((q + 1 : Nat) : Int))] [] (TT Ls tl) I2 L (RR tl) := fun m' hm' hb' => by
                  refine ih2 (q + 1) (i + 1) m' I2 (by omega) f2 (by omega) hm' (fun r hr => ?_) (fun j hj => ?_) (fun j h1 h2 => ?_)
                  · rw [hb' r hr, hb r hr]
                    show _ = (gvS σ nr rd ar i r || decide (pickS σ nr rd (gvS σ nr rd ar i) (ar i) = (r : Int)))
                    rw [j2, ep, ep2]
                  · by_cases e : j = i
                    · rw [e, j2, hI2, up2_at]
                      exact ⟨ep2, by omega⟩
                    · have := hd j (by omega)
                      refine ⟨?_, by omega⟩
                      rw [hI2, up2_nj _ _ (fun h => e (ar_inj a2 (by omega) j1 (by rw [j2]; exact h)))]
                      exact this.1
                  · have := hu j (by omega) h2
                    have : ar j ≠ q := fun h => by have := ar_inj a2 h2 j1 (by rw [j2]; exact h); omega
                    omega
                by_cases hpn : p = -1
                · have g1 := fin m hm (fun r hr => by rw [decide_eq_false (by omega), Bool.or_false])
                  have e5 : sor (m : Int) 0 = (m : Int) := by rw [show (0 : Int) = ((0 : Nat) : Int) from rfl, sor_nat (by omega) (by omega), Nat.or_zero]
                  rw [hI2] at g1
                  refine r_iload d_X8_giveAsTheyCome_36 rfl ?_
                  refine r_aload_n d_X8_giveAsTheyCome_38 rfl ?_
                  refine r_geti d_X8_giveAsTheyCome_39 f_X8_232 (tt_139 _ _) (by decide) (by decide) ?_
                  refine r_icmp_ge d_X8_giveAsTheyCome_42 (by omega) (by omega) (fun c42 => ?_) (fun c42 => absurd c42 (by omega))
                  refine r_aload_n d_X8_giveAsTheyCome_94 rfl ?_
                  refine r_getr d_X8_giveAsTheyCome_95 f_X8_142 (tt_139 _ _) (by decide) rfl (rr_139_63 _) ?_
                  refine r_iload_n d_X8_giveAsTheyCome_98 rfl ?_
                  refine r_iload d_X8_giveAsTheyCome_99 rfl ?_
                  refine r_iastJ d_X8_giveAsTheyCome_101 (tt_181 _ _) (by omega) rfl (by omega) (kk := ?_)
                  refine r_iload_n d_X8_giveAsTheyCome_102 rfl ?_
                  refine r_iload d_X8_giveAsTheyCome_103 rfl ?_
                  refine r_iconst d_X8_giveAsTheyCome_105 ?_
                  refine r_icmp_ne d_X8_giveAsTheyCome_106 (by omega) (by omega) (fun c106 => absurd c106 (by exact fun q => q hpn)) (fun c106 => ?_)
                  refine r_iconst d_X8_giveAsTheyCome_109 ?_
                  refine r_goto d_X8_giveAsTheyCome_110 ?_
                  refine r_ior d_X8_giveAsTheyCome_117 ?_
                  refine r_istore_n d_X8_giveAsTheyCome_118 (by decide) ?_
                  refine r_iinc d_X8_giveAsTheyCome_119 rfl (by decide) ?_
                  refine r_goto d_X8_giveAsTheyCome_122 ?_
                  exact CpL g1 (by repeat (first | exact trivial | refine ⟨rfl, ?_⟩ | refine ⟨by rw [e5]; rfl, ?_⟩))
                · obtain ⟨c, hc⟩ : ∃ c : Nat, p = (c : Int) := ⟨p.toNat, by omega⟩
                  have hc8 : c < 8 := by omega
                  have g1 := fin (m ||| 2 ^ c) (Nat.or_lt_two_pow (n := 8) hm (Nat.pow_lt_pow_right (by decide) hc8)) (fun r hr => by rw [or_bit, hc]; congr 1; exact decide_eq_decide.mpr (by omega))
                  have e5 : sor (m : Int) (sshl 1 p) = ((m ||| 2 ^ c : Nat) : Int) := by rw [hc, sshl_one _ (by omega), sor_nat (by omega) (Nat.lt_of_lt_of_le (Nat.pow_lt_pow_right (by decide) hc8) (by decide))]
                  rw [hI2] at g1
                  refine r_iload d_X8_giveAsTheyCome_36 rfl ?_
                  refine r_aload_n d_X8_giveAsTheyCome_38 rfl ?_
                  refine r_geti d_X8_giveAsTheyCome_39 f_X8_232 (tt_139 _ _) (by decide) (by decide) ?_
                  refine r_icmp_ge d_X8_giveAsTheyCome_42 (by omega) (by omega) (fun c42 => ?_) (fun c42 => absurd c42 (by omega))
                  refine r_aload_n d_X8_giveAsTheyCome_94 rfl ?_
                  refine r_getr d_X8_giveAsTheyCome_95 f_X8_142 (tt_139 _ _) (by decide) rfl (rr_139_63 _) ?_
                  refine r_iload_n d_X8_giveAsTheyCome_98 rfl ?_
                  refine r_iload d_X8_giveAsTheyCome_99 rfl ?_
                  refine r_iastJ d_X8_giveAsTheyCome_101 (tt_181 _ _) (by omega) rfl (by omega) (kk := ?_)
                  refine r_iload_n d_X8_giveAsTheyCome_102 rfl ?_
                  refine r_iload d_X8_giveAsTheyCome_103 rfl ?_
                  refine r_iconst d_X8_giveAsTheyCome_105 ?_
                  refine r_icmp_ne d_X8_giveAsTheyCome_106 (by omega) (by omega) (fun c106 => ?_) (fun c106 => absurd c106 (by exact hpn))
                  refine r_iconst d_X8_giveAsTheyCome_113 ?_
                  refine r_iload d_X8_giveAsTheyCome_114 rfl ?_
                  refine r_ishl d_X8_giveAsTheyCome_116 ?_
                  refine r_ior d_X8_giveAsTheyCome_117 ?_
                  refine r_istore_n d_X8_giveAsTheyCome_118 (by decide) ?_
                  refine r_iinc d_X8_giveAsTheyCome_119 rfl (by decide) ?_
                  refine r_goto d_X8_giveAsTheyCome_122 ?_
                  exact CpL g1 (by repeat (first | exact trivial | refine ⟨rfl, ?_⟩ | refine ⟨by rw [e5]; rfl, ?_⟩))
              | succ k3 ih3 =>
                intro b hbn
                have hbn2 : b < nr := by omega
                have hcn := x_canHave (g := g) (Ls := Ls) (tl := tl) (L := L) hV hX1 hrd1 hq hbn2 hm
                rw [ecn b hbn2] at hcn
                have prg := amin_rng ok ky b
                have w1 := x_waits (g := g) (Ls := Ls) (tl := tl) (L := L) hV hX1 hrd1 hq (p := (b : Int)) (by omega)
                rw [ewk] at w1
                have kb := (cst_bd (rd := rd) (p := (b : Int)) (v3 q hq) (Or.inr (hrd b hbn2).2)).1
                rw [ewk] at kb
                cases hkb : ok b with
                | false =>
                  rw [hkb, if_neg (by decide)] at hcn
                  have en := amin_no (key := ky) (Or.inl hkb)
                  refine r_iload d_X8_giveAsTheyCome_36 rfl ?_
                  refine r_aload_n d_X8_giveAsTheyCome_38 rfl ?_
                  refine r_geti d_X8_giveAsTheyCome_39 f_X8_232 (tt_139 _ _) (by decide) (by decide) ?_
                  refine r_icmp_ge d_X8_giveAsTheyCome_42 (by omega) (by omega) (fun c42 => absurd c42 (by omega)) (fun c42 => ?_)
                  refine r_aload_n d_X8_giveAsTheyCome_45 rfl ?_
                  refine r_iload_n d_X8_giveAsTheyCome_46 rfl ?_
                  refine r_iload d_X8_giveAsTheyCome_47 rfl ?_
                  refine r_iload_n d_X8_giveAsTheyCome_49 rfl ?_
                  refine r_V3i d_X8_giveAsTheyCome_50 (w_X8_342 _ rfl) (tt_139 _ _) rfl rfl (hcn) (by decide) (Nat.le_of_ble_eq_true rfl) (fun z50 T50 I50 L50 R50 h50 => ?_)
                  obtain ⟨rfl, rfl, rfl, rfl, rfl⟩ := h50
                  refine r_if_eq d_X8_giveAsTheyCome_53 (by omega) (fun c53 => ?_) (fun c53 => absurd c53 (by decide))
                  refine r_iload d_X8_giveAsTheyCome_84 rfl ?_
                  refine r_istore d_X8_giveAsTheyCome_86 (by decide) ?_
                  refine r_iinc d_X8_giveAsTheyCome_88 rfl (by decide) ?_
                  refine r_goto d_X8_giveAsTheyCome_91 ?_
                  exact CpL (ih3 (b + 1) (by omega)) (by repeat (first | exact trivial | refine ⟨rfl, ?_⟩ | refine ⟨by rw [en]; rfl, ?_⟩))
                | true =>
                  rw [hkb, if_pos rfl] at hcn
                  by_cases h1 : amin ok ky b = -1
                  · have en := amin_yes hkb (Or.inl h1) (key := ky)
                    refine r_iload d_X8_giveAsTheyCome_36 rfl ?_
                    refine r_aload_n d_X8_giveAsTheyCome_38 rfl ?_
                    refine r_geti d_X8_giveAsTheyCome_39 f_X8_232 (tt_139 _ _) (by decide) (by decide) ?_
                    refine r_icmp_ge d_X8_giveAsTheyCome_42 (by omega) (by omega) (fun c42 => absurd c42 (by omega)) (fun c42 => ?_)
                    refine r_aload_n d_X8_giveAsTheyCome_45 rfl ?_
                    refine r_iload_n d_X8_giveAsTheyCome_46 rfl ?_
                    refine r_iload d_X8_giveAsTheyCome_47 rfl ?_
                    refine r_iload_n d_X8_giveAsTheyCome_49 rfl ?_
                    refine r_V3i d_X8_giveAsTheyCome_50 (w_X8_342 _ rfl) (tt_139 _ _) rfl rfl (hcn) (by decide) (Nat.le_of_ble_eq_true rfl) (fun z50 T50 I50 L50 R50 h50 => ?_)
                    obtain ⟨rfl, rfl, rfl, rfl, rfl⟩ := h50
                    refine r_if_eq d_X8_giveAsTheyCome_53 (by omega) (fun c53 => absurd c53 (by decide)) (fun c53 => ?_)
                    refine r_iload d_X8_giveAsTheyCome_56 rfl ?_
                    refine r_iconst d_X8_giveAsTheyCome_58 ?_
                    refine r_icmp_eq d_X8_giveAsTheyCome_59 (by omega) (by omega) (fun c59 => ?_) (fun c59 => absurd c59 (by exact fun q => q h1))
                    refine r_iload d_X8_giveAsTheyCome_79 rfl ?_
                    refine r_goto d_X8_giveAsTheyCome_81 ?_
                    refine r_istore d_X8_giveAsTheyCome_86 (by decide) ?_
                    refine r_iinc d_X8_giveAsTheyCome_88 rfl (by decide) ?_
                    refine r_goto d_X8_giveAsTheyCome_91 ?_
                    exact CpL (ih3 (b + 1) (by omega)) (by repeat (first | exact trivial | refine ⟨rfl, ?_⟩ | refine ⟨by rw [en]; rfl, ?_⟩))
                  · obtain ⟨c, hc⟩ : ∃ c : Nat, amin ok ky b = (c : Int) := ⟨(amin ok ky b).toNat, by omega⟩
                    have w2 := x_waits (g := g) (Ls := Ls) (tl := tl) (L := L) hV hX1 hrd1 hq (p := amin ok ky b) (by omega)
                    rw [show wkS σ rd q (amin ok ky b) = ky c by rw [hc]; exact ewk c] at w2
                    have kc := (cst_bd (rd := rd) (p := (c : Int)) (v3 q hq) (Or.inr (hrd c (by omega)).2)).1
                    rw [ewk] at kc
                    by_cases h2 : ky b < ky c
                    · have en := amin_yes hkb (key := ky) (Or.inr (by rw [hc, Int.toNat_natCast]; exact h2))
                      refine r_iload d_X8_giveAsTheyCome_36 rfl ?_
                      refine r_aload_n d_X8_giveAsTheyCome_38 rfl ?_
                      refine r_geti d_X8_giveAsTheyCome_39 f_X8_232 (tt_139 _ _) (by decide) (by decide) ?_
                      refine r_icmp_ge d_X8_giveAsTheyCome_42 (by omega) (by omega) (fun c42 => absurd c42 (by omega)) (fun c42 => ?_)
                      refine r_aload_n d_X8_giveAsTheyCome_45 rfl ?_
                      refine r_iload_n d_X8_giveAsTheyCome_46 rfl ?_
                      refine r_iload d_X8_giveAsTheyCome_47 rfl ?_
                      refine r_iload_n d_X8_giveAsTheyCome_49 rfl ?_
                      refine r_V3i d_X8_giveAsTheyCome_50 (w_X8_342 _ rfl) (tt_139 _ _) rfl rfl (hcn) (by decide) (Nat.le_of_ble_eq_true rfl) (fun z50 T50 I50 L50 R50 h50 => ?_)
                      obtain ⟨rfl, rfl, rfl, rfl, rfl⟩ := h50
                      refine r_if_eq d_X8_giveAsTheyCome_53 (by omega) (fun c53 => absurd c53 (by decide)) (fun c53 => ?_)
                      refine r_iload d_X8_giveAsTheyCome_56 rfl ?_
                      refine r_iconst d_X8_giveAsTheyCome_58 ?_
                      refine r_icmp_eq d_X8_giveAsTheyCome_59 (by omega) (by omega) (fun c59 => absurd c59 (by exact h1)) (fun c59 => ?_)
                      refine r_aload_n d_X8_giveAsTheyCome_62 rfl ?_
                      refine r_iload_n d_X8_giveAsTheyCome_63 rfl ?_
                      refine r_iload d_X8_giveAsTheyCome_64 rfl ?_
                      refine r_V2i d_X8_giveAsTheyCome_66 (w_X8_339 _ rfl) (tt_139 _ _) rfl rfl (w1) (by decide) (Nat.le_of_ble_eq_true rfl) (fun z66 T66 I66 L66 R66 h66 => ?_)
                      obtain ⟨rfl, rfl, rfl, rfl, rfl⟩ := h66
                      refine r_aload_n d_X8_giveAsTheyCome_69 rfl ?_
                      refine r_iload_n d_X8_giveAsTheyCome_70 rfl ?_
                      refine r_iload d_X8_giveAsTheyCome_71 rfl ?_
                      refine r_V2i d_X8_giveAsTheyCome_73 (w_X8_339 _ rfl) (tt_139 _ _) rfl rfl (w2) (by decide) (Nat.le_of_ble_eq_true rfl) (fun z73 T73 I73 L73 R73 h73 => ?_)
                      obtain ⟨rfl, rfl, rfl, rfl, rfl⟩ := h73
                      refine r_icmp_ge d_X8_giveAsTheyCome_76 (by omega) (by omega) (fun c76 => absurd c76 (by omega)) (fun c76 => ?_)
                      refine r_iload d_X8_giveAsTheyCome_79 rfl ?_
                      refine r_goto d_X8_giveAsTheyCome_81 ?_
                      refine r_istore d_X8_giveAsTheyCome_86 (by decide) ?_
                      refine r_iinc d_X8_giveAsTheyCome_88 rfl (by decide) ?_
                      refine r_goto d_X8_giveAsTheyCome_91 ?_
                      exact CpL (ih3 (b + 1) (by omega)) (by repeat (first | exact trivial | refine ⟨rfl, ?_⟩ | refine ⟨by rw [en]; rfl, ?_⟩))
                    · have en := amin_no (ok := ok) (key := ky) (n := b) (Or.inr ⟨h1, by rw [hc, Int.toNat_natCast]; omega⟩)
                      refine r_iload d_X8_giveAsTheyCome_36 rfl ?_
                      refine r_aload_n d_X8_giveAsTheyCome_38 rfl ?_
                      refine r_geti d_X8_giveAsTheyCome_39 f_X8_232 (tt_139 _ _) (by decide) (by decide) ?_
                      refine r_icmp_ge d_X8_giveAsTheyCome_42 (by omega) (by omega) (fun c42 => absurd c42 (by omega)) (fun c42 => ?_)
                      refine r_aload_n d_X8_giveAsTheyCome_45 rfl ?_
                      refine r_iload_n d_X8_giveAsTheyCome_46 rfl ?_
                      refine r_iload d_X8_giveAsTheyCome_47 rfl ?_
                      refine r_iload_n d_X8_giveAsTheyCome_49 rfl ?_
                      refine r_V3i d_X8_giveAsTheyCome_50 (w_X8_342 _ rfl) (tt_139 _ _) rfl rfl (hcn) (by decide) (Nat.le_of_ble_eq_true rfl) (fun z50 T50 I50 L50 R50 h50 => ?_)
                      obtain ⟨rfl, rfl, rfl, rfl, rfl⟩ := h50
                      refine r_if_eq d_X8_giveAsTheyCome_53 (by omega) (fun c53 => absurd c53 (by decide)) (fun c53 => ?_)
                      refine r_iload d_X8_giveAsTheyCome_56 rfl ?_
                      refine r_iconst d_X8_giveAsTheyCome_58 ?_
                      refine r_icmp_eq d_X8_giveAsTheyCome_59 (by omega) (by omega) (fun c59 => absurd c59 (by exact h1)) (fun c59 => ?_)
                      refine r_aload_n d_X8_giveAsTheyCome_62 rfl ?_
                      refine r_iload_n d_X8_giveAsTheyCome_63 rfl ?_
                      refine r_iload d_X8_giveAsTheyCome_64 rfl ?_
                      refine r_V2i d_X8_giveAsTheyCome_66 (w_X8_339 _ rfl) (tt_139 _ _) rfl rfl (w1) (by decide) (Nat.le_of_ble_eq_true rfl) (fun z66 T66 I66 L66 R66 h66 => ?_)
                      obtain ⟨rfl, rfl, rfl, rfl, rfl⟩ := h66
                      refine r_aload_n d_X8_giveAsTheyCome_69 rfl ?_
                      refine r_iload_n d_X8_giveAsTheyCome_70 rfl ?_
                      refine r_iload d_X8_giveAsTheyCome_71 rfl ?_
                      refine r_V2i d_X8_giveAsTheyCome_73 (w_X8_339 _ rfl) (tt_139 _ _) rfl rfl (w2) (by decide) (Nat.le_of_ble_eq_true rfl) (fun z73 T73 I73 L73 R73 h73 => ?_)
                      obtain ⟨rfl, rfl, rfl, rfl, rfl⟩ := h73
                      refine r_icmp_ge d_X8_giveAsTheyCome_76 (by omega) (by omega) (fun c76 => ?_) (fun c76 => absurd c76 (by omega))
                      refine r_iload d_X8_giveAsTheyCome_84 rfl ?_
                      refine r_istore d_X8_giveAsTheyCome_86 (by decide) ?_
                      refine r_iinc d_X8_giveAsTheyCome_88 rfl (by decide) ?_
                      refine r_goto d_X8_giveAsTheyCome_91 ?_
                      exact CpL (ih3 (b + 1) (by omega)) (by repeat (first | exact trivial | refine ⟨rfl, ?_⟩ | refine ⟨by rw [en]; rfl, ?_⟩))
            refine r_iload_n d_X8_giveAsTheyCome_12 rfl ?_
            refine r_aload_n d_X8_giveAsTheyCome_13 rfl ?_
            refine r_geti d_X8_giveAsTheyCome_14 f_X8_238 (tt_139 _ _) (by decide) (by decide) ?_
            refine r_icmp_ge d_X8_giveAsTheyCome_17 (by omega) (by omega) (fun c17 => absurd c17 (by omega)) (fun c17 => ?_)
            refine r_aload_n d_X8_giveAsTheyCome_20 rfl ?_
            refine r_getr d_X8_giveAsTheyCome_21 f_X8_40 (tt_139 _ _) (by decide) rfl (rr_139_13 _) ?_
            refine r_iload_n d_X8_giveAsTheyCome_24 rfl ?_
            refine r_ialdJ d_X8_giveAsTheyCome_25 (tt_150 _ _) rfl (by omega) (kk := ?_)
            rw [e10]
            refine r_iload_n d_X8_giveAsTheyCome_26 rfl ?_
            refine r_icmp_ne d_X8_giveAsTheyCome_27 (by omega) (by omega) (fun c27 => absurd c27 (by exact fun q => q ht2)) (fun c27 => ?_)
            refine r_iconst d_X8_giveAsTheyCome_30 ?_
            refine r_istore d_X8_giveAsTheyCome_31 (by decide) ?_
            refine r_iconst d_X8_giveAsTheyCome_33 ?_
            refine r_istore d_X8_giveAsTheyCome_34 (by decide) ?_
            exact CpL (rooms nr 0 (by omega)) (by repeat (first | exact trivial | refine ⟨rfl, ?_⟩))
          · skip
            refine r_iload_n d_X8_giveAsTheyCome_12 rfl ?_
            refine r_aload_n d_X8_giveAsTheyCome_13 rfl ?_
            refine r_geti d_X8_giveAsTheyCome_14 f_X8_238 (tt_139 _ _) (by decide) (by decide) ?_
            refine r_icmp_ge d_X8_giveAsTheyCome_17 (by omega) (by omega) (fun c17 => absurd c17 (by omega)) (fun c17 => ?_)
            refine r_aload_n d_X8_giveAsTheyCome_20 rfl ?_
            refine r_getr d_X8_giveAsTheyCome_21 f_X8_40 (tt_139 _ _) (by decide) rfl (rr_139_13 _) ?_
            refine r_iload_n d_X8_giveAsTheyCome_24 rfl ?_
            refine r_ialdJ d_X8_giveAsTheyCome_25 (tt_150 _ _) rfl (by omega) (kk := ?_)
            rw [e10]
            refine r_iload_n d_X8_giveAsTheyCome_26 rfl ?_
            refine r_icmp_ne d_X8_giveAsTheyCome_27 (by omega) (by omega) (fun c27 => ?_) (fun c27 => absurd c27 (by exact ht2))
            refine r_iinc d_X8_giveAsTheyCome_119 rfl (by decide) ?_
            refine r_goto d_X8_giveAsTheyCome_122 ?_
            refine CpL (ih2 (q + 1) i m I1 (by omega) f hi hm hb (fun j hj => ⟨(hd j hj).1, by have := (hd j hj).2; omega⟩) (fun j h1 h2 => ?_)) (by repeat (first | exact trivial | refine ⟨rfl, ?_⟩))
            have := hu j h1 h2
            intro p
            by_cases e : ar j = q
            · rw [e] at p this; omega
            · omega
      refine r_iload_n d_X8_giveAsTheyCome_4 rfl ?_
      refine r_bipush d_X8_giveAsTheyCome_5 (by decide) ?_
      refine r_icmp_gt d_X8_giveAsTheyCome_7 (by omega) (by omega) (fun c7 => absurd c7 (by omega)) (fun c7 => ?_)
      refine r_iconst d_X8_giveAsTheyCome_10 ?_
      refine r_istore_n d_X8_giveAsTheyCome_11 (by decide) ?_
      exact CpL (inner ng 0 i m I1 (by omega) f hi hm hb (fun j hj => ⟨(hd j hj).1, Or.inl (hd j hj).2⟩) (fun j h1 h2 => by have := hu j h1 h2; omega)) (by repeat (first | exact trivial | refine ⟨rfl, ?_⟩))
  refine r_iconst d_X8_giveAsTheyCome_0 ?_
  refine r_istore_n d_X8_giveAsTheyCome_1 (by decide) ?_
  refine r_iconst d_X8_giveAsTheyCome_2 ?_
  refine r_istore_n d_X8_giveAsTheyCome_3 (by decide) ?_
  refine CpL (outer 45 0 0 0 I (by omega) frb_rf (by omega) (by omega) (fun r hr => Nat.zero_testBit r) (fun j hj => absurd hj (by omega)) (fun j _ h2 => ?_)) (by repeat (first | exact trivial | refine ⟨rfl, ?_⟩))
  have gq := v3 (ar j) (a1 j h2)
  unfold GV at gq
  omega
theorem x_by (hV : MV σ ℓ nr nW ng) (hX : MX σ nr nW ng I) (hrd : ∀ r, r < nr → I 179 r = rd r ∧ -1 ≤ rd r ∧ rd r ≤ 44) {q m : Nat} (hq : q < ng) (hm : m < 256) {p v : Int} (hp : -1 ≤ p ∧ p < nr) (hv : I 182 (256 * (q + 1) + nxM m p) = v) : Mc g 3 m_X8_by 0 0 [vr 139, vi (q : Int), vi (m : Int), vi p] (TT Ls tl) I L (RR tl) (qI fun z T' I' L' R' => z = cstS σ rd q p + v ∧ same (TT Ls tl) I L (RR tl) T' I' L' R') := by
  refine Mc_of rfl (Nat.le_of_ble_eq_true rfl) ?_
  obtain ⟨⟨s1, s2, s3, s4, s5⟩, v2, v3, v4⟩ := id hV
  by_cases h : p = -1
  · subst h
    have e : nxM m (-1) = m := if_pos rfl
    rw [e] at hv
    refine r_aload_n d_X8_by_0 rfl ?_
    refine r_iload_n d_X8_by_1 rfl ?_
    refine r_iload_n d_X8_by_2 rfl ?_
    refine r_V2i d_X8_by_3 (w_X8_345 _ rfl) (tt_139 _ _) rfl rfl (x_costOf hV hX hrd hq hp) (by decide) (Nat.le_of_ble_eq_true rfl) (fun z3 T3 I3 L3 R3 h3 => ?_)
    obtain ⟨rfl, rfl, rfl, rfl, rfl⟩ := h3
    refine r_aload_n d_X8_by_6 rfl ?_
    refine r_getr d_X8_by_7 f_X8_145 (tt_139 _ _) (by decide) rfl (rr_139_64 _) ?_
    refine r_sipush d_X8_by_10 (by decide) ?_
    refine r_iload_n d_X8_by_13 rfl ?_
    refine r_iconst d_X8_by_14 ?_
    refine r_iadd d_X8_by_15 ?_
    refine r_imul d_X8_by_16 ?_
    refine r_iload_n d_X8_by_17 rfl ?_
    refine r_iconst d_X8_by_18 ?_
    refine r_icmp_ne d_X8_by_19 (by omega) (by omega) (fun c19 => absurd c19 (by decide)) (fun c19 => ?_)
    refine r_iload_n d_X8_by_22 rfl ?_
    refine r_goto d_X8_by_23 ?_
    refine r_iadd d_X8_by_31 ?_
    refine r_ialdJ (j := 256 * (q + 1) + m) d_X8_by_32 (tt_182 _ _) (by omega) (by omega) (kk := ?_)
    rw [hv]
    refine r_iadd d_X8_by_33 ?_
    refine r_iret d_X8_by_34 rfl ?_
    exact ⟨_, rfl, rfl, same_rf⟩
  · obtain ⟨r, rfl⟩ : ∃ r : Nat, p = (r : Int) := ⟨p.toNat, by omega⟩
    have e : nxM m (r : Int) = m ||| 2 ^ r := by unfold nxM; rw [if_neg (by omega), Int.toNat_natCast]
    rw [e] at hv
    have hlt : m ||| 2 ^ r < 256 := Nat.or_lt_two_pow (n := 8) hm (Nat.pow_lt_pow_right (by decide) (by omega))
    have e5 : sor (m : Int) (sshl 1 (r : Int)) = ((m ||| 2 ^ r : Nat) : Int) := by rw [sshl_one _ (by omega), sor_nat (by omega) (Nat.lt_of_lt_of_le (Nat.pow_lt_pow_right (n := 8) (by decide) (by omega)) (by decide))]
    generalize m ||| 2 ^ r = x at hv hlt e5
    refine r_aload_n d_X8_by_0 rfl ?_
    refine r_iload_n d_X8_by_1 rfl ?_
    refine r_iload_n d_X8_by_2 rfl ?_
    refine r_V2i d_X8_by_3 (w_X8_345 _ rfl) (tt_139 _ _) rfl rfl (x_costOf hV hX hrd hq hp) (by decide) (Nat.le_of_ble_eq_true rfl) (fun z3 T3 I3 L3 R3 h3 => ?_)
    obtain ⟨rfl, rfl, rfl, rfl, rfl⟩ := h3
    refine r_aload_n d_X8_by_6 rfl ?_
    refine r_getr d_X8_by_7 f_X8_145 (tt_139 _ _) (by decide) rfl (rr_139_64 _) ?_
    refine r_sipush d_X8_by_10 (by decide) ?_
    refine r_iload_n d_X8_by_13 rfl ?_
    refine r_iconst d_X8_by_14 ?_
    refine r_iadd d_X8_by_15 ?_
    refine r_imul d_X8_by_16 ?_
    refine r_iload_n d_X8_by_17 rfl ?_
    refine r_iconst d_X8_by_18 ?_
    refine r_icmp_ne d_X8_by_19 (by omega) (by omega) (fun c19 => ?_) (fun c19 => absurd c19 (by exact h))
    refine r_iload_n d_X8_by_26 rfl ?_
    refine r_iconst d_X8_by_27 ?_
    refine r_iload_n d_X8_by_28 rfl ?_
    refine r_ishl d_X8_by_29 ?_
    refine r_ior d_X8_by_30 ?_
    rw [e5]
    refine r_iadd d_X8_by_31 ?_
    refine r_ialdJ (j := 256 * (q + 1) + x) d_X8_by_32 (tt_182 _ _) (by omega) (by omega) (kk := ?_)
    rw [hv]
    refine r_iadd d_X8_by_33 ?_
    refine r_iret d_X8_by_34 rfl ?_
    exact ⟨_, rfl, rfl, same_rf⟩
end X85
