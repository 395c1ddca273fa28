section C3
variable {g : sG} {Ls : Nat} {tl : List Nat} {I L : sI} {σ : Sg} {nr nw ng : Nat}
theorem HXr (hX : HX 8 σ nr nw ng I) {r k : Nat} (hr : r < nr) (hk : k < 7) : I (10 + r) k = σ k r := hX.2.2.2.2.1 r hr k hk
theorem HXw (hX : HX 8 σ nr nw ng I) {w k : Nat} (hr : w < nw) (hk : k < 3) : I (19 + w) k = σ (7 + k) w := hX.2.2.2.2.2.1 w hr k hk
theorem HXg (hX : HX 8 σ nr nw ng I) {q k : Nat} (hr : q < ng) (hk : k < 4) : I (23 + q) k = σ (10 + k) q := hX.2.2.2.2.2.2.1 q hr k hk
theorem HXc (hX : HX 8 σ nr nw ng I) {r : Nat} (hr : r < nr) (h4 : σ 4 r ≠ -1) : I 31 (chn σ r) = (r : Int) := hX.2.2.2.2.2.2.2 r hr h4
theorem c_wayCount (hV : HV σ nr nw ng) (hX : HX 8 σ nr nw ng I) : Mc g 0 m_X2_wayCount 0 0 [vr 8] (TT Ls tl) I L (RR tl) (qI fun z T' I' L' R' => z = ((2 ^ chn σ nr : Nat) : Int) ∧ same (TT Ls tl) I L (RR tl) T' I' L' R') := by
  refine Mc_of rfl (Nat.le_of_ble_eq_true rfl) ?_
  refine r_iconst d_X2_wayCount_0 ?_
  refine r_aload_n d_X2_wayCount_1 rfl ?_
  refine r_geti d_X2_wayCount_2 f_X2_45 (tt_8 _ _) (by decide) (by decide) ?_
  refine r_ishl d_X2_wayCount_5 ?_
  refine r_iret d_X2_wayCount_6 rfl ?_
  exact ⟨_, rfl, by rw [hX.2.2.2.1]; exact sshl_one _ (by have := hV.2.2.2.2.2.2; omega), same_rf⟩
theorem c_whole (hV : HV σ nr nw ng) (hX : HX 8 σ nr nw ng I) : Mc g 0 m_X2_whole 0 0 [vr 8] (TT Ls tl) I L (RR tl) (qI fun z T' I' L' R' => z = 10 ^ chn σ nr ∧ same (TT Ls tl) I L (RR tl) T' I' L' R') := by
  refine Mc_of rfl (Nat.le_of_ble_eq_true rfl) ?_
  have h3 := hV.2.2.2.2.2.2
  have hn := hX.2.2.2.1
  have loop : ∀ (k b : Nat), b + k = chn σ nr → Cp g 0 m_X2_whole 0 0 (qI fun z T' I' L' R' => z = 10 ^ chn σ nr ∧ same (TT Ls tl) I L (RR tl) T' I' L' R') 4 [(0, vr 8), (1, vi (10 ^ b)), (2, vi (b : Int))] [] (TT Ls tl) I L (RR tl) := by
    intro k
    induction k with
    | zero =>
      intro b hbk
      refine r_iload_n d_X2_whole_4 rfl ?_
      refine r_aload_n d_X2_whole_5 rfl ?_
      refine r_geti d_X2_whole_6 f_X2_45 (tt_8 _ _) (by decide) (by decide) ?_
      refine r_icmp_ge d_X2_whole_9 (by omega) (by omega) (fun c9 => ?_) (fun c9 => absurd c9 (by omega))
      refine r_iload_n d_X2_whole_23 rfl ?_
      refine r_iret d_X2_whole_24 rfl ?_
      exact ⟨_, rfl, by rw [show b = chn σ nr by omega], same_rf⟩
    | succ k ih =>
      intro b hbk
      refine r_iload_n d_X2_whole_4 rfl ?_
      refine r_aload_n d_X2_whole_5 rfl ?_
      refine r_geti d_X2_whole_6 f_X2_45 (tt_8 _ _) (by decide) (by decide) ?_
      refine r_icmp_ge d_X2_whole_9 (by omega) (by omega) (fun c9 => absurd c9 (by omega)) (fun c9 => ?_)
      refine r_iload_n d_X2_whole_12 rfl ?_
      refine r_bipush d_X2_whole_13 (by decide) ?_
      refine r_imul d_X2_whole_15 ?_
      refine r_istore_n d_X2_whole_16 (by decide) ?_
      refine r_iinc d_X2_whole_17 rfl (by decide) ?_
      refine r_goto d_X2_whole_20 ?_
      exact CpL (ih (b + 1) (by omega)) (by repeat (first | exact trivial | refine ⟨rfl, ?_⟩))
  refine r_iconst d_X2_whole_0 ?_
  refine r_istore_n d_X2_whole_1 (by decide) ?_
  refine r_iconst d_X2_whole_2 ?_
  refine r_istore_n d_X2_whole_3 (by decide) ?_
  exact CpL (loop (chn σ nr) 0 (by omega)) (by repeat (first | exact trivial | refine ⟨rfl, ?_⟩))
theorem bitF_none {f : Nat → Int} {r : Int} : ∀ (n b : Nat), (∀ j, b ≤ j → j < b + n → f j ≠ r) → bitF f r n b = -1
  | 0, _, _ => rfl
  | n + 1, b, h => by
    unfold bitF
    rw [if_neg (h b (by omega) (by omega))]
    exact bitF_none n (b + 1) (fun j h1 h2 => h j (by omega) (by omega))
theorem bitF_some {f : Nat → Int} {r : Int} {c : Nat} : ∀ (n b : Nat), b ≤ c → c < b + n → f c = r → (∀ j, b ≤ j → j < c → f j ≠ r) → bitF f r n b = (c : Int)
  | 0, b, h1, h2, _, _ => by omega
  | n + 1, b, h1, h2, h3, h4 => by
    unfold bitF
    by_cases e : b = c
    · subst e; rw [if_pos h3]
    · rw [if_neg (h4 b (by omega) (by omega))]
      exact bitF_some n (b + 1) (by omega) (by omega) h3 (fun j h5 h6 => h4 j (by omega) h6)
theorem bitF_HX (hX : HX 8 σ nr nw ng I) {r : Nat} (hr : r < nr) : bitF (I 31) r (chn σ nr) 0 = if σ 4 r = -1 then -1 else (chn σ r : Int) := by
  have hc := hX.2.2.2.2.2.2.2
  by_cases h4 : σ 4 r = -1
  · rw [if_pos h4]
    refine bitF_none _ _ (fun j _ hj => ?_)
    obtain ⟨s, s1, s2, s3⟩ := chn_room σ nr j (by omega)
    have := hc s s1 s2
    rw [s3] at this
    show I (8 + 23) j ≠ _
    rw [this]
    intro e
    have : s = r := by omega
    subst this
    exact s2 h4
  · rw [if_neg h4]
    refine bitF_some _ _ (by omega) (by have := chn_lt σ hr h4; omega) (hc r hr h4) (fun j _ hj => ?_)
    have hl := chn_lt σ hr h4
    obtain ⟨s, s1, s2, s3⟩ := chn_room σ nr j (by omega)
    have := hc s s1 s2
    rw [s3] at this
    show I (8 + 23) j ≠ _
    rw [this]
    intro e
    have : s = r := by omega
    subst this
    omega
theorem c_bitOf' (hV : HV σ nr nw ng) (hX : HX 8 σ nr nw ng I) {r : Nat} (hr : r < nr) : Mc g 0 m_X2_bitOf 0 0 [vr 8, vi (r : Int)] (TT Ls tl) I L (RR tl) (qI fun z T' I' L' R' => z = (if σ 4 r = -1 then -1 else (chn σ r : Int)) ∧ same (TT Ls tl) I L (RR tl) T' I' L' R') := by
  have h := c_bitOf (g := g) (Ls := Ls) (tl := tl) (L := L) (hb := 8) (Or.inl rfl) (r := (r : Int)) (by have := hV.1; omega) hX.2.2.2.1 hV.2.2.2.2.2.2 (fun j hj => by
    obtain ⟨s, s1, s2, s3⟩ := chn_room σ nr j hj
    have h9 := hX.2.2.2.2.2.2.2 s s1 s2
    rw [s3] at h9
    rw [h9]
    have := hV.1
    omega)
  rw [show (8 : Nat) + 23 = 31 from rfl, bitF_HX hX hr] at h
  exact h
theorem c_isByChance (hV : HV σ nr nw ng) (hX : HX 8 σ nr nw ng I) {r : Nat} (hr : r < nr) : Mc g 0 m_X2_isByChance 0 0 [vr 8, vi (r : Int)] (TT Ls tl) I L (RR tl) (qI fun z T' I' L' R' => z = (if σ 6 r = -1 ∧ σ 4 r ≠ -1 then 1 else 0) ∧ same (TT Ls tl) I L (RR tl) T' I' L' R') := by
  refine Mc_of rfl (Nat.le_of_ble_eq_true rfl) ?_
  have h8 := hV.1
  have hv := hV.2.2.2.1 r hr
  unfold RV at hv
  have e6 := HXr (k := 6) hX hr (by omega)
  have e5 := HXr (k := 5) hX hr (by omega)
  refine r_aload_n d_X2_isByChance_0 rfl ?_
  refine r_getr d_X2_isByChance_1 f_X2_11 (tt_8 _ _) (by decide) rfl (rr_8_0 _) ?_
  refine r_iload_n d_X2_isByChance_4 rfl ?_
  refine r_aaldJ d_X2_isByChance_5 (tt_9 _ _) (by decide) rfl (by omega) (rr2_9 _ (by omega)) (kk := ?_)
  refine r_bipush d_X2_isByChance_6 (by decide) ?_
  refine r_ialdJ (j := 6) d_X2_isByChance_8 (tt2_9 _ _ (by omega)) rfl (by omega) (kk := ?_)
  refine r_iconst d_X2_isByChance_9 ?_
  refine r_icmp_ne d_X2_isByChance_10 (by omega) (by omega) (fun c10 => ?_) (fun c10 => ?_)
  · refine r_iconst d_X2_isByChance_29 ?_
    refine r_zret d_X2_isByChance_30 rfl (by omega) ?_
    exact ⟨_, rfl, by first | rw [if_pos (by omega)] | rw [if_neg (by omega)], same_rf⟩
  · refine r_aload_n d_X2_isByChance_13 rfl ?_
    refine r_getr d_X2_isByChance_14 f_X2_11 (tt_8 _ _) (by decide) rfl (rr_8_0 _) ?_
    refine r_iload_n d_X2_isByChance_17 rfl ?_
    refine r_aaldJ d_X2_isByChance_18 (tt_9 _ _) (by decide) rfl (by omega) (rr2_9 _ (by omega)) (kk := ?_)
    refine r_iconst d_X2_isByChance_19 ?_
    refine r_ialdJ (j := 5) d_X2_isByChance_20 (tt2_9 _ _ (by omega)) rfl (by omega) (kk := ?_)
    refine r_iconst d_X2_isByChance_21 ?_
    refine r_icmp_eq d_X2_isByChance_22 (by omega) (by omega) (fun c22 => ?_) (fun c22 => ?_)
    · refine r_iconst d_X2_isByChance_29 ?_
      refine r_zret d_X2_isByChance_30 rfl (by omega) ?_
      exact ⟨_, rfl, by first | rw [if_pos (by omega)] | rw [if_neg (by omega)], same_rf⟩
    · refine r_iconst d_X2_isByChance_25 ?_
      refine r_goto d_X2_isByChance_26 ?_
      refine r_zret d_X2_isByChance_30 rfl (by omega) ?_
      exact ⟨_, rfl, by first | rw [if_pos (by omega)] | rw [if_neg (by omega)], same_rf⟩
theorem c_goneBy (hV : HV σ nr nw ng) (hX : HX 8 σ nr nw ng I) {r way : Nat} (hr : r < nr) (hw : way < 8) : Mc g 1 m_X2_goneBy 0 0 [vr 8, vi (r : Int), vi (way : Int)] (TT Ls tl) I L (RR tl) (qI fun z T' I' L' R' => z = goneS σ way r ∧ same (TT Ls tl) I L (RR tl) T' I' L' R') := by
  refine Mc_of rfl (Nat.le_of_ble_eq_true rfl) ?_
  have h8 := hV.1
  have hv := hV.2.2.2.1 r hr
  unfold RV at hv
  have e6 := HXr (k := 6) hX hr (by omega)
  have e4 := HXr (k := 4) hX hr (by omega)
  have e3 := HXr (k := 3) hX hr (by omega)
  have h3 := hV.2.2.2.2.2.2
  have hm := chn_mono σ (Nat.le_of_lt hr)
  have hbt := bit_tst (m := way) (r := chn σ r) (by omega) (by omega)
  unfold goneS
  refine r_aload_n d_X2_goneBy_0 rfl ?_
  refine r_getr d_X2_goneBy_1 f_X2_11 (tt_8 _ _) (by decide) rfl (rr_8_0 _) ?_
  refine r_iload_n d_X2_goneBy_4 rfl ?_
  refine r_aaldJ d_X2_goneBy_5 (tt_9 _ _) (by decide) rfl (by omega) (rr2_9 _ (by omega)) (kk := ?_)
  refine r_astore_n d_X2_goneBy_6 (by decide) ?_
  refine r_aload_n d_X2_goneBy_7 rfl ?_
  refine r_bipush d_X2_goneBy_8 (by decide) ?_
  refine r_ialdJ (j := 6) d_X2_goneBy_10 (tt2_9 _ _ (by omega)) rfl (by omega) (kk := ?_)
  refine r_iconst d_X2_goneBy_11 ?_
  refine r_icmp_eq d_X2_goneBy_12 (by omega) (by omega) (fun c12 => ?_) (fun c12 => ?_)
  · refine r_aload_n d_X2_goneBy_20 rfl ?_
    refine r_iload_n d_X2_goneBy_21 rfl ?_
    refine r_V1i d_X2_goneBy_22 (w_X2_65 _ rfl) (tt_8 _ _) rfl rfl (c_bitOf' hV hX hr) (by decide) (Nat.le_of_ble_eq_true rfl) (fun z22 T22 I22 L22 R22 h22 => ?_)
    obtain ⟨rfl, rfl, rfl, rfl, rfl⟩ := h22
    refine r_istore d_X2_goneBy_25 (by decide) ?_
    refine r_iload d_X2_goneBy_27 rfl ?_
    refine r_iconst d_X2_goneBy_29 ?_
    refine r_icmp_eq d_X2_goneBy_30 (by split <;> omega) (by omega) (fun c30 => ?_) (fun c30 => ?_)
    · have h4 : σ 4 r = -1 := by
        by_cases h : σ 4 r = -1
        · exact h
        · rw [if_neg h] at c30; omega
      have hn : ¬ (σ 4 r ≠ -1 ∧ way.testBit (chn σ r) = true) := fun q => q.1 h4
      refine r_aload_n d_X2_goneBy_49 rfl ?_
      refine r_iconst d_X2_goneBy_50 ?_
      refine r_ialdJ (j := 3) d_X2_goneBy_51 (tt2_9 _ _ (by omega)) rfl (by omega) (kk := ?_)
      refine r_iret d_X2_goneBy_52 rfl ?_
      refine ⟨_, rfl, ?_, same_rf⟩
      rw [if_pos (by omega)]
      first | (rw [if_neg hn]; exact e3) | (rw [if_pos hp]; exact e4)
    · have h4 : ¬ σ 4 r = -1 := fun h => c30 (by rw [if_pos h])
      rw [if_neg h4]
      refine r_iload_n d_X2_goneBy_33 rfl ?_
      refine r_iload d_X2_goneBy_34 rfl ?_
      refine r_ishr d_X2_goneBy_36 ?_
      refine r_iconst d_X2_goneBy_37 ?_
      refine r_iand d_X2_goneBy_38 ?_
      rw [hbt]
      refine r_iconst d_X2_goneBy_39 ?_
      refine r_icmp_ne d_X2_goneBy_40 (by split <;> omega) (by omega) (fun c40 => ?_) (fun c40 => ?_)
      · have hn : ¬ (σ 4 r ≠ -1 ∧ way.testBit (chn σ r) = true) := fun q => c40 (by rw [if_pos q.2])
        refine r_aload_n d_X2_goneBy_49 rfl ?_
        refine r_iconst d_X2_goneBy_50 ?_
        refine r_ialdJ (j := 3) d_X2_goneBy_51 (tt2_9 _ _ (by omega)) rfl (by omega) (kk := ?_)
        refine r_iret d_X2_goneBy_52 rfl ?_
        refine ⟨_, rfl, ?_, same_rf⟩
        rw [if_pos (by omega)]
        first | (rw [if_neg hn]; exact e3) | (rw [if_pos hp]; exact e4)
      · have hp : σ 4 r ≠ -1 ∧ way.testBit (chn σ r) = true := ⟨h4, by cases hb : way.testBit (chn σ r) <;> simp [hb] at c40 ⊢⟩
        refine r_aload_n d_X2_goneBy_43 rfl ?_
        refine r_iconst d_X2_goneBy_44 ?_
        refine r_ialdJ (j := 4) d_X2_goneBy_45 (tt2_9 _ _ (by omega)) rfl (by omega) (kk := ?_)
        refine r_goto d_X2_goneBy_46 ?_
        refine r_iret d_X2_goneBy_52 rfl ?_
        refine ⟨_, rfl, ?_, same_rf⟩
        rw [if_pos (by omega)]
        first | (rw [if_neg hn]; exact e3) | (rw [if_pos hp]; exact e4)
  · refine r_aload_n d_X2_goneBy_15 rfl ?_
    refine r_bipush d_X2_goneBy_16 (by decide) ?_
    refine r_ialdJ (j := 6) d_X2_goneBy_18 (tt2_9 _ _ (by omega)) rfl (by omega) (kk := ?_)
    refine r_iret d_X2_goneBy_19 rfl ?_
    exact ⟨_, rfl, by rw [if_neg (by omega)]; exact e6, same_rf⟩
theorem c_lateCount (hV : HV σ nr nw ng) (hX : HX 8 σ nr nw ng I) : Mc g 0 m_X2_lateCount 0 0 [vr 8] (TT Ls tl) I L (RR tl) (qI fun z T' I' L' R' => z = (ltn σ nr : Int) ∧ same (TT Ls tl) I L (RR tl) T' I' L' R') := by
  refine Mc_of rfl (Nat.le_of_ble_eq_true rfl) ?_
  have h8 := hV.1
  have hn := hX.1
  have loop : ∀ (k b : Nat), b + k = nr → Cp g 0 m_X2_lateCount 0 0 (qI fun z T' I' L' R' => z = (ltn σ nr : Int) ∧ same (TT Ls tl) I L (RR tl) T' I' L' R') 4 [(0, vr 8), (1, vi (ltn σ b : Int)), (2, vi (b : Int))] [] (TT Ls tl) I L (RR tl) := by
    intro k
    induction k with
    | zero =>
      intro b hbk
      refine r_iload_n d_X2_lateCount_4 rfl ?_
      refine r_aload_n d_X2_lateCount_5 rfl ?_
      refine r_geti d_X2_lateCount_6 f_X2_35 (tt_8 _ _) (by decide) (by decide) ?_
      refine r_icmp_ge d_X2_lateCount_9 (by omega) (by omega) (fun c9 => ?_) (fun c9 => absurd c9 (by omega))
      refine r_iload_n d_X2_lateCount_34 rfl ?_
      refine r_iret d_X2_lateCount_35 rfl ?_
      exact ⟨_, rfl, by rw [show b = nr by omega], same_rf⟩
    | succ k ih =>
      intro b hbk
      have hb : b < nr := by omega
      have hv := hV.2.2.2.1 b hb
      unfold RV at hv
      have e6 := HXr (k := 6) hX hb (by omega)
      refine r_iload_n d_X2_lateCount_4 rfl ?_
      refine r_aload_n d_X2_lateCount_5 rfl ?_
      refine r_geti d_X2_lateCount_6 f_X2_35 (tt_8 _ _) (by decide) (by decide) ?_
      refine r_icmp_ge d_X2_lateCount_9 (by omega) (by omega) (fun c9 => absurd c9 (by omega)) (fun c9 => ?_)
      refine r_aload_n d_X2_lateCount_12 rfl ?_
      refine r_getr d_X2_lateCount_13 f_X2_11 (tt_8 _ _) (by decide) rfl (rr_8_0 _) ?_
      refine r_iload_n d_X2_lateCount_16 rfl ?_
      refine r_aaldJ d_X2_lateCount_17 (tt_9 _ _) (by decide) rfl (by omega) (rr2_9 _ (by omega)) (kk := ?_)
      refine r_bipush d_X2_lateCount_18 (by decide) ?_
      refine r_ialdJ (j := 6) d_X2_lateCount_20 (tt2_9 _ _ (by omega)) rfl (by omega) (kk := ?_)
      refine r_iconst d_X2_lateCount_21 ?_
      refine r_icmp_eq d_X2_lateCount_22 (by omega) (by omega) (fun c22 => ?_) (fun c22 => ?_)
      · have hl : (ltn σ b : Int) = (ltn σ (b + 1) : Int) := by simp [ltn, show σ 6 b = -1 by omega]
        rw [hl]
        try rw [hl]
        refine r_iinc d_X2_lateCount_28 rfl (by decide) ?_
        refine r_goto d_X2_lateCount_31 ?_
        exact CpL (ih (b + 1) (by omega)) (by repeat (first | exact trivial | refine ⟨rfl, ?_⟩))
      · have hl : (ltn σ b : Int) + 1 = (ltn σ (b + 1) : Int) := by simp [ltn, show ¬ σ 6 b = -1 by omega]
        refine r_iinc d_X2_lateCount_25 rfl (by decide) ?_
        try rw [hl]
        refine r_iinc d_X2_lateCount_28 rfl (by decide) ?_
        refine r_goto d_X2_lateCount_31 ?_
        exact CpL (ih (b + 1) (by omega)) (by repeat (first | exact trivial | refine ⟨rfl, ?_⟩))
  refine r_iconst d_X2_lateCount_0 ?_
  refine r_istore_n d_X2_lateCount_1 (by decide) ?_
  refine r_iconst d_X2_lateCount_2 ?_
  refine r_istore_n d_X2_lateCount_3 (by decide) ?_
  exact CpL (loop nr 0 (by omega)) (by repeat (first | exact trivial | refine ⟨rfl, ?_⟩))
theorem wtX_bits {way : Nat} (f : Nat → Int) : ∀ n, (∀ r, r < n → σ 4 r ≠ -1 → f (chn σ r) = fcX σ way r) → (List.range (chn σ n)).foldl (fun z b => z * f b) 1 = wtX σ way n
  | 0, _ => rfl
  | n + 1, h => by
    have ih := wtX_bits f n (fun r hr => h r (by omega))
    by_cases h4 : σ 4 n = -1
    · simp only [chn, wtX, h4, if_true, Nat.add_zero, Int.mul_one]
      exact ih
    · simp only [chn, wtX, h4, if_false]
      rw [List.range_succ, List.foldl_append, ih]
      simp [h n (by omega) h4]
theorem c_chanceOf (hV : HV σ nr nw ng) (hX : HX 8 σ nr nw ng I) {way : Nat} (hw : way < 8) : Mc g 0 m_X2_chanceOf 0 0 [vr 8, vi (way : Int)] (TT Ls tl) I L (RR tl) (qI fun z T' I' L' R' => z = wtX σ way nr ∧ same (TT Ls tl) I L (RR tl) T' I' L' R') := by
  refine Mc_of rfl (Nat.le_of_ble_eq_true rfl) ?_
  have h8 := hV.1
  have h3 := hV.2.2.2.2.2.2
  have hn := hX.2.2.2.1
  have hf : ∃ f : Nat → Int, ∀ r, r < nr → σ 4 r ≠ -1 → f (chn σ r) = fcX σ way r := by
    refine ⟨fun b => fcX σ way (I 31 b).toNat, fun r hr h4 => ?_⟩
    show fcX σ way (I 31 (chn σ r)).toNat = _
    rw [HXc hX hr h4]
    rfl
  obtain ⟨f, hf⟩ := hf
  have loop : ∀ (k b : Nat), b + k = chn σ nr → Cp g 0 m_X2_chanceOf 0 0 (qI fun z T' I' L' R' => z = wtX σ way nr ∧ same (TT Ls tl) I L (RR tl) T' I' L' R') 4 [(0, vr 8), (1, vi (way : Int)), (2, vi ((List.range b).foldl (fun z b => z * f b) 1)), (3, vi (b : Int))] [] (TT Ls tl) I L (RR tl) := by
    intro k
    induction k with
    | zero =>
      intro b hbk
      refine r_iload_n d_X2_chanceOf_4 rfl ?_
      refine r_aload_n d_X2_chanceOf_5 rfl ?_
      refine r_geti d_X2_chanceOf_6 f_X2_45 (tt_8 _ _) (by decide) (by decide) ?_
      refine r_icmp_ge d_X2_chanceOf_9 (by omega) (by omega) (fun c9 => ?_) (fun c9 => absurd c9 (by omega))
      refine r_iload_n d_X2_chanceOf_72 rfl ?_
      refine r_iret d_X2_chanceOf_73 rfl ?_
      exact ⟨_, rfl, by rw [show b = chn σ nr by omega]; exact wtX_bits f nr hf, same_rf⟩
    | succ k ih =>
      intro b hbk
      obtain ⟨s, s1, s2, s3⟩ := chn_room σ nr b (by omega)
      have hv := hV.2.2.2.1 s s1
      unfold RV at hv
      have e6 := HXr (k := 6) hX s1 (by omega)
      have e5 := HXr (k := 5) hX s1 (by omega)
      have ec := HXc hX s1 s2
      rw [s3] at ec
      have hbt := bit_tst (m := way) (r := b) (by omega) (by omega)
      have ef := hf s s1 s2
      rw [s3] at ef
      unfold fcX at ef
      rw [s3] at ef
      have hfold : ∀ x, x = f b → (List.range b).foldl (fun z b => z * f b) 1 * x = (List.range (b + 1)).foldl (fun z b => z * f b) 1 := by
        intro x hx
        rw [List.range_succ, List.foldl_append, hx]
        rfl
      refine r_iload_n d_X2_chanceOf_4 rfl ?_
      refine r_aload_n d_X2_chanceOf_5 rfl ?_
      refine r_geti d_X2_chanceOf_6 f_X2_45 (tt_8 _ _) (by decide) (by decide) ?_
      refine r_icmp_ge d_X2_chanceOf_9 (by omega) (by omega) (fun c9 => absurd c9 (by omega)) (fun c9 => ?_)
      refine r_aload_n d_X2_chanceOf_12 rfl ?_
      refine r_getr d_X2_chanceOf_13 f_X2_11 (tt_8 _ _) (by decide) rfl (rr_8_0 _) ?_
      refine r_aload_n d_X2_chanceOf_16 rfl ?_
      refine r_getr d_X2_chanceOf_17 f_X2_22 (tt_8 _ _) (by decide) rfl (rr_8_7 _) ?_
      refine r_iload_n d_X2_chanceOf_20 rfl ?_
      refine r_ialdJ d_X2_chanceOf_21 (tt_31 _ _) rfl (by omega) (kk := ?_)
      refine r_aaldJ (j := s) d_X2_chanceOf_22 (tt_9 _ _) (by decide) (by omega) (by omega) (rr2_9 _ (by omega)) (kk := ?_)
      refine r_astore d_X2_chanceOf_23 (by decide) ?_
      refine r_aload d_X2_chanceOf_25 rfl ?_
      refine r_bipush d_X2_chanceOf_27 (by decide) ?_
      refine r_ialdJ (j := 6) d_X2_chanceOf_29 (tt2_9 _ _ (by omega)) rfl (by omega) (kk := ?_)
      refine r_iconst d_X2_chanceOf_30 ?_
      refine r_icmp_ne d_X2_chanceOf_31 (by omega) (by omega) (fun c31 => ?_) (fun c31 => ?_)
      · refine r_bipush d_X2_chanceOf_41 (by decide) ?_
        refine r_istore d_X2_chanceOf_43 (by decide) ?_
        refine r_iload_n d_X2_chanceOf_45 rfl ?_
        refine r_iload_n d_X2_chanceOf_46 rfl ?_
        refine r_iload_n d_X2_chanceOf_47 rfl ?_
        refine r_ishr d_X2_chanceOf_48 ?_
        refine r_iconst d_X2_chanceOf_49 ?_
        refine r_iand d_X2_chanceOf_50 ?_
        rw [hbt]
        refine r_if_ne d_X2_chanceOf_51 (by split <;> omega) (fun c51 => ?_) (fun c51 => ?_)
        · have hb1 : way.testBit b = true := by cases hb : way.testBit b <;> simp [hb] at c51 ⊢
          rw [if_pos hb1] at ef
          refine r_bipush d_X2_chanceOf_59 (by decide) ?_
          refine r_iload d_X2_chanceOf_61 rfl ?_
          refine r_isub d_X2_chanceOf_63 ?_
          refine r_imul d_X2_chanceOf_64 ?_
          refine r_istore_n d_X2_chanceOf_65 (by decide) ?_
          rw [hfold _ (by first | (rw [if_neg (by omega)] at ef; omega) | (rw [if_pos (by omega)] at ef; omega))]
          refine r_iinc d_X2_chanceOf_66 rfl (by decide) ?_
          refine r_goto d_X2_chanceOf_69 ?_
          exact CpL (ih (b + 1) (by omega)) (by repeat (first | exact trivial | refine ⟨rfl, ?_⟩))
        · have hb1 : ¬ way.testBit b = true := fun q => by rw [if_pos q] at c51; omega
          rw [if_neg hb1] at ef
          refine r_iload d_X2_chanceOf_54 rfl ?_
          refine r_goto d_X2_chanceOf_56 ?_
          refine r_imul d_X2_chanceOf_64 ?_
          refine r_istore_n d_X2_chanceOf_65 (by decide) ?_
          rw [hfold _ (by first | (rw [if_neg (by omega)] at ef; omega) | (rw [if_pos (by omega)] at ef; omega))]
          refine r_iinc d_X2_chanceOf_66 rfl (by decide) ?_
          refine r_goto d_X2_chanceOf_69 ?_
          exact CpL (ih (b + 1) (by omega)) (by repeat (first | exact trivial | refine ⟨rfl, ?_⟩))
      · refine r_aload d_X2_chanceOf_34 rfl ?_
        refine r_iconst d_X2_chanceOf_36 ?_
        refine r_ialdJ (j := 5) d_X2_chanceOf_37 (tt2_9 _ _ (by omega)) rfl (by omega) (kk := ?_)
        refine r_goto d_X2_chanceOf_38 ?_
        refine r_istore d_X2_chanceOf_43 (by decide) ?_
        refine r_iload_n d_X2_chanceOf_45 rfl ?_
        refine r_iload_n d_X2_chanceOf_46 rfl ?_
        refine r_iload_n d_X2_chanceOf_47 rfl ?_
        refine r_ishr d_X2_chanceOf_48 ?_
        refine r_iconst d_X2_chanceOf_49 ?_
        refine r_iand d_X2_chanceOf_50 ?_
        rw [hbt]
        refine r_if_ne d_X2_chanceOf_51 (by split <;> omega) (fun c51 => ?_) (fun c51 => ?_)
        · have hb1 : way.testBit b = true := by cases hb : way.testBit b <;> simp [hb] at c51 ⊢
          rw [if_pos hb1] at ef
          refine r_bipush d_X2_chanceOf_59 (by decide) ?_
          refine r_iload d_X2_chanceOf_61 rfl ?_
          refine r_isub d_X2_chanceOf_63 ?_
          refine r_imul d_X2_chanceOf_64 ?_
          refine r_istore_n d_X2_chanceOf_65 (by decide) ?_
          rw [hfold _ (by first | (rw [if_neg (by omega)] at ef; omega) | (rw [if_pos (by omega)] at ef; omega))]
          refine r_iinc d_X2_chanceOf_66 rfl (by decide) ?_
          refine r_goto d_X2_chanceOf_69 ?_
          exact CpL (ih (b + 1) (by omega)) (by repeat (first | exact trivial | refine ⟨rfl, ?_⟩))
        · have hb1 : ¬ way.testBit b = true := fun q => by rw [if_pos q] at c51; omega
          rw [if_neg hb1] at ef
          refine r_iload d_X2_chanceOf_54 rfl ?_
          refine r_goto d_X2_chanceOf_56 ?_
          refine r_imul d_X2_chanceOf_64 ?_
          refine r_istore_n d_X2_chanceOf_65 (by decide) ?_
          rw [hfold _ (by first | (rw [if_neg (by omega)] at ef; omega) | (rw [if_pos (by omega)] at ef; omega))]
          refine r_iinc d_X2_chanceOf_66 rfl (by decide) ?_
          refine r_goto d_X2_chanceOf_69 ?_
          exact CpL (ih (b + 1) (by omega)) (by repeat (first | exact trivial | refine ⟨rfl, ?_⟩))
  refine r_iconst d_X2_chanceOf_0 ?_
  refine r_istore_n d_X2_chanceOf_1 (by decide) ?_
  refine r_iconst d_X2_chanceOf_2 ?_
  refine r_istore_n d_X2_chanceOf_3 (by decide) ?_
  exact CpL (loop (chn σ nr) 0 (by omega)) (by repeat (first | exact trivial | refine ⟨rfl, ?_⟩))
end C3
