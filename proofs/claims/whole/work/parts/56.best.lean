theorem XS_off {σ : Sg} {ℓ : Int} {nr nw ng : Nat} {tl : List Nat} {ukd unn : Nat → Int} {utr utw : Nat → Nat → Nat} {I L I' L' : sI} (h : XS σ ℓ nr nw ng tl ukd unn utr utw I L) (f : ∀ a, (a = 1 ∨ (8 ≤ a ∧ a ≤ 34) ∨ (63 ≤ a ∧ a ≤ 69) ∨ (134 ≤ a ∧ a ≤ 136) ∨ 186 ≤ a) → I' a = I a) (f4 : I' 3 4 = I 3 4) (fL : L' 2 = L 2) : XS σ ℓ nr nw ng tl ukd unn utr utw I' L' := by
  obtain ⟨⟨b1, b2, b3, b4, b5, b6, b7, b8⟩, r1, r2, r3⟩ := h
  obtain ⟨v1, v2, v3, v4, v5, v6, v7⟩ := id b1
  refine ⟨⟨b1, b2, ?_, ?_, ?_, ?_, fun j hj => by rw [fL]; exact b7 j hj, fun j hj => by rw [f 1 (by omega)]; exact b8 j hj⟩, by rw [f4]; exact r1, r2, fun q hq => ?_⟩
  · obtain ⟨q1, q2, q3, q4, q5, q6, q7, q8⟩ := b3
    have e8 := f 8 (by omega)
    refine ⟨by rw [e8]; exact q1, by rw [e8]; exact q2, by rw [e8]; exact q3, by rw [e8]; exact q4, fun r hr k hk => ?_, fun w hw k hk => ?_, fun q hq k hk => ?_, fun r hr h4 => ?_⟩
    · rw [f (8 + 2 + r) (by omega)]; exact q5 r hr k hk
    · rw [f (8 + 11 + w) (by omega)]; exact q6 w hw k hk
    · rw [f (8 + 15 + q) (by omega)]; exact q7 q hq k hk
    · rw [f (8 + 23) (by omega)]; exact q8 r hr h4
  · obtain ⟨q1, q2, q3, q4⟩ := b4
    refine ⟨fun q hq => ?_, ?_, fun r hr => ?_, ?_⟩
    · rw [f (8 + 24) (by omega)]; exact q1 q hq
    · rw [f (8 + 25) (by omega)]; exact q2
    · rw [f (8 + 26) (by omega)]; exact q3 r hr
    · rw [f 8 (by omega)]; exact q4
  · obtain ⟨q1, q2, q3, q4, q5, q6⟩ := b5
    have h4 := b2.2.1
    refine ⟨by rw [f 8 (by omega)]; exact q1, fun r hr k hk => by rw [f (10 + r) (by omega)]; exact q2 r hr k hk, by rw [f 63 (by omega)]; exact q3, by rw [f 63 (by omega)]; exact q4, fun w hw k hk => ?_, fun w hw => ?_⟩
    · rw [f (65 + w) (by omega)]; exact q5 w hw k hk
    · rw [f 69 (by omega)]; exact q6 w hw
  · exact KNX_frb b6 (fun a ha => f a (by omega))
  · obtain ⟨u1, u2, u3, u4, u5, u6, u7⟩ := r3 q hq
    refine ⟨u1, u2, by rw [f _ (by omega)]; exact u3, by rw [f _ (by omega)]; exact u4, u5, u6, fun i hi => ?_⟩
    rw [f (186 + 3 * q + 1) (by omega), f (186 + 3 * q + 2) (by omega)]
    exact u7 i hi
/-- an answer that is counted -/
def AK (σ : Sg) (ℓ : Int) (nr nw ng : Nat) (Ls : Nat) (tl : List Nat) (ukd unn : Nat → Int) (utr utw : Nat → Nat → Nat) (I L : sI) (A : Int → Int → Prop) : sQ := qI fun z T' I' L' R' => T' = TT Ls tl ∧ R' = RR tl ∧ (∀ a, a ≠ 3 → (a < 63 ∨ 138 ≤ a) → I' a = I a) ∧ (∀ k, k ≠ 12 → I' 3 k = I 3 k) ∧ frb 81 120 L L' ∧ XS σ ℓ nr nw ng tl ukd unn utr utw I' L' ∧ A z (I' 3 12)
def bfS (nr : Nat) (how i q : Int) : Int := if 0 < nr then (if (how = 0 ∨ how = 1) ∧ (0 ≤ i ∧ i < 6) then (if nr ≤ 6 ∧ q < 16 then 0 else -103) else -102) else -103
def aBest (σ : Sg) (ℓ : Int) (nr nw ng : Nat) (how i q z q' : Int) : Prop := (bfS nr how i q ≠ 0 → z = bfS nr how i q ∧ q' = q) ∧ (bfS nr how i q = 0 → q' = q + 1 ∧ (nr ≤ i → z = -1) ∧ (i < nr → ∃ (lf : List Nat) (x : Nat), BST σ ℓ (-1) nr nw ng how lf ∧ lf[i.toNat]? = some x ∧ z = (x : Int)))
/-- what a call of a bit is worth -/
def WRT (σ : Sg) (ℓ ab : Int) (nr nW ng : Nat) (how : Int) (bit : Nat) (z : Int) : Prop := ∃ I0 : sI, WX σ ℓ ab nr nW ng how (2 ^ chn σ nr) I0 ∧ z = leS I0 (2 ^ chn σ nr) (ODR nr).length 0 0 - leS I0 (2 ^ chn σ nr) (ODR nr).length (2 ^ bit) 0 - leS I0 (2 ^ chn σ nr) (ODR nr).length (2 ^ bit) (2 ^ bit)
theorem leS_bd {I : sI} {n N mask bits : Nat} (h : CBD n N I) (hN : 0 < N) (hn : n ≤ 8) : -32000000 ≤ leS I n N mask bits ∧ leS I n N mask bits ≤ 32000000 := by
  obtain ⟨i, h1, h2⟩ := lsS_rg (I := I) (mask := mask) (bits := bits) (n := n) hN
  unfold leS
  rw [h1, Int.toNat_natCast]
  have := smS_bd (mask := mask) (bits := bits) h h2 n (Nat.le_refl _)
  omega
def cfS (σ : Sg) (nr : Nat) (how room part q : Int) : Int := if (0 ≤ room ∧ room < nr) ∧ (σ 6 room.toNat = -1 ∧ σ 4 room.toNat ≠ -1) then (if (how = 0 ∨ how = 1) ∧ (part = 0 ∨ part = 1) then (if nr ≤ 6 ∧ q < 16 then 0 else -103) else -102) else -101
def aCall (σ : Sg) (ℓ : Int) (nr nw ng : Nat) (how room part q z q' : Int) : Prop := (cfS σ nr how room part q ≠ 0 → z = cfS σ nr how room part q ∧ q' = q) ∧ (cfS σ nr how room part q = 0 → q' = q + 1 ∧ ∃ s, WRT σ ℓ (-1) nr nw ng how (chn σ room.toNat) s ∧ z = gcS σ nr s part)
section C56
variable {g : sG} {Ls : Nat} {tl : List Nat} {I L : sI} {σ : Sg} {ℓ : Int} {nr nw ng : Nat} {ukd unn : Nat → Int} {utr utw : Nat → Nat → Nat}
theorem AK_no (h : XS σ ℓ nr nw ng tl ukd unn utr utw I L) {A : Int → Int → Prop} {z q : Int} (hq : I 3 12 = q) (hA : A z q) : AK σ ℓ nr nw ng Ls tl ukd unn utr utw I L A (some (vi z)) (TT Ls tl) I L (RR tl) := ⟨z, rfl, rfl, rfl, fun _ _ _ => rfl, fun _ _ => rfl, frb_rf, h, by rw [hq]; exact hA⟩
theorem XS_ask (h : XS σ ℓ nr nw ng tl ukd unn utr utw I L) {v : Int} : XS σ ℓ nr nw ng tl ukd unn utr utw (up2 I 3 12 v) L := XS_off h (fun a ha => up2_ne _ _ (by omega)) (up2_nj _ _ (by omega)) rfl
theorem c_best (hX : XS σ ℓ nr nw ng tl ukd unn utr utw I L) {how i q : Int} (hh : i32 how) (hi : i32 i) (hq : I 3 12 = q) (hq2 : 0 ≤ q ∧ q ≤ 16) : Mc g 12 m_X7_best 0 0 [vr 3, vi how, vi i] (TT Ls tl) I L (RR tl) (AK σ ℓ nr nw ng Ls tl ukd unn utr utw I L (aBest σ ℓ nr nw ng how i q)) := by
  refine Mc_of rfl (Nat.le_of_ble_eq_true rfl) ?_
  obtain ⟨hB, hR⟩ := id hX
  obtain ⟨b1, b2, b3, b4, b5, b6, b7, b8⟩ := id hB
  obtain ⟨v1, v2, v3, v4, v5, v6, v7⟩ := id b1
  have e3 : I 8 3 = (nr : Int) := b3.1
  have hc2 := c_isHoused (g := g) (Ls := Ls) (tl := tl) (I := I) (L := L) (by omega)
  rw [e3] at hc2
  obtain ⟨D, hD⟩ : ∃ D, D = bfS nr how i q := ⟨_, rfl⟩
  have no : ∀ z : Int, z = D → z ≠ 0 → AK σ ℓ nr nw ng Ls tl ukd unn utr utw I L (aBest σ ℓ nr nw ng how i q) (some (vi z)) (TT Ls tl) I L (RR tl) := fun z h1 h2 => AK_no hX hq ⟨fun _ => ⟨by rw [h1, hD], rfl⟩, fun h => absurd (by rw [h1, hD]; exact h) h2⟩
  unfold bfS at hD
  by_cases k2 : 0 < nr
  · rw [if_pos (by omega)] at hc2
    rw [if_pos k2] at hD
    by_cases k4 : (how = 0 ∨ how = 1) ∧ (0 ≤ i ∧ i < 6)
    · rw [if_pos k4] at hD
      by_cases k5 : nr ≤ 6 ∧ q < 16
      · have hz : bfS nr how i q = 0 := by unfold bfS; rw [if_pos k2, if_pos k4, if_pos k5]
        obtain ⟨hw, rfl⟩ : ∃ hw : Nat, how = (hw : Int) := ⟨how.toNat, by omega⟩
        have hhw : hw < 2 := by omega
        have hX1 := XS_ask (v := q + 1) hX
        obtain ⟨g1, g2, g3, g4, g5, g6, g7, g8⟩ := id hX1.1
        have g31 : up2 I 3 12 (q + 1) 8 3 = (nr : Int) := g3.1
        by_cases k6 : i < nr
        · obtain ⟨ι, rfl⟩ : ∃ ι : Nat, i = (ι : Int) := ⟨i.toNat, by omega⟩
          have hc5 := c_orderFor (g := g) (Ls := Ls) (tl := tl) (kd := 5) (hw := hw) g1 g2 k2 g3 g4 g5 g7 g6 (by omega) hhw
          refine r_aload_n d_X7_best_0 rfl ?_
          refine r_V0i d_X7_best_1 (w_X7_157 _ rfl) (tt_3 _ _) rfl rfl (hc2) (by decide) (Nat.le_of_ble_eq_true rfl) (fun z1 T1 I1 L1 R1 h1 => ?_)
          obtain ⟨rfl, rfl, rfl, rfl, rfl⟩ := h1
          refine r_if_ne d_X7_best_4 (by omega) (fun c4 => ?_) (fun c4 => absurd c4 (by decide))
          refine r_iload_n d_X7_best_10 rfl ?_
          refine r_S1i d_X7_best_11 (w_X7_183 _ rfl) (c_isGiving hh) (by decide) (Nat.le_of_ble_eq_true rfl) (fun z11 T11 I11 L11 R11 h11 => ?_)
          obtain ⟨rfl, rfl, rfl, rfl, rfl⟩ := h11
          refine r_if_eq d_X7_best_14 (by split <;> omega) (fun c14 => absurd c14 (by rw [if_pos k4.1]; decide)) (fun c14 => ?_)
          refine r_iload_n d_X7_best_17 rfl ?_
          refine r_bipush d_X7_best_18 (by decide) ?_
          refine r_S2i d_X7_best_20 (w_X7_124 _ rfl) (c_isBelow hi (by omega)) (by decide) (Nat.le_of_ble_eq_true rfl) (fun z20 T20 I20 L20 R20 h20 => ?_)
          obtain ⟨rfl, rfl, rfl, rfl, rfl⟩ := h20
          refine r_if_ne d_X7_best_23 (by split <;> omega) (fun c23 => ?_) (fun c23 => absurd c23 (by rw [if_pos k4.2]; decide))
          refine r_aload_n d_X7_best_29 rfl ?_
          refine r_getr d_X7_best_30 f_X7_19 (tt_3 _ _) (by decide) rfl (rr_3_1 _) ?_
          refine r_geti d_X7_best_33 f_X7_94 (tt_8 _ _) (by decide) (by decide) ?_
          refine r_bipush d_X7_best_36 (by decide) ?_
          rw [e3]
          refine r_icmp_gt d_X7_best_38 (by omega) (by omega) (fun c38 => absurd c38 (by omega)) (fun c38 => ?_)
          refine r_aload_n d_X7_best_41 rfl ?_
          refine r_geti d_X7_best_42 f_X7_244 (tt_3 _ _) (by decide) (by decide) ?_
          refine r_bipush d_X7_best_45 (by decide) ?_
          rw [hq]
          refine r_icmp_lt d_X7_best_47 (by omega) (by omega) (fun c47 => ?_) (fun c47 => absurd c47 (by omega))
          refine r_aload_n d_X7_best_53 rfl ?_
          refine r_dup d_X7_best_54 rfl ?_
          refine r_geti d_X7_best_55 f_X7_244 (tt_3 _ _) (by decide) (by decide) ?_
          refine r_iconst d_X7_best_58 ?_
          refine r_iadd d_X7_best_59 ?_
          rw [hq]
          refine r_puti d_X7_best_60 f_X7_244 (tt_3 _ _) (by decide) (Or.inl rfl) ?_
          refine r_iload_n d_X7_best_63 rfl ?_
          refine r_aload_n d_X7_best_64 rfl ?_
          refine r_getr d_X7_best_65 f_X7_19 (tt_3 _ _) (by decide) rfl (rr_3_1 _) ?_
          refine r_geti d_X7_best_68 f_X7_94 (tt_8 _ _) (by decide) (by decide) ?_
          rw [g31]
          refine r_icmp_ge d_X7_best_71 (by omega) (by omega) (fun c71 => absurd c71 (by omega)) (fun c71 => ?_)
          refine r_aload_n d_X7_best_74 rfl ?_
          refine r_getr d_X7_best_75 f_X7_53 (tt_3 _ _) (by decide) rfl (rr_3_7 _) ?_
          refine r_iconst d_X7_best_78 ?_
          refine r_iload_n d_X7_best_79 rfl ?_
          refine r_V2r d_X7_best_80 (w_X7_166 _ rfl) (tt_122 _ _) rfl rfl (hc5) (by decide) (Nat.le_of_ble_eq_true rfl) (fun z80 T80 I80 L80 R80 h80 => ?_)
          obtain ⟨rfl, rfl, f1, f2, k, c1, c2⟩ := h80
          obtain ⟨rfl, lf, hb, hl⟩ := c2 ⟨rfl, k5.1⟩
          obtain ⟨x, x1, x2, x3⟩ := hl ι (by omega)
          refine r_iload_n d_X7_best_83 rfl ?_
          refine r_ialdJ d_X7_best_84 (tt2_133 Ls tl (i := hw) (by omega)) rfl (by omega) (kk := ?_)
          refine r_goto d_X7_best_85 ?_
          refine r_iret d_X7_best_89 rfl ?_
          refine ⟨_, rfl, rfl, rfl, fun a h1 h2 => ?_, fun k hk => ?_, f2, ?_, fun h => absurd hz h, fun _ => ⟨?_, fun h => absurd h (by omega), fun _ => ⟨lf, x, hb, ?_, x3⟩⟩⟩
          · rw [f1 a (by omega)]; exact up2_ne _ _ h1
          · rw [f1 3 (by omega)]; exact up2_nj _ _ hk
          · exact ⟨XB_day hX1.1 (fun a ha => f1 a (by omega)) k f2, RX_frb hX1.2 f1 (by omega) (by omega)⟩
          · rw [f1 3 (by omega)]; exact up2_at _ _ _ _
          · rw [Int.toNat_natCast]; exact x1
        · skip
          refine r_aload_n d_X7_best_0 rfl ?_
          refine r_V0i d_X7_best_1 (w_X7_157 _ rfl) (tt_3 _ _) rfl rfl (hc2) (by decide) (Nat.le_of_ble_eq_true rfl) (fun z1 T1 I1 L1 R1 h1 => ?_)
          obtain ⟨rfl, rfl, rfl, rfl, rfl⟩ := h1
          refine r_if_ne d_X7_best_4 (by omega) (fun c4 => ?_) (fun c4 => absurd c4 (by decide))
          refine r_iload_n d_X7_best_10 rfl ?_
          refine r_S1i d_X7_best_11 (w_X7_183 _ rfl) (c_isGiving hh) (by decide) (Nat.le_of_ble_eq_true rfl) (fun z11 T11 I11 L11 R11 h11 => ?_)
          obtain ⟨rfl, rfl, rfl, rfl, rfl⟩ := h11
          refine r_if_eq d_X7_best_14 (by split <;> omega) (fun c14 => absurd c14 (by rw [if_pos k4.1]; decide)) (fun c14 => ?_)
          refine r_iload_n d_X7_best_17 rfl ?_
          refine r_bipush d_X7_best_18 (by decide) ?_
          refine r_S2i d_X7_best_20 (w_X7_124 _ rfl) (c_isBelow hi (by omega)) (by decide) (Nat.le_of_ble_eq_true rfl) (fun z20 T20 I20 L20 R20 h20 => ?_)
          obtain ⟨rfl, rfl, rfl, rfl, rfl⟩ := h20
          refine r_if_ne d_X7_best_23 (by split <;> omega) (fun c23 => ?_) (fun c23 => absurd c23 (by rw [if_pos k4.2]; decide))
          refine r_aload_n d_X7_best_29 rfl ?_
          refine r_getr d_X7_best_30 f_X7_19 (tt_3 _ _) (by decide) rfl (rr_3_1 _) ?_
          refine r_geti d_X7_best_33 f_X7_94 (tt_8 _ _) (by decide) (by decide) ?_
          refine r_bipush d_X7_best_36 (by decide) ?_
          rw [e3]
          refine r_icmp_gt d_X7_best_38 (by omega) (by omega) (fun c38 => absurd c38 (by omega)) (fun c38 => ?_)
          refine r_aload_n d_X7_best_41 rfl ?_
          refine r_geti d_X7_best_42 f_X7_244 (tt_3 _ _) (by decide) (by decide) ?_
          refine r_bipush d_X7_best_45 (by decide) ?_
          rw [hq]
          refine r_icmp_lt d_X7_best_47 (by omega) (by omega) (fun c47 => ?_) (fun c47 => absurd c47 (by omega))
          refine r_aload_n d_X7_best_53 rfl ?_
          refine r_dup d_X7_best_54 rfl ?_
          refine r_geti d_X7_best_55 f_X7_244 (tt_3 _ _) (by decide) (by decide) ?_
          refine r_iconst d_X7_best_58 ?_
          refine r_iadd d_X7_best_59 ?_
          rw [hq]
          refine r_puti d_X7_best_60 f_X7_244 (tt_3 _ _) (by decide) (Or.inl rfl) ?_
          refine r_iload_n d_X7_best_63 rfl ?_
          refine r_aload_n d_X7_best_64 rfl ?_
          refine r_getr d_X7_best_65 f_X7_19 (tt_3 _ _) (by decide) rfl (rr_3_1 _) ?_
          refine r_geti d_X7_best_68 f_X7_94 (tt_8 _ _) (by decide) (by decide) ?_
          rw [g31]
          refine r_icmp_ge d_X7_best_71 (by omega) (by omega) (fun c71 => ?_) (fun c71 => absurd c71 (by omega))
          refine r_iconst d_X7_best_88 ?_
          refine r_iret d_X7_best_89 rfl ?_
          exact ⟨_, rfl, rfl, rfl, fun a h1 _ => up2_ne _ _ h1, fun k hk => up2_nj _ _ hk, frb_rf, hX1, fun h => absurd hz h, fun _ => ⟨up2_at _ _ _ _, fun _ => rfl, fun h => absurd h k6⟩⟩
      · rw [if_neg k5] at hD
        have e := no (-103) hD.symm (by decide)
        refine r_aload_n d_X7_best_0 rfl ?_
        refine r_V0i d_X7_best_1 (w_X7_157 _ rfl) (tt_3 _ _) rfl rfl (hc2) (by decide) (Nat.le_of_ble_eq_true rfl) (fun z1 T1 I1 L1 R1 h1 => ?_)
        obtain ⟨rfl, rfl, rfl, rfl, rfl⟩ := h1
        refine r_if_ne d_X7_best_4 (by omega) (fun c4 => ?_) (fun c4 => absurd c4 (by decide))
        refine r_iload_n d_X7_best_10 rfl ?_
        refine r_S1i d_X7_best_11 (w_X7_183 _ rfl) (c_isGiving hh) (by decide) (Nat.le_of_ble_eq_true rfl) (fun z11 T11 I11 L11 R11 h11 => ?_)
        obtain ⟨rfl, rfl, rfl, rfl, rfl⟩ := h11
        refine r_if_eq d_X7_best_14 (by split <;> omega) (fun c14 => absurd c14 (by rw [if_pos k4.1]; decide)) (fun c14 => ?_)
        refine r_iload_n d_X7_best_17 rfl ?_
        refine r_bipush d_X7_best_18 (by decide) ?_
        refine r_S2i d_X7_best_20 (w_X7_124 _ rfl) (c_isBelow hi (by omega)) (by decide) (Nat.le_of_ble_eq_true rfl) (fun z20 T20 I20 L20 R20 h20 => ?_)
        obtain ⟨rfl, rfl, rfl, rfl, rfl⟩ := h20
        refine r_if_ne d_X7_best_23 (by split <;> omega) (fun c23 => ?_) (fun c23 => absurd c23 (by rw [if_pos k4.2]; decide))
        refine r_aload_n d_X7_best_29 rfl ?_
        refine r_getr d_X7_best_30 f_X7_19 (tt_3 _ _) (by decide) rfl (rr_3_1 _) ?_
        refine r_geti d_X7_best_33 f_X7_94 (tt_8 _ _) (by decide) (by decide) ?_
        refine r_bipush d_X7_best_36 (by decide) ?_
        rw [e3]
        refine r_icmp_gt d_X7_best_38 (by omega) (by omega) (fun c38 => ?_) (fun c38 => ?_)
        · refine r_bipush d_X7_best_50 (by decide) ?_
          refine r_iret d_X7_best_52 rfl ?_
          exact e
        · refine r_aload_n d_X7_best_41 rfl ?_
          refine r_geti d_X7_best_42 f_X7_244 (tt_3 _ _) (by decide) (by decide) ?_
          refine r_bipush d_X7_best_45 (by decide) ?_
          rw [hq]
          refine r_icmp_lt d_X7_best_47 (by omega) (by omega) (fun c47 => absurd c47 (by omega)) (fun c47 => ?_)
          refine r_bipush d_X7_best_50 (by decide) ?_
          refine r_iret d_X7_best_52 rfl ?_
          exact e
    · rw [if_neg k4] at hD
      have e := no (-102) hD.symm (by decide)
      refine r_aload_n d_X7_best_0 rfl ?_
      refine r_V0i d_X7_best_1 (w_X7_157 _ rfl) (tt_3 _ _) rfl rfl (hc2) (by decide) (Nat.le_of_ble_eq_true rfl) (fun z1 T1 I1 L1 R1 h1 => ?_)
      obtain ⟨rfl, rfl, rfl, rfl, rfl⟩ := h1
      refine r_if_ne d_X7_best_4 (by omega) (fun c4 => ?_) (fun c4 => absurd c4 (by decide))
      refine r_iload_n d_X7_best_10 rfl ?_
      refine r_S1i d_X7_best_11 (w_X7_183 _ rfl) (c_isGiving hh) (by decide) (Nat.le_of_ble_eq_true rfl) (fun z11 T11 I11 L11 R11 h11 => ?_)
      obtain ⟨rfl, rfl, rfl, rfl, rfl⟩ := h11
      refine r_if_eq d_X7_best_14 (by split <;> omega) (fun c14 => ?_) (fun c14 => ?_)
      · refine r_bipush d_X7_best_26 (by decide) ?_
        refine r_iret d_X7_best_28 rfl ?_
        exact e
      · have q1 : how = 0 ∨ how = 1 := Classical.byContradiction (fun q => by rw [if_neg q] at c14; omega)
        refine r_iload_n d_X7_best_17 rfl ?_
        refine r_bipush d_X7_best_18 (by decide) ?_
        refine r_S2i d_X7_best_20 (w_X7_124 _ rfl) (c_isBelow hi (by omega)) (by decide) (Nat.le_of_ble_eq_true rfl) (fun z20 T20 I20 L20 R20 h20 => ?_)
        obtain ⟨rfl, rfl, rfl, rfl, rfl⟩ := h20
        refine r_if_ne d_X7_best_23 (by split <;> omega) (fun c23 => absurd c23 (by rw [if_neg (fun q => k4 ⟨q1, q⟩)]; decide)) (fun c23 => ?_)
        refine r_bipush d_X7_best_26 (by decide) ?_
        refine r_iret d_X7_best_28 rfl ?_
        exact e
  · rw [if_neg (by omega)] at hc2
    rw [if_neg k2] at hD
    have e := no (-103) hD.symm (by decide)
    refine r_aload_n d_X7_best_0 rfl ?_
    refine r_V0i d_X7_best_1 (w_X7_157 _ rfl) (tt_3 _ _) rfl rfl (hc2) (by decide) (Nat.le_of_ble_eq_true rfl) (fun z1 T1 I1 L1 R1 h1 => ?_)
    obtain ⟨rfl, rfl, rfl, rfl, rfl⟩ := h1
    refine r_if_ne d_X7_best_4 (by omega) (fun c4 => absurd c4 (by decide)) (fun c4 => ?_)
    refine r_bipush d_X7_best_7 (by decide) ?_
    refine r_iret d_X7_best_9 rfl ?_
    exact e
theorem c_call (hX : XS σ ℓ nr nw ng tl ukd unn utr utw I L) {how room part q : Int} (hh : i32 how) (hro : i32 room) (hp : i32 part) (hq : I 3 12 = q) (hq2 : 0 ≤ q ∧ q ≤ 16) : Mc g 12 m_X7_call 0 0 [vr 3, vi how, vi room, vi part] (TT Ls tl) I L (RR tl) (AK σ ℓ nr nw ng Ls tl ukd unn utr utw I L (aCall σ ℓ nr nw ng how room part q)) := by
  refine Mc_of rfl (Nat.le_of_ble_eq_true rfl) ?_
  obtain ⟨hB, hR⟩ := id hX
  obtain ⟨b1, b2, b3, b4, b5, b6, b7, b8⟩ := id hB
  obtain ⟨v1, v2, v3, v4, v5, v6, v7⟩ := id b1
  have hpw := p2 v7
  have e3 : I 8 3 = (nr : Int) := b3.1
  have hc := c_isRoom (g := g) (Ls := Ls) (tl := tl) (I := I) (L := L) hro (by omega)
  rw [e3] at hc
  obtain ⟨D, hD⟩ : ∃ D, D = cfS σ nr how room part q := ⟨_, rfl⟩
  have no : ∀ z : Int, z = D → z ≠ 0 → AK σ ℓ nr nw ng Ls tl ukd unn utr utw I L (aCall σ ℓ nr nw ng how room part q) (some (vi z)) (TT Ls tl) I L (RR tl) := fun z h1 h2 => AK_no hX hq ⟨fun _ => ⟨by rw [h1, hD], rfl⟩, fun h => absurd (by rw [h1, hD]; exact h) h2⟩
  unfold cfS at hD
  by_cases k1 : 0 ≤ room ∧ room < nr
  · rw [if_pos k1] at hc
    obtain ⟨ρ, rfl⟩ : ∃ ρ : Nat, room = (ρ : Int) := ⟨room.toNat, by omega⟩
    have hρ : ρ < nr := by omega
    rw [Int.toNat_natCast] at hD
    have hcb := c_isByChance (g := g) (Ls := Ls) (tl := tl) (I := I) (L := L) b1 b3 hρ
    by_cases k2 : σ 6 ρ = -1 ∧ σ 4 ρ ≠ -1
    · rw [if_pos k2] at hcb
      rw [if_pos ⟨k1, k2⟩] at hD
      by_cases k4 : (how = 0 ∨ how = 1) ∧ (part = 0 ∨ part = 1)
      · rw [if_pos k4] at hD
        by_cases k5 : nr ≤ 6 ∧ q < 16
        · have hz : cfS σ nr how (ρ : Int) part q = 0 := by unfold cfS; rw [Int.toNat_natCast, if_pos ⟨k1, k2⟩, if_pos k4, if_pos k5]
          have hX1 := XS_ask (v := q + 1) hX
          obtain ⟨g1, g2, g3, g4, g5, g6, g7, g8⟩ := id hX1.1
          have hlen := ODR_len nr (by omega)
          have hbit : chn σ ρ < 3 := by have := chn_lt σ hρ k2.2; omega
          refine r_aload_n d_X7_call_0 rfl ?_
          refine r_iload_n d_X7_call_1 rfl ?_
          refine r_V1i d_X7_call_2 (w_X7_121 _ rfl) (tt_3 _ _) rfl rfl (hc) (by decide) (Nat.le_of_ble_eq_true rfl) (fun z2 T2 I2 L2 R2 h2 => ?_)
          obtain ⟨rfl, rfl, rfl, rfl, rfl⟩ := h2
          refine r_if_eq d_X7_call_5 (by omega) (fun c5 => absurd c5 (by decide)) (fun c5 => ?_)
          refine r_aload_n d_X7_call_8 rfl ?_
          refine r_getr d_X7_call_9 f_X7_19 (tt_3 _ _) (by decide) rfl (rr_3_1 _) ?_
          refine r_iload_n d_X7_call_12 rfl ?_
          refine r_V1i d_X7_call_13 (w_X7_247 _ rfl) (tt_8 _ _) rfl rfl (hcb) (by decide) (Nat.le_of_ble_eq_true rfl) (fun z13 T13 I13 L13 R13 h13 => ?_)
          obtain ⟨rfl, rfl, rfl, rfl, rfl⟩ := h13
          refine r_if_ne d_X7_call_16 (by omega) (fun c16 => ?_) (fun c16 => absurd c16 (by decide))
          refine r_iload_n d_X7_call_22 rfl ?_
          refine r_S1i d_X7_call_23 (w_X7_183 _ rfl) (c_isGiving hh) (by decide) (Nat.le_of_ble_eq_true rfl) (fun z23 T23 I23 L23 R23 h23 => ?_)
          obtain ⟨rfl, rfl, rfl, rfl, rfl⟩ := h23
          refine r_if_eq d_X7_call_26 (by split <;> omega) (fun c26 => absurd c26 (by rw [if_pos k4.1]; decide)) (fun c26 => ?_)
          refine r_iload_n d_X7_call_29 rfl ?_
          refine r_S1i d_X7_call_30 (w_X7_200 _ rfl) (c_isPart hp) (by decide) (Nat.le_of_ble_eq_true rfl) (fun z30 T30 I30 L30 R30 h30 => ?_)
          obtain ⟨rfl, rfl, rfl, rfl, rfl⟩ := h30
          refine r_if_ne d_X7_call_33 (by split <;> omega) (fun c33 => ?_) (fun c33 => absurd c33 (by rw [if_pos k4.2]; decide))
          refine r_aload_n d_X7_call_39 rfl ?_
          refine r_getr d_X7_call_40 f_X7_19 (tt_3 _ _) (by decide) rfl (rr_3_1 _) ?_
          refine r_geti d_X7_call_43 f_X7_94 (tt_8 _ _) (by decide) (by decide) ?_
          rw [e3]
          refine r_bipush d_X7_call_46 (by decide) ?_
          refine r_icmp_gt d_X7_call_48 (by omega) (by omega) (fun c48 => absurd c48 (by omega)) (fun c48 => ?_)
          refine r_aload_n d_X7_call_51 rfl ?_
          refine r_geti d_X7_call_52 f_X7_244 (tt_3 _ _) (by decide) (by decide) ?_
          rw [hq]
          refine r_bipush d_X7_call_55 (by decide) ?_
          refine r_icmp_lt d_X7_call_57 (by omega) (by omega) (fun c57 => ?_) (fun c57 => absurd c57 (by omega))
          refine r_aload_n d_X7_call_63 rfl ?_
          refine r_dup d_X7_call_64 rfl ?_
          refine r_geti d_X7_call_65 f_X7_244 (tt_3 _ _) (by decide) (by decide) ?_
          refine r_iconst d_X7_call_68 ?_
          refine r_iadd d_X7_call_69 ?_
          rw [hq]
          refine r_puti d_X7_call_70 f_X7_244 (tt_3 _ _) (by decide) (Or.inl rfl) ?_
          refine r_aload_n d_X7_call_73 rfl ?_
          refine r_getr d_X7_call_74 f_X7_53 (tt_3 _ _) (by decide) rfl (rr_3_7 _) ?_
          refine r_iload_n d_X7_call_77 rfl ?_
          refine r_V1v d_X7_call_78 (w_X7_250 _ rfl) (tt_122 _ _) rfl rfl (c_weighAll g1 g2 (by omega) k5.1 k4.1 g3 g4 g5 g7) (by decide) (Nat.le_of_ble_eq_true rfl) (fun T78 I78 L78 R78 h78 => ?_)
          obtain ⟨rfl, rfl, f1, f2, hWX, hcn⟩ := h78
          have hB2 := XB_day (I' := I78) (L' := L78) hX1.1 (fun a ha => f1 a (by omega)) (KNX_frb g6 (fun a ha => f1 a (by omega))) f2
          have hCB := WX_CBD b1 b2 hWX
          have l1 := leS_bd (mask := 0) (bits := 0) hCB (by omega) (by omega)
          have l2 := leS_bd (mask := 2 ^ chn σ ρ) (bits := 0) hCB (by omega) (by omega)
          have l3 := leS_bd (mask := 2 ^ chn σ ρ) (bits := 2 ^ chn σ ρ) hCB (by omega) (by omega)
          have hcb2 := c_bitOf' (g := g) (Ls := Ls) (tl := tl) (I := I78) (L := L78) b1 hB2.2.2.1 hρ
          rw [if_neg k2.2] at hcb2
          refine r_aload_n d_X7_call_81 rfl ?_
          refine r_aload_n d_X7_call_82 rfl ?_
          refine r_getr d_X7_call_83 f_X7_53 (tt_3 _ _) (by decide) rfl (rr_3_7 _) ?_
          refine r_aload_n d_X7_call_86 rfl ?_
          refine r_getr d_X7_call_87 f_X7_19 (tt_3 _ _) (by decide) rfl (rr_3_1 _) ?_
          refine r_iload_n d_X7_call_90 rfl ?_
          refine r_V1i d_X7_call_91 (w_X7_254 _ rfl) (tt_8 _ _) rfl rfl (hcb2) (by decide) (Nat.le_of_ble_eq_true rfl) (fun z91 T91 I91 L91 R91 h91 => ?_)
          obtain ⟨rfl, rfl, rfl, rfl, rfl⟩ := h91
          refine r_V1i d_X7_call_94 (w_X7_257 _ rfl) (tt_122 _ _) rfl rfl (c_worthOf b1 hB2.2.2.1 (by omega) hcn hCB hbit) (by decide) (Nat.le_of_ble_eq_true rfl) (fun z94 T94 I94 L94 R94 h94 => ?_)
          obtain ⟨ew, rfl, rfl, rfl, rfl⟩ := h94
          refine r_iload_n d_X7_call_97 rfl ?_
          refine r_V2i d_X7_call_98 (w_X7_207 _ rfl) (tt_3 _ _) rfl rfl (c_termOf b1 hB2.2.2.1 (by omega) k4.2) (by decide) (Nat.le_of_ble_eq_true rfl) (fun z98 T98 I98 L98 R98 h98 => ?_)
          obtain ⟨e, rfl, rfl, rfl, rfl⟩ := h98
          refine r_iret d_X7_call_101 rfl ?_
          refine ⟨_, rfl, rfl, rfl, fun a h1 h2 => ?_, fun k hk => ?_, f2, ?_, fun h => absurd hz h, fun _ => ⟨?_, z94, ⟨_, hWX, ?_⟩, e⟩⟩
          · rw [f1 a (by omega)]; exact up2_ne _ _ h1
          · rw [f1 3 (by omega)]; exact up2_nj _ _ hk
          · exact ⟨hB2, RX_frb hX1.2 f1 (by omega) (by omega)⟩
          · rw [f1 3 (by omega)]; exact up2_at _ _ _ _
          · rw [Int.toNat_natCast]; exact ew
        · rw [if_neg k5] at hD
          have e := no (-103) hD.symm (by decide)
          refine r_aload_n d_X7_call_0 rfl ?_
          refine r_iload_n d_X7_call_1 rfl ?_
          refine r_V1i d_X7_call_2 (w_X7_121 _ rfl) (tt_3 _ _) rfl rfl (hc) (by decide) (Nat.le_of_ble_eq_true rfl) (fun z2 T2 I2 L2 R2 h2 => ?_)
          obtain ⟨rfl, rfl, rfl, rfl, rfl⟩ := h2
          refine r_if_eq d_X7_call_5 (by omega) (fun c5 => absurd c5 (by decide)) (fun c5 => ?_)
          refine r_aload_n d_X7_call_8 rfl ?_
          refine r_getr d_X7_call_9 f_X7_19 (tt_3 _ _) (by decide) rfl (rr_3_1 _) ?_
          refine r_iload_n d_X7_call_12 rfl ?_
          refine r_V1i d_X7_call_13 (w_X7_247 _ rfl) (tt_8 _ _) rfl rfl (hcb) (by decide) (Nat.le_of_ble_eq_true rfl) (fun z13 T13 I13 L13 R13 h13 => ?_)
          obtain ⟨rfl, rfl, rfl, rfl, rfl⟩ := h13
          refine r_if_ne d_X7_call_16 (by omega) (fun c16 => ?_) (fun c16 => absurd c16 (by decide))
          refine r_iload_n d_X7_call_22 rfl ?_
          refine r_S1i d_X7_call_23 (w_X7_183 _ rfl) (c_isGiving hh) (by decide) (Nat.le_of_ble_eq_true rfl) (fun z23 T23 I23 L23 R23 h23 => ?_)
          obtain ⟨rfl, rfl, rfl, rfl, rfl⟩ := h23
          refine r_if_eq d_X7_call_26 (by split <;> omega) (fun c26 => absurd c26 (by rw [if_pos k4.1]; decide)) (fun c26 => ?_)
          refine r_iload_n d_X7_call_29 rfl ?_
          refine r_S1i d_X7_call_30 (w_X7_200 _ rfl) (c_isPart hp) (by decide) (Nat.le_of_ble_eq_true rfl) (fun z30 T30 I30 L30 R30 h30 => ?_)
          obtain ⟨rfl, rfl, rfl, rfl, rfl⟩ := h30
          refine r_if_ne d_X7_call_33 (by split <;> omega) (fun c33 => ?_) (fun c33 => absurd c33 (by rw [if_pos k4.2]; decide))
          refine r_aload_n d_X7_call_39 rfl ?_
          refine r_getr d_X7_call_40 f_X7_19 (tt_3 _ _) (by decide) rfl (rr_3_1 _) ?_
          refine r_geti d_X7_call_43 f_X7_94 (tt_8 _ _) (by decide) (by decide) ?_
          rw [e3]
          refine r_bipush d_X7_call_46 (by decide) ?_
          refine r_icmp_gt d_X7_call_48 (by omega) (by omega) (fun c48 => ?_) (fun c48 => ?_)
          · refine r_bipush d_X7_call_60 (by decide) ?_
            refine r_iret d_X7_call_62 rfl ?_
            exact e
          · refine r_aload_n d_X7_call_51 rfl ?_
            refine r_geti d_X7_call_52 f_X7_244 (tt_3 _ _) (by decide) (by decide) ?_
            rw [hq]
            refine r_bipush d_X7_call_55 (by decide) ?_
            refine r_icmp_lt d_X7_call_57 (by omega) (by omega) (fun c57 => absurd c57 (by omega)) (fun c57 => ?_)
            refine r_bipush d_X7_call_60 (by decide) ?_
            refine r_iret d_X7_call_62 rfl ?_
            exact e
      · rw [if_neg k4] at hD
        have e := no (-102) hD.symm (by decide)
        refine r_aload_n d_X7_call_0 rfl ?_
        refine r_iload_n d_X7_call_1 rfl ?_
        refine r_V1i d_X7_call_2 (w_X7_121 _ rfl) (tt_3 _ _) rfl rfl (hc) (by decide) (Nat.le_of_ble_eq_true rfl) (fun z2 T2 I2 L2 R2 h2 => ?_)
        obtain ⟨rfl, rfl, rfl, rfl, rfl⟩ := h2
        refine r_if_eq d_X7_call_5 (by omega) (fun c5 => absurd c5 (by decide)) (fun c5 => ?_)
        refine r_aload_n d_X7_call_8 rfl ?_
        refine r_getr d_X7_call_9 f_X7_19 (tt_3 _ _) (by decide) rfl (rr_3_1 _) ?_
        refine r_iload_n d_X7_call_12 rfl ?_
        refine r_V1i d_X7_call_13 (w_X7_247 _ rfl) (tt_8 _ _) rfl rfl (hcb) (by decide) (Nat.le_of_ble_eq_true rfl) (fun z13 T13 I13 L13 R13 h13 => ?_)
        obtain ⟨rfl, rfl, rfl, rfl, rfl⟩ := h13
        refine r_if_ne d_X7_call_16 (by omega) (fun c16 => ?_) (fun c16 => absurd c16 (by decide))
        refine r_iload_n d_X7_call_22 rfl ?_
        refine r_S1i d_X7_call_23 (w_X7_183 _ rfl) (c_isGiving hh) (by decide) (Nat.le_of_ble_eq_true rfl) (fun z23 T23 I23 L23 R23 h23 => ?_)
        obtain ⟨rfl, rfl, rfl, rfl, rfl⟩ := h23
        refine r_if_eq d_X7_call_26 (by split <;> omega) (fun c26 => ?_) (fun c26 => ?_)
        · refine r_bipush d_X7_call_36 (by decide) ?_
          refine r_iret d_X7_call_38 rfl ?_
          exact e
        · have q1 : how = 0 ∨ how = 1 := Classical.byContradiction (fun q => by rw [if_neg q] at c26; omega)
          refine r_iload_n d_X7_call_29 rfl ?_
          refine r_S1i d_X7_call_30 (w_X7_200 _ rfl) (c_isPart hp) (by decide) (Nat.le_of_ble_eq_true rfl) (fun z30 T30 I30 L30 R30 h30 => ?_)
          obtain ⟨rfl, rfl, rfl, rfl, rfl⟩ := h30
          refine r_if_ne d_X7_call_33 (by split <;> omega) (fun c33 => absurd c33 (by rw [if_neg (fun q => k4 ⟨q1, q⟩)]; decide)) (fun c33 => ?_)
          refine r_bipush d_X7_call_36 (by decide) ?_
          refine r_iret d_X7_call_38 rfl ?_
          exact e
    · rw [if_neg k2] at hcb
      rw [if_neg (fun q => k2 q.2)] at hD
      have e := no (-101) hD.symm (by decide)
      refine r_aload_n d_X7_call_0 rfl ?_
      refine r_iload_n d_X7_call_1 rfl ?_
      refine r_V1i d_X7_call_2 (w_X7_121 _ rfl) (tt_3 _ _) rfl rfl (hc) (by decide) (Nat.le_of_ble_eq_true rfl) (fun z2 T2 I2 L2 R2 h2 => ?_)
      obtain ⟨rfl, rfl, rfl, rfl, rfl⟩ := h2
      refine r_if_eq d_X7_call_5 (by omega) (fun c5 => absurd c5 (by decide)) (fun c5 => ?_)
      refine r_aload_n d_X7_call_8 rfl ?_
      refine r_getr d_X7_call_9 f_X7_19 (tt_3 _ _) (by decide) rfl (rr_3_1 _) ?_
      refine r_iload_n d_X7_call_12 rfl ?_
      refine r_V1i d_X7_call_13 (w_X7_247 _ rfl) (tt_8 _ _) rfl rfl (hcb) (by decide) (Nat.le_of_ble_eq_true rfl) (fun z13 T13 I13 L13 R13 h13 => ?_)
      obtain ⟨rfl, rfl, rfl, rfl, rfl⟩ := h13
      refine r_if_ne d_X7_call_16 (by omega) (fun c16 => absurd c16 (by decide)) (fun c16 => ?_)
      refine r_bipush d_X7_call_19 (by decide) ?_
      refine r_iret d_X7_call_21 rfl ?_
      exact e
  · rw [if_neg k1] at hc
    rw [if_neg (fun q => k1 q.1)] at hD
    have e := no (-101) hD.symm (by decide)
    refine r_aload_n d_X7_call_0 rfl ?_
    refine r_iload_n d_X7_call_1 rfl ?_
    refine r_V1i d_X7_call_2 (w_X7_121 _ rfl) (tt_3 _ _) rfl rfl (hc) (by decide) (Nat.le_of_ble_eq_true rfl) (fun z2 T2 I2 L2 R2 h2 => ?_)
    obtain ⟨rfl, rfl, rfl, rfl, rfl⟩ := h2
    refine r_if_eq d_X7_call_5 (by omega) (fun c5 => ?_) (fun c5 => absurd c5 (by decide))
    refine r_bipush d_X7_call_19 (by decide) ?_
    refine r_iret d_X7_call_21 rfl ?_
    exact e
end C56
