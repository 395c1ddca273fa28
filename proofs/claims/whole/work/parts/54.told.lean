/-- σ with other lates -/
def lateS (σ : Sg) (x : Nat → Int) : Sg := fun k i => if k = 6 then x i else σ k i
theorem late_chn {σ : Sg} {x : Nat → Int} : ∀ n, chn (lateS σ x) n = chn σ n
  | 0 => rfl
  | n + 1 => by
    show chn (lateS σ x) n + _ = chn σ n + _
    rw [late_chn n]; rfl
theorem late_fm {σ : Sg} {x : Nat → Int} {q : Nat} : ∀ n, fmS (lateS σ x) q n = fmS σ q n
  | 0 => rfl
  | n + 1 => by
    show (if fitS σ n q = true then fmS (lateS σ x) q n ||| 2 ^ n else fmS (lateS σ x) q n) = _
    rw [late_fm n]; rfl
theorem late_pm {σ : Sg} {x : Nat → Int} {r : Nat} : ∀ n, pmS (lateS σ x) r n = pmS σ r n
  | 0 => rfl
  | n + 1 => by
    show (if fitS σ r n = true then (if σ 10 n < pmS (lateS σ x) r n then σ 10 n else pmS (lateS σ x) r n) else pmS (lateS σ x) r n) = _
    rw [late_pm n]; rfl
theorem late_same {σ : Sg} {x : Nat → Int} {k i : Nat} (h : k ≠ 6) : lateS σ x k i = σ k i := by unfold lateS; rw [if_neg h]
/-- other lates, another lift; what was best is forgotten -/
theorem XS_late {σ : Sg} {ℓ ℓ' : Int} {nr nw ng : Nat} {tl : List Nat} {ukd unn : Nat → Int} {utr utw : Nat → Nat → Nat} {I L I' : sI} {x : Nat → Int} (h : XS σ ℓ nr nw ng tl ukd unn utr utw I L) (hx : ∀ r, r < nr → -1 ≤ x r ∧ x r ≤ 44) (hl : 1 ≤ ℓ' ∧ ℓ' ≤ 6) (f : ∀ a, (a < 10 ∨ 18 ≤ a) → a ≠ 63 → a ≠ 136 → I' a = I a) (fr : ∀ r, r < nr → (∀ k, k ≠ 6 → I' (10 + r) k = I (10 + r) k) ∧ I' (10 + r) 6 = x r) (f0 : I' 63 0 = ℓ') (f63 : ∀ k, k ≠ 0 → I' 63 k = I 63 k) (k0 : I' 136 0 = 0) (k1 : I' 136 1 = 0) : XS (lateS σ x) ℓ' nr nw ng tl ukd unn utr utw I' L := by
  obtain ⟨⟨b1, b2, b3, b4, b5, b6, b7, b8⟩, r1, r2, r3⟩ := h
  obtain ⟨v1, v2, v3, v4, v5, v6, v7⟩ := id b1
  have hR : ∀ r, r < nr → RV (lateS σ x) r := fun r hr => by
    obtain ⟨q1, q2, q3, q4, q5, q6⟩ := v4 r hr
    exact ⟨q1, q2, q3, q4, q5, hx r hr⟩
  have hrow : ∀ r, r < nr → ∀ k, k < 7 → I' (10 + r) k = lateS σ x k r := fun r hr k hk => by
    by_cases e : k = 6
    · subst e; exact (fr r hr).2
    · rw [late_same e, (fr r hr).1 k e]; exact HXr b3 hr hk
  refine ⟨⟨⟨v1, v2, v3, hR, v5, v6, by rw [late_chn]; exact v7⟩, ⟨b2.1, b2.2.1, hR, b2.2.2.2.1, hl⟩, ?_, ?_, ?_, ?_, b7, fun j hj => by rw [f 1 (by omega) (by omega) (by omega)]; exact b8 j hj⟩, by rw [f 3 (by omega) (by omega) (by omega)]; exact r1, r2, fun q hq => ?_⟩
  · obtain ⟨q1, q2, q3, q4, q5, q6, q7, q8⟩ := b3
    have e8 := f 8 (by omega) (by omega) (by omega)
    refine ⟨by rw [e8]; exact q1, by rw [e8]; exact q2, by rw [e8]; exact q3, by rw [e8, late_chn]; exact q4, hrow, fun w hw k hk => ?_, fun q hq k hk => ?_, fun r hr h4 => ?_⟩
    · rw [f (8 + 11 + w) (by omega) (by omega) (by omega), late_same (by omega)]; exact q6 w hw k hk
    · rw [f (8 + 15 + q) (by omega) (by omega) (by omega), late_same (by omega)]; exact q7 q hq k hk
    · rw [late_chn, f (8 + 23) (by omega) (by omega) (by omega)]; exact q8 r hr h4
  · obtain ⟨q1, q2, q3, q4⟩ := b4
    refine ⟨fun q hq => ?_, ?_, fun r hr => ?_, ?_⟩
    · rw [late_fm, f (8 + 24) (by omega) (by omega) (by omega)]; exact q1 q hq
    · rw [f (8 + 25) (by omega) (by omega) (by omega)]; exact q2
    · rw [late_pm, f (8 + 26) (by omega) (by omega) (by omega)]; exact q3 r hr
    · rw [f 8 (by omega) (by omega) (by omega)]; exact q4
  · obtain ⟨q1, q2, q3, q4, q5, q6⟩ := b5
    have h4 := b2.2.1
    refine ⟨by rw [f 8 (by omega) (by omega) (by omega)]; exact q1, hrow, f0, by rw [f63 3 (by omega)]; exact q4, fun w hw k hk => ?_, fun w hw => ?_⟩
    · rw [f (65 + w) (by omega) (by omega) (by omega), late_same (by omega)]; exact q5 w hw k hk
    · rw [f 69 (by omega) (by omega) (by omega)]; exact q6 w hw
  · intro hw hh
    rcases (show hw = 0 ∨ hw = 1 by omega) with rfl | rfl
    · exact Or.inl k0
    · exact Or.inl k1
  · obtain ⟨u1, u2, u3, u4, u5, u6, u7⟩ := r3 q hq
    refine ⟨u1, u2, by rw [f _ (by omega) (by omega) (by omega)]; exact u3, by rw [f _ (by omega) (by omega) (by omega)]; exact u4, u5, u6, fun i hi => ?_⟩
    rw [f (186 + 3 * q + 1) (by omega) (by omega) (by omega), f (186 + 3 * q + 2) (by omega) (by omega) (by omega)]
    exact u7 i hi
/-- an answer that tells of lates or the lift -/
def AL (σ : Sg) (nr nw ng : Nat) (Ls : Nat) (tl : List Nat) (ukd unn : Nat → Int) (utr utw : Nat → Nat → Nat) (I L : sI) (A : Int → (Nat → Int) → Int → Prop) : sQ := qI fun z T' I' L' R' => T' = TT Ls tl ∧ R' = RR tl ∧ (∀ a, (a < 10 ∨ 18 ≤ a) → a ≠ 63 → a ≠ 136 → I' a = I a) ∧ L' = L ∧ ∃ x ℓ', XS (lateS σ x) ℓ' nr nw ng tl ukd unn utr utw I' L' ∧ A z x ℓ'
def aLate (σ : Sg) (ℓ : Int) (nr : Nat) (room quarter z : Int) (x : Nat → Int) (ℓ' : Int) : Prop := ℓ' = ℓ ∧ z = (if 0 ≤ room ∧ room < nr then (if -1 ≤ quarter ∧ quarter ≤ 44 then σ 6 room.toNat else -102) else -101) ∧ x = (if (0 ≤ room ∧ room < nr) ∧ (-1 ≤ quarter ∧ quarter ≤ 44) then fun i => if i = room.toNat then quarter else σ 6 i else σ 6)
def aLift (σ : Sg) (ℓ : Int) (fl z : Int) (x : Nat → Int) (ℓ' : Int) : Prop := x = σ 6 ∧ z = (if 1 ≤ fl ∧ fl ≤ 6 then ℓ else -102) ∧ ℓ' = (if 1 ≤ fl ∧ fl ≤ 6 then fl else ℓ)
theorem lateS_id {σ : Sg} : lateS σ (σ 6) = σ := by
  funext k i
  unfold lateS
  split
  · next h => rw [h]
  · rfl
section C54
variable {g : sG} {Ls : Nat} {tl : List Nat} {I L : sI} {σ : Sg} {ℓ : Int} {nr nw ng : Nat} {ukd unn : Nat → Int} {utr utw : Nat → Nat → Nat}
theorem c_hireAllX (hV : HV σ nr nw ng) (hX : HX 8 σ nr nw ng I) (hl : I 63 0 = ℓ) : Mc g 2 m_X7_hireAll 0 0 [vr 3] (TT Ls tl) I L (RR tl) (qV fun T' I' L' R' => T' = TT Ls tl ∧ R' = RR tl ∧ L' = L ∧ (∀ a, (a < 63 ∨ 70 ≤ a) → a ≠ 136 → I' a = I a) ∧ KX σ ℓ (-1) nr nw I' ∧ I' 136 0 = 0 ∧ I' 136 1 = 0) := by
  refine Mc_of rfl (Nat.le_of_ble_eq_true rfl) ?_
  refine r_aload_n d_X7_hireAll_0 rfl ?_
  refine r_getr d_X7_hireAll_1 f_X7_37 (tt_3 _ _) (by decide) rfl (rr_3_5 _) ?_
  refine r_V0v d_X7_hireAll_4 (w_X7_297 _ rfl) (tt_63 _ _) rfl rfl (c_hireAll hV hX hl) (by decide) (Nat.le_of_ble_eq_true rfl) (fun T4 I4 L4 R4 h4 => ?_)
  obtain ⟨⟨rfl, f, rfl, rfl⟩, hK⟩ := h4
  refine r_aload_n d_X7_hireAll_7 rfl ?_
  refine r_getr d_X7_hireAll_8 f_X7_53 (tt_3 _ _) (by decide) rfl (rr_3_7 _) ?_
  refine r_V0v d_X7_hireAll_11 (w_X7_144 _ rfl) (tt_122 _ _) rfl rfl (c_forget) (by decide) (Nat.le_of_ble_eq_true rfl) (fun T11 I11 L11 R11 h11 => ?_)
  obtain ⟨rfl, rfl, rfl, k1, k2, k3⟩ := h11
  refine r_vret d_X7_hireAll_14 rfl ?_
  refine ⟨rfl, rfl, rfl, rfl, fun a ha h6 => ?_, ?_, k2, k3⟩
  · rw [k1 a h6]; exact f a (by omega)
  · obtain ⟨q1, q2, q3, q4, q5, q6⟩ := hK
    have h8 := hV.1
    have h3 := hV.2.1
    exact ⟨by rw [k1 8 (by omega)]; exact q1, fun r hr k hk => by rw [k1 (10 + r) (by omega)]; exact q2 r hr k hk, by rw [k1 63 (by omega)]; exact q3, by rw [k1 63 (by omega)]; exact q4, fun w hw k hk => by rw [k1 (65 + w) (by omega)]; exact q5 w hw k hk, fun w hw => by rw [k1 69 (by omega)]; exact q6 w hw⟩
theorem c_woman (hV : HV σ nr nw ng) (hX : HX 8 σ nr nw ng I) {r what : Int} (hr : i32 r) (hw : i32 what) : Mc g 1 m_X7_woman 0 0 [vr 3, vi r, vi what] (TT Ls tl) I L (RR tl) (qI fun z T' I' L' R' => z = tlR σ nw 7 3 r what ∧ same (TT Ls tl) I L (RR tl) T' I' L' R') := by
  refine Mc_of rfl (Nat.le_of_ble_eq_true rfl) ?_
  have h8 := hV.2.1
  have e4 : I 8 4 = (nw : Int) := hX.2.1
  unfold tlR
  by_cases h1 : 0 ≤ r ∧ r < nw
  · rw [if_pos h1]
    obtain ⟨ρ, rfl⟩ : ∃ ρ : Nat, r = (ρ : Int) := ⟨r.toNat, by omega⟩
    by_cases h2 : 0 ≤ what ∧ what < (3 : Nat)
    · rw [if_pos h2]
      obtain ⟨k, rfl⟩ : ∃ k : Nat, what = (k : Int) := ⟨what.toNat, by omega⟩
      have e : I (19 + ρ) k = σ (7 + k) ρ := HXw hX (by omega) (by omega)
      refine r_iload_n d_X7_woman_0 rfl ?_
      refine r_aload_n d_X7_woman_1 rfl ?_
      refine r_getr d_X7_woman_2 f_X7_19 (tt_3 _ _) (by decide) rfl (rr_3_1 _) ?_
      refine r_geti d_X7_woman_5 f_X7_132 (tt_8 _ _) (by decide) (by decide) ?_
      refine r_S2i d_X7_woman_8 (w_X7_124 _ rfl) (c_isBelow hr (by rw [e4]; omega)) (by decide) (Nat.le_of_ble_eq_true rfl) (fun z8 T8 I8 L8 R8 h8 => ?_)
      obtain ⟨rfl, rfl, rfl, rfl, rfl⟩ := h8
      refine r_if_ne d_X7_woman_11 (by split <;> omega) (fun c11 => ?_) (fun c11 => absurd c11 (by rw [if_pos (by omega)]; decide))
      refine r_iload_n d_X7_woman_17 rfl ?_
      refine r_iconst d_X7_woman_18 ?_
      refine r_S2i d_X7_woman_19 (w_X7_124 _ rfl) (c_isBelow hw (by omega)) (by decide) (Nat.le_of_ble_eq_true rfl) (fun z19 T19 I19 L19 R19 h19 => ?_)
      obtain ⟨rfl, rfl, rfl, rfl, rfl⟩ := h19
      refine r_if_eq d_X7_woman_22 (by split <;> omega) (fun c22 => absurd c22 (by rw [if_pos (by omega)]; decide)) (fun c22 => ?_)
      refine r_aload_n d_X7_woman_25 rfl ?_
      refine r_getr d_X7_woman_26 f_X7_19 (tt_3 _ _) (by decide) rfl (rr_3_1 _) ?_
      refine r_getr d_X7_woman_29 f_X7_135 (tt_8 _ _) (by decide) rfl (rr_8_1 _) ?_
      refine r_iload_n d_X7_woman_32 rfl ?_
      refine r_aaldJ d_X7_woman_33 (tt_18 _ _) (by decide) rfl (by omega) (rr2_18 _ (by omega)) (kk := ?_)
      refine r_iload_n d_X7_woman_34 rfl ?_
      refine r_ialdJ d_X7_woman_35 (tt2_18 _ _ (by omega)) rfl (by omega) (kk := ?_)
      refine r_goto d_X7_woman_36 ?_
      refine r_iret d_X7_woman_41 rfl ?_
      exact ⟨_, rfl, by rw [Int.toNat_natCast, Int.toNat_natCast]; exact e, same_rf⟩
    · rw [if_neg h2]
      refine r_iload_n d_X7_woman_0 rfl ?_
      refine r_aload_n d_X7_woman_1 rfl ?_
      refine r_getr d_X7_woman_2 f_X7_19 (tt_3 _ _) (by decide) rfl (rr_3_1 _) ?_
      refine r_geti d_X7_woman_5 f_X7_132 (tt_8 _ _) (by decide) (by decide) ?_
      refine r_S2i d_X7_woman_8 (w_X7_124 _ rfl) (c_isBelow hr (by rw [e4]; omega)) (by decide) (Nat.le_of_ble_eq_true rfl) (fun z8 T8 I8 L8 R8 h8 => ?_)
      obtain ⟨rfl, rfl, rfl, rfl, rfl⟩ := h8
      refine r_if_ne d_X7_woman_11 (by split <;> omega) (fun c11 => ?_) (fun c11 => absurd c11 (by rw [if_pos (by omega)]; decide))
      refine r_iload_n d_X7_woman_17 rfl ?_
      refine r_iconst d_X7_woman_18 ?_
      refine r_S2i d_X7_woman_19 (w_X7_124 _ rfl) (c_isBelow hw (by omega)) (by decide) (Nat.le_of_ble_eq_true rfl) (fun z19 T19 I19 L19 R19 h19 => ?_)
      obtain ⟨rfl, rfl, rfl, rfl, rfl⟩ := h19
      refine r_if_eq d_X7_woman_22 (by split <;> omega) (fun c22 => ?_) (fun c22 => absurd c22 (by rw [if_neg (by omega)]; decide))
      refine r_bipush d_X7_woman_39 (by decide) ?_
      refine r_iret d_X7_woman_41 rfl ?_
      exact ⟨_, rfl, rfl, same_rf⟩
  · rw [if_neg h1]
    refine r_iload_n d_X7_woman_0 rfl ?_
    refine r_aload_n d_X7_woman_1 rfl ?_
    refine r_getr d_X7_woman_2 f_X7_19 (tt_3 _ _) (by decide) rfl (rr_3_1 _) ?_
    refine r_geti d_X7_woman_5 f_X7_132 (tt_8 _ _) (by decide) (by decide) ?_
    refine r_S2i d_X7_woman_8 (w_X7_124 _ rfl) (c_isBelow hr (by rw [e4]; omega)) (by decide) (Nat.le_of_ble_eq_true rfl) (fun z8 T8 I8 L8 R8 h8 => ?_)
    obtain ⟨rfl, rfl, rfl, rfl, rfl⟩ := h8
    refine r_if_ne d_X7_woman_11 (by split <;> omega) (fun c11 => absurd c11 (by rw [if_neg (by omega)]; decide)) (fun c11 => ?_)
    refine r_bipush d_X7_woman_14 (by decide) ?_
    refine r_iret d_X7_woman_16 rfl ?_
    exact ⟨_, rfl, rfl, same_rf⟩
theorem c_late (hX : XS σ ℓ nr nw ng tl ukd unn utr utw I L) {room quarter : Int} (hr : i32 room) (hq : i32 quarter) : Mc g 2 m_X7_late 0 0 [vr 3, vi room, vi quarter] (TT Ls tl) I L (RR tl) (AL σ nr nw ng Ls tl ukd unn utr utw I L (aLate σ ℓ nr room quarter)) := by
  refine Mc_of rfl (Nat.le_of_ble_eq_true rfl) ?_
  obtain ⟨hB, hR⟩ := id hX
  obtain ⟨b1, b2, b3, b4, b5, b6, b7, b8⟩ := id hB
  have h8 := b1.1
  have hc := c_isRoom (g := g) (Ls := Ls) (tl := tl) (I := I) (L := L) hr (by have := b3.1; omega)
  rw [b3.1] at hc
  have hqq : -2147483648 ≤ quarter ∧ quarter ≤ 2147483647 := hq
  have no : ∀ z : Int, ¬ ((0 ≤ room ∧ room < nr) ∧ (-1 ≤ quarter ∧ quarter ≤ 44)) → z = (if 0 ≤ room ∧ room < nr then (if -1 ≤ quarter ∧ quarter ≤ 44 then σ 6 room.toNat else -102) else -101) → AL σ nr nw ng Ls tl ukd unn utr utw I L (aLate σ ℓ nr room quarter) (some (vi z)) (TT Ls tl) I L (RR tl) := fun z hn hz => ⟨_, rfl, rfl, rfl, fun _ _ _ _ => rfl, rfl, σ 6, ℓ, by rw [lateS_id]; exact hX, rfl, hz, by rw [if_neg hn]⟩
  by_cases h1 : 0 ≤ room ∧ room < nr
  · rw [if_pos h1] at hc
    by_cases h2 : -1 ≤ quarter ∧ quarter ≤ 44
    · obtain ⟨ρ, rfl⟩ : ∃ ρ : Nat, room = (ρ : Int) := ⟨room.toNat, by omega⟩
      have hρ : ρ < nr := by omega
      have e : I (10 + ρ) 6 = σ 6 ρ := HXr b3 hρ (by omega)
      refine r_aload_n d_X7_late_0 rfl ?_
      refine r_iload_n d_X7_late_1 rfl ?_
      refine r_V1i d_X7_late_2 (w_X7_121 _ rfl) (tt_3 _ _) rfl rfl (hc) (by decide) (Nat.le_of_ble_eq_true rfl) (fun z2 T2 I2 L2 R2 h2 => ?_)
      obtain ⟨rfl, rfl, rfl, rfl, rfl⟩ := h2
      refine r_if_ne d_X7_late_5 (by omega) (fun c5 => ?_) (fun c5 => absurd c5 (by decide))
      refine r_iload_n d_X7_late_11 rfl ?_
      refine r_iconst d_X7_late_12 ?_
      refine r_icmp_lt d_X7_late_13 (by omega) (by omega) (fun c13 => absurd c13 (by omega)) (fun c13 => ?_)
      refine r_iload_n d_X7_late_16 rfl ?_
      refine r_bipush d_X7_late_17 (by decide) ?_
      refine r_icmp_le d_X7_late_19 (by omega) (by omega) (fun c19 => ?_) (fun c19 => absurd c19 (by omega))
      refine r_aload_n d_X7_late_25 rfl ?_
      refine r_getr d_X7_late_26 f_X7_19 (tt_3 _ _) (by decide) rfl (rr_3_1 _) ?_
      refine r_getr d_X7_late_29 f_X7_128 (tt_8 _ _) (by decide) rfl (rr_8_0 _) ?_
      refine r_iload_n d_X7_late_32 rfl ?_
      refine r_aaldJ d_X7_late_33 (tt_9 _ _) (by decide) rfl (by omega) (rr2_9 _ (by omega)) (kk := ?_)
      refine r_bipush d_X7_late_34 (by decide) ?_
      refine r_ialdJ (j := 6) d_X7_late_36 (tt2_9 _ _ (by omega)) rfl (by omega) (kk := ?_)
      refine r_istore_n d_X7_late_37 (by decide) ?_
      refine r_aload_n d_X7_late_38 rfl ?_
      refine r_getr d_X7_late_39 f_X7_19 (tt_3 _ _) (by decide) rfl (rr_3_1 _) ?_
      refine r_getr d_X7_late_42 f_X7_128 (tt_8 _ _) (by decide) rfl (rr_8_0 _) ?_
      refine r_iload_n d_X7_late_45 rfl ?_
      refine r_aaldJ d_X7_late_46 (tt_9 _ _) (by decide) rfl (by omega) (rr2_9 _ (by omega)) (kk := ?_)
      refine r_bipush d_X7_late_47 (by decide) ?_
      refine r_iload_n d_X7_late_49 rfl ?_
      refine r_iastJ (j := 6) d_X7_late_50 (tt2_9 _ _ (by omega)) (by omega) rfl (by omega) (kk := ?_)
      refine r_aload_n d_X7_late_51 rfl ?_
      refine r_getr d_X7_late_52 f_X7_53 (tt_3 _ _) (by decide) rfl (rr_3_7 _) ?_
      refine r_V0v d_X7_late_55 (w_X7_144 _ rfl) (tt_122 _ _) rfl rfl (c_forget) (by decide) (Nat.le_of_ble_eq_true rfl) (fun T55 I55 L55 R55 h55 => ?_)
      obtain ⟨rfl, rfl, rfl, k1, k2, k3⟩ := h55
      refine r_iload_n d_X7_late_58 rfl ?_
      refine r_iret d_X7_late_59 rfl ?_
      refine ⟨_, rfl, rfl, rfl, fun a h1 h2 h3 => ?_, rfl, fun i => if i = ρ then quarter else σ 6 i, ℓ, XS_late hX (fun r hr => ?_) b2.2.2.2.2 (fun a h1 h2 h3 => ?_) (fun r hr => ⟨fun k hk => ?_, ?_⟩) ?_ (fun k hk => ?_) k2 k3, rfl, ?_, ?_⟩
      · rw [k1 a h3]; exact up2_ne _ _ (by omega)
      · show -1 ≤ (if r = ρ then quarter else σ 6 r) ∧ (if r = ρ then quarter else σ 6 r) ≤ 44
        have := (b1.2.2.2.1 r hr).2.2.2.2.2
        split <;> omega
      · rw [k1 a h3]; exact up2_ne _ _ (by omega)
      · rw [k1 (10 + r) (by omega)]; exact up2_nj _ _ hk
      · rw [k1 (10 + r) (by omega)]
        show up2 I (10 + ρ) 6 quarter (10 + r) 6 = if r = ρ then quarter else σ 6 r
        by_cases e2 : r = ρ
        · rw [if_pos e2, e2]; exact up2_at _ _ _ _
        · rw [if_neg e2, up2_ne _ _ (by omega)]; exact HXr b3 hr (by omega)
      · rw [k1 63 (by omega), up2_ne _ _ (by omega)]; exact b5.2.2.1
      · rw [k1 63 (by omega), up2_ne _ _ (by omega)]
      · rw [if_pos h1, if_pos h2, Int.toNat_natCast]; exact e
      · rw [if_pos ⟨h1, h2⟩, Int.toNat_natCast]
    · skip
      refine r_aload_n d_X7_late_0 rfl ?_
      refine r_iload_n d_X7_late_1 rfl ?_
      refine r_V1i d_X7_late_2 (w_X7_121 _ rfl) (tt_3 _ _) rfl rfl (hc) (by decide) (Nat.le_of_ble_eq_true rfl) (fun z2 T2 I2 L2 R2 h2 => ?_)
      obtain ⟨rfl, rfl, rfl, rfl, rfl⟩ := h2
      refine r_if_ne d_X7_late_5 (by omega) (fun c5 => ?_) (fun c5 => absurd c5 (by decide))
      refine r_iload_n d_X7_late_11 rfl ?_
      refine r_iconst d_X7_late_12 ?_
      refine r_icmp_lt d_X7_late_13 (by omega) (by omega) (fun c13 => ?_) (fun c13 => ?_)
      · refine r_bipush d_X7_late_22 (by decide) ?_
        refine r_iret d_X7_late_24 rfl ?_
        exact no _ (fun q => h2 q.2) (by rw [if_pos h1, if_neg h2])
      · refine r_iload_n d_X7_late_16 rfl ?_
        refine r_bipush d_X7_late_17 (by decide) ?_
        refine r_icmp_le d_X7_late_19 (by omega) (by omega) (fun c19 => absurd c19 (by omega)) (fun c19 => ?_)
        refine r_bipush d_X7_late_22 (by decide) ?_
        refine r_iret d_X7_late_24 rfl ?_
        exact no _ (fun q => h2 q.2) (by rw [if_pos h1, if_neg h2])
  · rw [if_neg h1] at hc
    refine r_aload_n d_X7_late_0 rfl ?_
    refine r_iload_n d_X7_late_1 rfl ?_
    refine r_V1i d_X7_late_2 (w_X7_121 _ rfl) (tt_3 _ _) rfl rfl (hc) (by decide) (Nat.le_of_ble_eq_true rfl) (fun z2 T2 I2 L2 R2 h2 => ?_)
    obtain ⟨rfl, rfl, rfl, rfl, rfl⟩ := h2
    refine r_if_ne d_X7_late_5 (by omega) (fun c5 => absurd c5 (by decide)) (fun c5 => ?_)
    refine r_bipush d_X7_late_8 (by decide) ?_
    refine r_iret d_X7_late_10 rfl ?_
    exact no _ (fun q => h1 q.1) (by rw [if_neg h1])
theorem c_lift (hX : XS σ ℓ nr nw ng tl ukd unn utr utw I L) {fl : Int} (hf : i32 fl) : Mc g 1 m_X7_lift 0 0 [vr 3, vi fl] (TT Ls tl) I L (RR tl) (AL σ nr nw ng Ls tl ukd unn utr utw I L (aLift σ ℓ fl)) := by
  refine Mc_of rfl (Nat.le_of_ble_eq_true rfl) ?_
  obtain ⟨hB, hR⟩ := id hX
  obtain ⟨b1, b2, b3, b4, b5, b6, b7, b8⟩ := id hB
  have h8 := b1.1
  have hff : -2147483648 ≤ fl ∧ fl ≤ 2147483647 := hf
  by_cases h2 : 1 ≤ fl ∧ fl ≤ 6
  · have e : I 63 0 = ℓ := b5.2.2.1
    refine r_iload_n d_X7_lift_0 rfl ?_
    refine r_iconst d_X7_lift_1 ?_
    refine r_icmp_lt d_X7_lift_2 (by omega) (by omega) (fun c2 => absurd c2 (by omega)) (fun c2 => ?_)
    refine r_iload_n d_X7_lift_5 rfl ?_
    refine r_bipush d_X7_lift_6 (by decide) ?_
    refine r_icmp_le d_X7_lift_8 (by omega) (by omega) (fun c8 => ?_) (fun c8 => absurd c8 (by omega))
    refine r_aload_n d_X7_lift_14 rfl ?_
    refine r_getr d_X7_lift_15 f_X7_37 (tt_3 _ _) (by decide) rfl (rr_3_5 _) ?_
    refine r_geti d_X7_lift_18 f_X7_147 (tt_63 _ _) (by decide) (by decide) ?_
    refine r_istore_n d_X7_lift_21 (by decide) ?_
    refine r_aload_n d_X7_lift_22 rfl ?_
    refine r_getr d_X7_lift_23 f_X7_37 (tt_3 _ _) (by decide) rfl (rr_3_5 _) ?_
    refine r_iload_n d_X7_lift_26 rfl ?_
    refine r_puti d_X7_lift_27 f_X7_147 (tt_63 _ _) (by decide) (Or.inl rfl) ?_
    refine r_aload_n d_X7_lift_30 rfl ?_
    refine r_getr d_X7_lift_31 f_X7_53 (tt_3 _ _) (by decide) rfl (rr_3_7 _) ?_
    refine r_V0v d_X7_lift_34 (w_X7_144 _ rfl) (tt_122 _ _) rfl rfl (c_forget) (by decide) (Nat.le_of_ble_eq_true rfl) (fun T34 I34 L34 R34 h34 => ?_)
    obtain ⟨rfl, rfl, rfl, k1, k2, k3⟩ := h34
    refine r_iload_n d_X7_lift_37 rfl ?_
    refine r_iret d_X7_lift_38 rfl ?_
    refine ⟨_, rfl, rfl, rfl, fun a h1 h2 h3 => ?_, rfl, σ 6, fl, XS_late hX (fun r hr => (b1.2.2.2.1 r hr).2.2.2.2.2) h2 (fun a h1 h2 h3 => ?_) (fun r hr => ⟨fun k hk => ?_, ?_⟩) ?_ (fun k hk => ?_) k2 k3, rfl, ?_, ?_⟩
    · rw [k1 a h3]; exact up2_ne _ _ h2
    · rw [k1 a h3]; exact up2_ne _ _ h2
    · rw [k1 (10 + r) (by omega), up2_ne _ _ (by omega)]
    · rw [k1 (10 + r) (by omega), up2_ne _ _ (by omega)]; exact HXr b3 hr (by omega)
    · rw [k1 63 (by omega)]; exact up2_at _ _ _ _
    · rw [k1 63 (by omega)]; exact up2_nj _ _ hk
    · rw [if_pos h2]; exact e
    · rw [if_pos h2]
  · have no : AL σ nr nw ng Ls tl ukd unn utr utw I L (aLift σ ℓ fl) (some (vi (-102))) (TT Ls tl) I L (RR tl) := ⟨_, rfl, rfl, rfl, fun _ _ _ _ => rfl, rfl, σ 6, ℓ, by rw [lateS_id]; exact hX, rfl, by rw [if_neg h2], by rw [if_neg h2]⟩
    refine r_iload_n d_X7_lift_0 rfl ?_
    refine r_iconst d_X7_lift_1 ?_
    refine r_icmp_lt d_X7_lift_2 (by omega) (by omega) (fun c2 => ?_) (fun c2 => ?_)
    · refine r_bipush d_X7_lift_11 (by decide) ?_
      refine r_iret d_X7_lift_13 rfl ?_
      exact no
    · refine r_iload_n d_X7_lift_5 rfl ?_
      refine r_bipush d_X7_lift_6 (by decide) ?_
      refine r_icmp_le d_X7_lift_8 (by omega) (by omega) (fun c8 => absurd c8 (by omega)) (fun c8 => ?_)
      refine r_bipush d_X7_lift_11 (by decide) ?_
      refine r_iret d_X7_lift_13 rfl ?_
      exact no
end C54
