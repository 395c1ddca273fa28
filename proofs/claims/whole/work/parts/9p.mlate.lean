/-! the reference: lates, the lift, as, counts, image, restore -/
def ALM (σ : Sg) (nr nw ng : Nat) (Ls : Nat) (tl : List Nat) (ukd unn : Nat → Int) (utr utw : Nat → Nat → Nat) (I L : sI) (A : Int → (Nat → Int) → Int → Prop) : sQ := qI fun z T' I' L' R' => T' = TT Ls tl ∧ R' = RR tl ∧ L' = L ∧ (∀ a, a ≠ 139 → a ≠ 146 → a ≠ 173 → I' a = I a) ∧ (∀ k, k ≠ 17 → I' 139 k = I 139 k) ∧ ∃ x ℓ', MS (lateS σ x) ℓ' nr nw ng tl ukd unn utr utw I' ∧ A z x ℓ'
theorem KNM_none {σ : Sg} {ℓ ab : Int} {nr nW ng : Nat} {I : sI} (k0 : I 173 0 = 0) (k1 : I 173 1 = 0) : KNM σ ℓ ab nr nW ng I := by
  intro hw hh
  rcases (show hw = 0 ∨ hw = 1 by omega) with rfl | rfl
  · exact Or.inl k0
  · exact Or.inl k1
section X9p
variable {g : sG} {Ls : Nat} {I L : sI} {σ : Sg} {ℓ : Int} {nr nw ng : Nat} {tl : List Nat} {ukd unn : Nat → Int} {utr utw : Nat → Nat → Nat}
theorem MS_late {ℓ' : Int} {I' : sI} {x : Nat → Int} (h : MS σ ℓ nr nw ng tl ukd unn utr utw I) (hx : ∀ r, r < nr → -1 ≤ x r ∧ x r ≤ 44) (hx1 : ∀ r, nr ≤ r → x r = -1) (hl : 1 ≤ ℓ' ∧ ℓ' ≤ 6) (f : ∀ a, a ≠ 139 → a ≠ 146 → a ≠ 173 → I' a = I a) (fk : ∀ k, k ≠ 17 → I' 139 k = I 139 k) (fr : ∀ r, r < nr → I' 146 r = x r) (f17 : I' 139 17 = ℓ') (k0 : I' 173 0 = 0) (k1 : I' 173 1 = 0) : MS (lateS σ x) ℓ' nr nw ng tl ukd unn utr utw I' := by
  obtain ⟨⟨⟨s1, s2, s3, s4, s5⟩, v2, v3, v4⟩, h3, hcan, hA, hX, hl0, hwm, hN, hR⟩ := h
  have hRV : ∀ r, r < nr → RV (lateS σ x) r := fun r hr => by
    obtain ⟨q1, q2, q3, q4, q5, q6⟩ := s3 r hr
    exact ⟨q1, q2, q3, q4, q5, hx r hr⟩
  refine ⟨⟨⟨s1, s2, hRV, s4, hl⟩, v2, v3, by rw [late_chn]; exact v4⟩, h3, fun r hr => ⟨(hcan r hr).1, hx1 r hr⟩, hA, ?_, f17, by rw [fk 8 (by decide)]; exact hwm, KNM_none k0 k1, ?_⟩
  · obtain ⟨q1, q2, q3, q4, q5⟩ := hX
    refine ⟨by rw [fk 0 (by decide)]; exact q1, by rw [fk 12 (by decide)]; exact q2, fun r hr k hk => ?_, fun w hw k hk => ?_, fun q hq k hk => ?_⟩
    · by_cases e : k = 6
      · subst e; exact fr r hr
      · rw [late_same e, f (140 + k) (by omega) (by omega) (by omega)]; exact q3 r hr k hk
    · rw [late_same (by omega), f (147 + k) (by omega) (by omega) (by omega)]; exact q4 w hw k hk
    · rw [late_same (by omega), f (150 + k) (by omega) (by omega) (by omega)]; exact q5 q hq k hk
  · obtain ⟨r1, r2, r3⟩ := hR
    refine ⟨by rw [fk 19 (by decide)]; exact r1, r2, fun q hq => ?_⟩
    rw [f 154 (by decide) (by decide) (by decide), f 155 (by decide) (by decide) (by decide), f 156 (by decide) (by decide) (by decide)]
    exact r3 q hq
theorem x_late (hM : MS σ ℓ nr nw ng tl ukd unn utr utw I) {room quarter : Int} (hr : i32 room) (hq : i32 quarter) : Mc g 2 m_X8_late 0 0 [vr 139, vi room, vi quarter] (TT Ls tl) I L (RR tl) (ALM σ nr nw ng Ls tl ukd unn utr utw I L (aLate σ ℓ nr room quarter)) := by
  refine Mc_of rfl (Nat.le_of_ble_eq_true rfl) ?_
  obtain ⟨hV, h3, hcan, hA, hX, hl, hwm, hN, hR⟩ := id hM
  have hr2 : -2147483648 ≤ room ∧ room ≤ 2147483647 := hr
  have hq2 : -2147483648 ≤ quarter ∧ quarter ≤ 2147483647 := hq
  have h8 := hV.1.1
  have hc := x_isRoom (g := g) (Ls := Ls) (tl := tl) (L := L) hr2 hX.1 h8
  have hwi := x_within (g := g) (T := TT Ls tl) (I := I) (L := L) (R := RR tl) (lo := -1) (hi := 44) hq2 (by omega) (by omega)
  have no : ∀ z : Int, ¬ ((0 ≤ room ∧ room < nr) ∧ (-1 ≤ quarter ∧ quarter ≤ 44)) → z = (if 0 ≤ room ∧ room < nr then (if -1 ≤ quarter ∧ quarter ≤ 44 then σ 6 room.toNat else -102) else -101) → ALM σ nr nw ng Ls tl ukd unn utr utw I L (aLate σ ℓ nr room quarter) (some (vi z)) (TT Ls tl) I L (RR tl) := fun z hn hz => ⟨_, rfl, rfl, rfl, rfl, fun _ _ _ _ => rfl, fun _ _ => rfl, σ 6, ℓ, by rw [lateS_id]; exact hM, rfl, hz, by rw [if_neg hn]⟩
  by_cases h1 : 0 ≤ room ∧ room < nr
  · rw [if_pos h1] at hc
    by_cases h2 : -1 ≤ quarter ∧ quarter ≤ 44
    · rw [if_pos h2] at hwi
      obtain ⟨ρ, rfl⟩ : ∃ ρ : Nat, room = (ρ : Int) := ⟨room.toNat, by omega⟩
      have hρ : ρ < nr := by omega
      have e : I 146 ρ = σ 6 ρ := hX.2.2.1 ρ hρ 6 (by omega)
      refine r_aload_n d_X8_late_0 rfl ?_
      refine r_iload_n d_X8_late_1 rfl ?_
      refine r_V1i d_X8_late_2 (w_X8_253 _ rfl) (tt_139 _ _) rfl rfl (hc) (by decide) (Nat.le_of_ble_eq_true rfl) (fun z2 T2 I2 L2 R2 h2 => ?_)
      obtain ⟨rfl, rfl, rfl, rfl, rfl⟩ := h2
      refine r_if_ne d_X8_late_5 (by omega) (fun c5 => ?_) (fun c5 => absurd c5 (by decide))
      refine r_iload_n d_X8_late_11 rfl ?_
      refine r_iconst d_X8_late_12 ?_
      refine r_bipush d_X8_late_13 (by decide) ?_
      refine r_S3i d_X8_late_15 (w_X8_162 _ rfl) (hwi) (by decide) (Nat.le_of_ble_eq_true rfl) (fun z15 T15 I15 L15 R15 h15 => ?_)
      obtain ⟨rfl, rfl, rfl, rfl, rfl⟩ := h15
      refine r_if_ne d_X8_late_18 (by omega) (fun c18 => ?_) (fun c18 => absurd c18 (by decide))
      refine r_aload_n d_X8_late_24 rfl ?_
      refine r_getr d_X8_late_25 f_X8_28 (tt_139 _ _) (by decide) rfl (rr_139_7 _) ?_
      refine r_iload_n d_X8_late_28 rfl ?_
      refine r_ialdJ d_X8_late_29 (tt_146 _ _) rfl (by omega) (kk := ?_)
      refine r_istore_n d_X8_late_30 (by decide) ?_
      refine r_aload_n d_X8_late_31 rfl ?_
      refine r_getr d_X8_late_32 f_X8_28 (tt_139 _ _) (by decide) rfl (rr_139_7 _) ?_
      refine r_iload_n d_X8_late_35 rfl ?_
      refine r_iload_n d_X8_late_36 rfl ?_
      refine r_iastJ d_X8_late_37 (tt_146 _ _) (by omega) rfl (by omega) (kk := ?_)
      refine r_aload_n d_X8_late_38 rfl ?_
      refine r_V0v d_X8_late_39 (w_X8_244 _ rfl) (tt_139 _ _) rfl rfl (x_change) (by decide) (Nat.le_of_ble_eq_true rfl) (fun T39 I39 L39 R39 h39 => ?_)
      obtain ⟨rfl, rfl, rfl, rfl⟩ := h39
      refine r_iload_n d_X8_late_42 rfl ?_
      refine r_iret d_X8_late_43 rfl ?_
      refine ⟨_, rfl, rfl, rfl, rfl, fun a h1 h2 h3 => ?_, fun k hk => ?_, fun i => if i = ρ then quarter else σ 6 i, ℓ, MS_late hM (fun r hr => ?_) (fun r hr => ?_) hV.1.2.2.2.2 (fun a h1 h2 h3 => ?_) (fun k hk => ?_) (fun r hr => ?_) ?_ ?_ ?_, rfl, ?_, ?_⟩
      · rw [up2_ne _ _ h3, up2_ne _ _ h3, up2_ne _ _ h2]
      · rw [up2_ne _ _ (by decide), up2_ne _ _ (by decide), up2_ne _ _ (by decide)]
      · show -1 ≤ (if r = ρ then quarter else σ 6 r) ∧ (if r = ρ then quarter else σ 6 r) ≤ 44
        have := (hV.1.2.2.1 r hr).2.2.2.2.2
        split <;> omega
      · show (if r = ρ then quarter else σ 6 r) = -1
        rw [if_neg (by omega)]; exact (hcan r hr).2
      · rw [up2_ne _ _ h3, up2_ne _ _ h3, up2_ne _ _ h2]
      · rw [up2_ne _ _ (by decide), up2_ne _ _ (by decide), up2_ne _ _ (by decide)]
      · rw [up2_ne _ _ (by decide), up2_ne _ _ (by decide)]
        show up2 I 146 ρ quarter 146 r = if r = ρ then quarter else σ 6 r
        by_cases e2 : r = ρ
        · rw [if_pos e2, e2]; exact up2_at _ _ _ _
        · rw [if_neg e2, up2_nj _ _ e2]; exact hX.2.2.1 r hr 6 (by omega)
      · rw [up2_ne _ _ (by decide), up2_ne _ _ (by decide), up2_ne _ _ (by decide)]; exact hl
      · rw [up2_nj _ _ (by decide), up2_at]
      · rw [up2_at]
      · rw [if_pos h1, if_pos h2, Int.toNat_natCast]; exact e
      · rw [if_pos ⟨h1, h2⟩, Int.toNat_natCast]
    · rw [if_neg h2] at hwi
      refine r_aload_n d_X8_late_0 rfl ?_
      refine r_iload_n d_X8_late_1 rfl ?_
      refine r_V1i d_X8_late_2 (w_X8_253 _ rfl) (tt_139 _ _) rfl rfl (hc) (by decide) (Nat.le_of_ble_eq_true rfl) (fun z2 T2 I2 L2 R2 h2 => ?_)
      obtain ⟨rfl, rfl, rfl, rfl, rfl⟩ := h2
      refine r_if_ne d_X8_late_5 (by omega) (fun c5 => ?_) (fun c5 => absurd c5 (by decide))
      refine r_iload_n d_X8_late_11 rfl ?_
      refine r_iconst d_X8_late_12 ?_
      refine r_bipush d_X8_late_13 (by decide) ?_
      refine r_S3i d_X8_late_15 (w_X8_162 _ rfl) (hwi) (by decide) (Nat.le_of_ble_eq_true rfl) (fun z15 T15 I15 L15 R15 h15 => ?_)
      obtain ⟨rfl, rfl, rfl, rfl, rfl⟩ := h15
      refine r_if_ne d_X8_late_18 (by omega) (fun c18 => absurd c18 (by decide)) (fun c18 => ?_)
      refine r_bipush d_X8_late_21 (by decide) ?_
      refine r_iret d_X8_late_23 rfl ?_
      exact no _ (fun q => h2 q.2) (by rw [if_pos h1, if_neg h2])
  · rw [if_neg h1] at hc
    refine r_aload_n d_X8_late_0 rfl ?_
    refine r_iload_n d_X8_late_1 rfl ?_
    refine r_V1i d_X8_late_2 (w_X8_253 _ rfl) (tt_139 _ _) rfl rfl (hc) (by decide) (Nat.le_of_ble_eq_true rfl) (fun z2 T2 I2 L2 R2 h2 => ?_)
    obtain ⟨rfl, rfl, rfl, rfl, rfl⟩ := h2
    refine r_if_ne d_X8_late_5 (by omega) (fun c5 => absurd c5 (by decide)) (fun c5 => ?_)
    refine r_bipush d_X8_late_8 (by decide) ?_
    refine r_iret d_X8_late_10 rfl ?_
    exact no _ (fun q => h1 q.1) (by rw [if_neg h1])
theorem x_lift (hM : MS σ ℓ nr nw ng tl ukd unn utr utw I) {fl : Int} (hf : i32 fl) : Mc g 1 m_X8_lift 0 0 [vr 139, vi fl] (TT Ls tl) I L (RR tl) (ALM σ nr nw ng Ls tl ukd unn utr utw I L (aLift σ ℓ fl)) := by
  refine Mc_of rfl (Nat.le_of_ble_eq_true rfl) ?_
  obtain ⟨hV, h3, hcan, hA, hX, hl, hwm, hN, hR⟩ := id hM
  have hf2 : -2147483648 ≤ fl ∧ fl ≤ 2147483647 := hf
  have hwi := x_within (g := g) (T := TT Ls tl) (I := I) (L := L) (R := RR tl) (lo := 1) (hi := 6) hf2 (by omega) (by omega)
  by_cases h2 : 1 ≤ fl ∧ fl ≤ 6
  · rw [if_pos h2] at hwi
    refine r_iload_n d_X8_lift_0 rfl ?_
    refine r_iconst d_X8_lift_1 ?_
    refine r_bipush d_X8_lift_2 (by decide) ?_
    refine r_S3i d_X8_lift_4 (w_X8_162 _ rfl) (hwi) (by decide) (Nat.le_of_ble_eq_true rfl) (fun z4 T4 I4 L4 R4 h4 => ?_)
    obtain ⟨rfl, rfl, rfl, rfl, rfl⟩ := h4
    refine r_if_ne d_X8_lift_7 (by omega) (fun c7 => ?_) (fun c7 => absurd c7 (by decide))
    refine r_aload_n d_X8_lift_13 rfl ?_
    refine r_geti d_X8_lift_14 f_X8_53 (tt_139 _ _) (by decide) (by decide) ?_
    refine r_istore_n d_X8_lift_17 (by decide) ?_
    refine r_aload_n d_X8_lift_18 rfl ?_
    refine r_iload_n d_X8_lift_19 rfl ?_
    refine r_puti d_X8_lift_20 f_X8_53 (tt_139 _ _) (by decide) (Or.inl rfl) ?_
    refine r_aload_n d_X8_lift_23 rfl ?_
    refine r_V0v d_X8_lift_24 (w_X8_244 _ rfl) (tt_139 _ _) rfl rfl (x_change) (by decide) (Nat.le_of_ble_eq_true rfl) (fun T24 I24 L24 R24 h24 => ?_)
    obtain ⟨rfl, rfl, rfl, rfl⟩ := h24
    refine r_iload_n d_X8_lift_27 rfl ?_
    refine r_iret d_X8_lift_28 rfl ?_
    refine ⟨_, rfl, rfl, rfl, rfl, fun a h1 h2 h3 => ?_, fun k hk => ?_, σ 6, fl, MS_late hM (fun r hr => (hV.1.2.2.1 r hr).2.2.2.2.2) (fun r hr => (hcan r hr).2) h2 (fun a h1 h2 h3 => ?_) (fun k hk => ?_) (fun r hr => ?_) ?_ ?_ ?_, rfl, ?_, ?_⟩
    · rw [up2_ne _ _ h3, up2_ne _ _ h3, up2_ne _ _ h1]
    · rw [up2_ne _ _ (by decide), up2_ne _ _ (by decide), up2_nj _ _ hk]
    · rw [up2_ne _ _ h3, up2_ne _ _ h3, up2_ne _ _ h1]
    · rw [up2_ne _ _ (by decide), up2_ne _ _ (by decide), up2_nj _ _ hk]
    · rw [up2_ne _ _ (by decide), up2_ne _ _ (by decide), up2_ne _ _ (by decide)]; exact hX.2.2.1 r hr 6 (by omega)
    · rw [up2_ne _ _ (by decide), up2_ne _ _ (by decide), up2_at]
    · rw [up2_nj _ _ (by decide), up2_at]
    · rw [up2_at]
    · rw [if_pos h2]; exact hl
    · rw [if_pos h2]
  · rw [if_neg h2] at hwi
    refine r_iload_n d_X8_lift_0 rfl ?_
    refine r_iconst d_X8_lift_1 ?_
    refine r_bipush d_X8_lift_2 (by decide) ?_
    refine r_S3i d_X8_lift_4 (w_X8_162 _ rfl) (hwi) (by decide) (Nat.le_of_ble_eq_true rfl) (fun z4 T4 I4 L4 R4 h4 => ?_)
    obtain ⟨rfl, rfl, rfl, rfl, rfl⟩ := h4
    refine r_if_ne d_X8_lift_7 (by omega) (fun c7 => absurd c7 (by decide)) (fun c7 => ?_)
    refine r_bipush d_X8_lift_10 (by decide) ?_
    refine r_iret d_X8_lift_12 rfl ?_
    exact ⟨_, rfl, rfl, rfl, rfl, fun _ _ _ _ => rfl, fun _ _ => rfl, σ 6, ℓ, by rw [lateS_id]; exact hM, rfl, by rw [if_neg h2], by rw [if_neg h2]⟩
theorem x_as (hM : MS σ ℓ nr nw ng tl ukd unn utr utw I) {rule kind : Int} (hr : i32 rule) (hk : i32 kind) : Mc g 2 m_X8_as 0 0 [vr 139, vi rule, vi kind] (TT Ls tl) I L (RR tl) (qI fun z T' I' L' R' => z = asR tl.length ukd rule kind ∧ same (TT Ls tl) I L (RR tl) T' I' L' R') := by
  refine Mc_of rfl (Nat.le_of_ble_eq_true rfl) ?_
  obtain ⟨hV, h3, hcan, hA, hX, hl, hwm, hN, hR⟩ := id hM
  have hr2 : -2147483648 ≤ rule ∧ rule ≤ 2147483647 := hr
  have hk2 : -2147483648 ≤ kind ∧ kind ≤ 2147483647 := hk
  have hru := x_isRule (g := g) (Ls := Ls) (tl := tl) (L := L) hr2 hR.1 hR.2.1
  have hwi := x_within (g := g) (T := TT Ls tl) (I := I) (L := L) (R := RR tl) (lo := 0) (hi := 6) hk2 (by omega) (by omega)
  have hl8 := hR.2.1
  unfold asR
  by_cases k1 : 0 ≤ rule ∧ rule < tl.length
  · rw [if_pos k1] at hru ⊢
    obtain ⟨u, rfl⟩ : ∃ u : Nat, rule = (u : Int) := ⟨rule.toNat, by omega⟩
    have hu : u < tl.length := by omega
    have hU := hR.2.2 u hu
    have ek : I 154 u = ukd u := hU.1
    have hkd := hU.2.2.1
    rw [Int.toNat_natCast]
    by_cases k2 : 0 ≤ kind ∧ kind ≤ 6
    · rw [if_pos k2] at hwi ⊢
      have fin : ∀ z : Int, z = (if asA (ukd u) kind = true then (u : Int) else -1) → (qI fun z T' I' L' R' => z = (if asA (ukd u) kind = true then (u : Int) else -1) ∧ same (TT Ls tl) I L (RR tl) T' I' L' R') (some (vi z)) (TT Ls tl) I L (RR tl) := fun z h => ⟨_, rfl, h, same_rf⟩
      unfold asA at fin ⊢
      refine r_aload_n d_X8_as_0 rfl ?_
      refine r_iload_n d_X8_as_1 rfl ?_
      refine r_V1i d_X8_as_2 (w_X8_250 _ rfl) (tt_139 _ _) rfl rfl (hru) (by decide) (Nat.le_of_ble_eq_true rfl) (fun z2 T2 I2 L2 R2 h2 => ?_)
      obtain ⟨rfl, rfl, rfl, rfl, rfl⟩ := h2
      refine r_if_ne d_X8_as_5 (by omega) (fun c5 => ?_) (fun c5 => absurd c5 (by decide))
      refine r_iload_n d_X8_as_11 rfl ?_
      refine r_iconst d_X8_as_12 ?_
      refine r_bipush d_X8_as_13 (by decide) ?_
      refine r_S3i d_X8_as_15 (w_X8_162 _ rfl) (hwi) (by decide) (Nat.le_of_ble_eq_true rfl) (fun z15 T15 I15 L15 R15 h15 => ?_)
      obtain ⟨rfl, rfl, rfl, rfl, rfl⟩ := h15
      refine r_if_ne d_X8_as_18 (by omega) (fun c18 => ?_) (fun c18 => absurd c18 (by decide))
      refine r_aload_n d_X8_as_24 rfl ?_
      refine r_getr d_X8_as_25 f_X8_57 (tt_139 _ _) (by decide) rfl (rr_139_20 _) ?_
      refine r_iload_n d_X8_as_28 rfl ?_
      refine r_ialdJ d_X8_as_29 (tt_154 _ _) rfl (by omega) (kk := ?_)
      rw [ek]
      refine r_istore_n d_X8_as_30 (by decide) ?_
      refine r_iload_n d_X8_as_31 rfl ?_
      refine r_if_eq d_X8_as_32 (by omega) (fun c32 => ?_) (fun c32 => ?_)
      · refine r_iload_n d_X8_as_55 rfl ?_
        refine r_goto d_X8_as_56 ?_
        refine r_iret d_X8_as_60 rfl ?_
        first
        | exact fin _ (by rw [if_pos (by rw [decide_eq_true_iff]; omega)])
        | exact fin _ (by rw [if_neg (by rw [decide_eq_true_iff]; omega)])
      · refine r_iload_n d_X8_as_35 rfl ?_
        refine r_iload_n d_X8_as_36 rfl ?_
        refine r_icmp_eq d_X8_as_37 (by omega) (by omega) (fun c37 => ?_) (fun c37 => ?_)
        · refine r_iload_n d_X8_as_55 rfl ?_
          refine r_goto d_X8_as_56 ?_
          refine r_iret d_X8_as_60 rfl ?_
          first
          | exact fin _ (by rw [if_pos (by rw [decide_eq_true_iff]; omega)])
          | exact fin _ (by rw [if_neg (by rw [decide_eq_true_iff]; omega)])
        · refine r_iload_n d_X8_as_40 rfl ?_
          refine r_iconst d_X8_as_41 ?_
          refine r_icmp_ne d_X8_as_42 (by omega) (by omega) (fun c42 => ?_) (fun c42 => ?_)
          · refine r_iconst d_X8_as_59 ?_
            refine r_iret d_X8_as_60 rfl ?_
            first
            | exact fin _ (by rw [if_pos (by rw [decide_eq_true_iff]; omega)])
            | exact fin _ (by rw [if_neg (by rw [decide_eq_true_iff]; omega)])
          · refine r_iload_n d_X8_as_45 rfl ?_
            refine r_iconst d_X8_as_46 ?_
            refine r_icmp_eq d_X8_as_47 (by omega) (by omega) (fun c47 => ?_) (fun c47 => ?_)
            · refine r_iload_n d_X8_as_55 rfl ?_
              refine r_goto d_X8_as_56 ?_
              refine r_iret d_X8_as_60 rfl ?_
              first
              | exact fin _ (by rw [if_pos (by rw [decide_eq_true_iff]; omega)])
              | exact fin _ (by rw [if_neg (by rw [decide_eq_true_iff]; omega)])
            · refine r_iload_n d_X8_as_50 rfl ?_
              refine r_iconst d_X8_as_51 ?_
              refine r_icmp_ne d_X8_as_52 (by omega) (by omega) (fun c52 => ?_) (fun c52 => ?_)
              · refine r_iconst d_X8_as_59 ?_
                refine r_iret d_X8_as_60 rfl ?_
                first
                | exact fin _ (by rw [if_pos (by rw [decide_eq_true_iff]; omega)])
                | exact fin _ (by rw [if_neg (by rw [decide_eq_true_iff]; omega)])
              · refine r_iload_n d_X8_as_55 rfl ?_
                refine r_goto d_X8_as_56 ?_
                refine r_iret d_X8_as_60 rfl ?_
                first
                | exact fin _ (by rw [if_pos (by rw [decide_eq_true_iff]; omega)])
                | exact fin _ (by rw [if_neg (by rw [decide_eq_true_iff]; omega)])
    · rw [if_neg k2] at hwi ⊢
      refine r_aload_n d_X8_as_0 rfl ?_
      refine r_iload_n d_X8_as_1 rfl ?_
      refine r_V1i d_X8_as_2 (w_X8_250 _ rfl) (tt_139 _ _) rfl rfl (hru) (by decide) (Nat.le_of_ble_eq_true rfl) (fun z2 T2 I2 L2 R2 h2 => ?_)
      obtain ⟨rfl, rfl, rfl, rfl, rfl⟩ := h2
      refine r_if_ne d_X8_as_5 (by omega) (fun c5 => ?_) (fun c5 => absurd c5 (by decide))
      refine r_iload_n d_X8_as_11 rfl ?_
      refine r_iconst d_X8_as_12 ?_
      refine r_bipush d_X8_as_13 (by decide) ?_
      refine r_S3i d_X8_as_15 (w_X8_162 _ rfl) (hwi) (by decide) (Nat.le_of_ble_eq_true rfl) (fun z15 T15 I15 L15 R15 h15 => ?_)
      obtain ⟨rfl, rfl, rfl, rfl, rfl⟩ := h15
      refine r_if_ne d_X8_as_18 (by omega) (fun c18 => absurd c18 (by decide)) (fun c18 => ?_)
      refine r_bipush d_X8_as_21 (by decide) ?_
      refine r_iret d_X8_as_23 rfl ?_
      exact ⟨_, rfl, rfl, same_rf⟩
  · rw [if_neg k1] at hru ⊢
    refine r_aload_n d_X8_as_0 rfl ?_
    refine r_iload_n d_X8_as_1 rfl ?_
    refine r_V1i d_X8_as_2 (w_X8_250 _ rfl) (tt_139 _ _) rfl rfl (hru) (by decide) (Nat.le_of_ble_eq_true rfl) (fun z2 T2 I2 L2 R2 h2 => ?_)
    obtain ⟨rfl, rfl, rfl, rfl, rfl⟩ := h2
    refine r_if_ne d_X8_as_5 (by omega) (fun c5 => absurd c5 (by decide)) (fun c5 => ?_)
    refine r_bipush d_X8_as_8 (by decide) ?_
    refine r_iret d_X8_as_10 rfl ?_
    exact ⟨_, rfl, rfl, same_rf⟩
theorem x_howMany (hM : MS σ ℓ nr nw ng tl ukd unn utr utw I) {what : Int} (hw : i32 what) : Mc g 1 m_X8_howMany 0 0 [vr 139, vi what] (TT Ls tl) I L (RR tl) (qI fun z T' I' L' R' => z = cntS σ nr nw ng tl.length (I 139 23) (I 139 25) what ∧ same (TT Ls tl) I L (RR tl) T' I' L' R') := by
  refine Mc_of rfl (Nat.le_of_ble_eq_true rfl) ?_
  obtain ⟨hV, h3, hcan, hA, hX, hl, hwm, hN, hR⟩ := id hM
  obtain ⟨Q, hQ⟩ : ∃ Q : sQ, Q = (qI fun z T' I' L' R' => z = cntS σ nr nw ng tl.length (I 139 23) (I 139 25) what ∧ same (TT Ls tl) I L (RR tl) T' I' L' R') := ⟨_, rfl⟩
  have fin : ∀ z : Int, z = cntS σ nr nw ng tl.length (I 139 23) (I 139 25) what → Q (some (vi z)) (TT Ls tl) I L (RR tl) := fun z h => by rw [hQ]; exact ⟨_, rfl, h, same_rf⟩
  unfold cntS at fin
  rw [← hQ]
  have k0 : what = 0 → Cp g 1 m_X8_howMany 0 0 Q 48 [(0, vr 139), (1, vi what)] [] (TT Ls tl) I L (RR tl) := by
    intro h
    refine r_aload_n d_X8_howMany_48 rfl ?_
    refine r_geti d_X8_howMany_49 f_X8_232 (tt_139 _ _) (by decide) (by decide) ?_
    refine r_iret d_X8_howMany_52 rfl ?_
    exact fin _ (by rw [if_pos (by omega)]; exact hX.1)
  have k1 : what = 1 → Cp g 1 m_X8_howMany 0 0 Q 53 [(0, vr 139), (1, vi what)] [] (TT Ls tl) I L (RR tl) := by
    intro h
    refine r_aload_n d_X8_howMany_53 rfl ?_
    refine r_geti d_X8_howMany_54 f_X8_235 (tt_139 _ _) (by decide) (by decide) ?_
    refine r_iret d_X8_howMany_57 rfl ?_
    exact fin _ (by rw [if_neg (by omega), if_pos (by omega)]; exact hwm)
  have k2 : what = 2 → Cp g 1 m_X8_howMany 0 0 Q 58 [(0, vr 139), (1, vi what)] [] (TT Ls tl) I L (RR tl) := by
    intro h
    refine r_aload_n d_X8_howMany_58 rfl ?_
    refine r_geti d_X8_howMany_59 f_X8_238 (tt_139 _ _) (by decide) (by decide) ?_
    refine r_iret d_X8_howMany_62 rfl ?_
    exact fin _ (by rw [if_neg (by omega), if_neg (by omega), if_pos (by omega)]; exact hX.2.1)
  have k3 : what = 3 → Cp g 1 m_X8_howMany 0 0 Q 63 [(0, vr 139), (1, vi what)] [] (TT Ls tl) I L (RR tl) := by
    intro h
    refine r_aload_n d_X8_howMany_63 rfl ?_
    refine r_geti d_X8_howMany_64 f_X8_247 (tt_139 _ _) (by decide) (by decide) ?_
    refine r_iret d_X8_howMany_67 rfl ?_
    exact fin _ (by rw [if_neg (by omega), if_neg (by omega), if_neg (by omega), if_pos (by omega)]; exact hR.1)
  have k4 : what = 4 → Cp g 1 m_X8_howMany 0 0 Q 68 [(0, vr 139), (1, vi what)] [] (TT Ls tl) I L (RR tl) := by
    intro h
    refine r_aload_n d_X8_howMany_68 rfl ?_
    refine r_geti d_X8_howMany_69 f_X8_159 (tt_139 _ _) (by decide) (by decide) ?_
    refine r_iret d_X8_howMany_72 rfl ?_
    exact fin _ (by rw [if_neg (by omega), if_neg (by omega), if_neg (by omega), if_neg (by omega), if_pos (by omega)])
  have k5 : what = 5 → Cp g 1 m_X8_howMany 0 0 Q 73 [(0, vr 139), (1, vi what)] [] (TT Ls tl) I L (RR tl) := by
    intro h
    refine r_aload_n d_X8_howMany_73 rfl ?_
    refine r_V0i d_X8_howMany_74 (w_X8_268 _ rfl) (tt_139 _ _) rfl rfl (x_chanceMany hV hX) (by decide) (Nat.le_of_ble_eq_true rfl) (fun z74 T74 I74 L74 R74 h74 => ?_)
    obtain ⟨rfl, rfl, rfl, rfl, rfl⟩ := h74
    refine r_iret d_X8_howMany_77 rfl ?_
    exact fin _ (by rw [if_neg (by omega), if_neg (by omega), if_neg (by omega), if_neg (by omega), if_neg (by omega), if_pos (by omega)])
  have k6 : what = 6 → Cp g 1 m_X8_howMany 0 0 Q 78 [(0, vr 139), (1, vi what)] [] (TT Ls tl) I L (RR tl) := by
    intro h
    refine r_aload_n d_X8_howMany_78 rfl ?_
    refine r_V0i d_X8_howMany_79 (w_X8_462 _ rfl) (tt_139 _ _) rfl rfl (x_lateMany hV hX) (by decide) (Nat.le_of_ble_eq_true rfl) (fun z79 T79 I79 L79 R79 h79 => ?_)
    obtain ⟨rfl, rfl, rfl, rfl, rfl⟩ := h79
    refine r_iret d_X8_howMany_82 rfl ?_
    exact fin _ (by rw [if_neg (by omega), if_neg (by omega), if_neg (by omega), if_neg (by omega), if_neg (by omega), if_neg (by omega), if_pos (by omega)])
  have k7 : what = 7 → Cp g 1 m_X8_howMany 0 0 Q 83 [(0, vr 139), (1, vi what)] [] (TT Ls tl) I L (RR tl) := by
    intro h
    refine r_aload_n d_X8_howMany_83 rfl ?_
    refine r_geti d_X8_howMany_84 f_X8_435 (tt_139 _ _) (by decide) (by decide) ?_
    refine r_iret d_X8_howMany_87 rfl ?_
    exact fin _ (by rw [if_neg (by omega), if_neg (by omega), if_neg (by omega), if_neg (by omega), if_neg (by omega), if_neg (by omega), if_neg (by omega), if_pos (by omega)])
  refine r_iload_n d_X8_howMany_0 rfl ?_
  refine r_sw d_X8_howMany_1 (by exact hw) (fun h1 h2 => ?_) (fun h => ?_)
  · have hc : what = 0 ∨ what = 1 ∨ what = 2 ∨ what = 3 ∨ what = 4 ∨ what = 5 ∨ what = 6 ∨ what = 7 := by omega
    rcases hc with hc | hc | hc | hc | hc | hc | hc | hc
    · rw [show (what - 0).toNat = 0 by omega]; exact k0 hc
    · rw [show (what - 0).toNat = 1 by omega]; exact k1 hc
    · rw [show (what - 0).toNat = 2 by omega]; exact k2 hc
    · rw [show (what - 0).toNat = 3 by omega]; exact k3 hc
    · rw [show (what - 0).toNat = 4 by omega]; exact k4 hc
    · rw [show (what - 0).toNat = 5 by omega]; exact k5 hc
    · rw [show (what - 0).toNat = 6 by omega]; exact k6 hc
    · rw [show (what - 0).toNat = 7 by omega]; exact k7 hc
  · refine r_bipush d_X8_howMany_88 (by decide) ?_
    refine r_iret d_X8_howMany_90 rfl ?_
    exact fin _ (by rw [if_neg (by omega), if_neg (by omega), if_neg (by omega), if_neg (by omega), if_neg (by omega), if_neg (by omega), if_neg (by omega), if_neg (by omega)])
theorem x_count (hM : MS σ ℓ nr nw ng tl ukd unn utr utw I) {what : Int} (hw : i32 what) : Mc g 2 m_X8_count 0 0 [vr 139, vi what] (TT Ls tl) I L (RR tl) (qI fun z T' I' L' R' => z = cntS σ nr nw ng tl.length (I 139 23) (I 139 25) what ∧ same (TT Ls tl) I L (RR tl) T' I' L' R') := by
  refine Mc_of rfl (Nat.le_of_ble_eq_true rfl) ?_
  refine r_aload_n d_X8_count_0 rfl ?_
  refine r_iload_n d_X8_count_1 rfl ?_
  refine r_V1i d_X8_count_2 (w_X8_465 _ rfl) (tt_139 _ _) rfl rfl (x_howMany hM hw) (by decide) (Nat.le_of_ble_eq_true rfl) (fun z2 T2 I2 L2 R2 h2 => ?_)
  obtain ⟨rfl, rfl, rfl, rfl, rfl⟩ := h2
  refine r_iret d_X8_count_5 rfl ?_
  exact ⟨_, rfl, rfl, same_rf⟩
theorem MS_off {I' : sI} (h : MS σ ℓ nr nw ng tl ukd unn utr utw I) (f : ∀ a, 140 ≤ a → a < 186 → (a ≤ 156 ∨ a = 173 ∨ a = 183) → I' a = I a) (fk : ∀ k, (k = 0 ∨ k = 8 ∨ k = 12 ∨ k = 17 ∨ k = 19) → I' 139 k = I 139 k) : MS σ ℓ nr nw ng tl ukd unn utr utw I' := by
  obtain ⟨hV, h3, hcan, hA, hX, hl, hw, hN, hR⟩ := h
  refine ⟨hV, h3, hcan, hA, MX_fr hX (fun a h1 h2 => f a (by omega) (by omega) (by omega)) (fk 0 (by omega)) (fk 12 (by omega)), by rw [fk 17 (by omega)]; exact hl, by rw [fk 8 (by omega)]; exact hw, KNM_fr hN (f 173 (by decide) (by decide) (by decide)) (f 183 (by decide) (by decide) (by decide)), ?_⟩
  obtain ⟨r1, r2, r3⟩ := hR
  refine ⟨by rw [fk 19 (by omega)]; exact r1, r2, fun q hq => ?_⟩
  rw [f 154 (by decide) (by decide) (by decide), f 155 (by decide) (by decide) (by decide), f 156 (by decide) (by decide) (by decide)]
  exact r3 q hq
theorem x_image (hM : MS σ ℓ nr nw ng tl ukd unn utr utw I) : Mc g 1 m_X8_image 0 0 [vr 139] (TT Ls tl) I L (RR tl) (qI fun z T' I' L' R' => T' = TT Ls tl ∧ R' = RR tl ∧ L' = L ∧ (∀ a, a ≠ 139 → a ≠ 158 → I' a = I a) ∧ (∀ k, k ≠ 26 → k ≠ 27 → k ≠ 28 → I' 139 k = I 139 k) ∧ MS σ ℓ nr nw ng tl ukd unn utr utw I' ∧ (¬ 0 < nr → z = -103 ∧ I' = I) ∧ (0 < nr → z = (ltn σ nr : Int) ∧ I' 139 26 = 1 ∧ I' 139 27 = I 139 18 ∧ I' 139 28 = ℓ ∧ ∀ r, r < nr → I' 158 r = σ 6 r)) := by
  refine Mc_of rfl (Nat.le_of_ble_eq_true rfl) ?_
  obtain ⟨hV, h3, hcan, hA, hX, hl, hwm, hN, hR⟩ := id hM
  have h8 := hV.1.1
  have e0 := hX.1
  by_cases k2 : 0 < nr
  · obtain ⟨I0, hI0⟩ : ∃ I0 : sI, I0 = up2 (up2 (up2 I 139 26 1) 139 27 (I 139 18)) 139 28 ℓ := ⟨_, rfl⟩
    have fa : ∀ a, a ≠ 139 → I0 a = I a := fun a h => by rw [hI0, up2_ne _ _ h, up2_ne _ _ h, up2_ne _ _ h]
    have fk : ∀ k, k ≠ 26 → k ≠ 27 → k ≠ 28 → I0 139 k = I 139 k := fun k h1 h2 h3 => by rw [hI0, up2_nj _ _ h3, up2_nj _ _ h2, up2_nj _ _ h1]
    have g26 : I0 139 26 = 1 := by rw [hI0, up2_nj _ _ (by decide), up2_nj _ _ (by decide), up2_at]
    have g27 : I0 139 27 = I 139 18 := by rw [hI0, up2_nj _ _ (by decide), up2_at]
    have g28 : I0 139 28 = ℓ := by rw [hI0, up2_at]
    obtain ⟨Q, hQ⟩ : ∃ Q : sQ, Q = (qI fun z T' I' L' R' => T' = TT Ls tl ∧ R' = RR tl ∧ L' = L ∧ (∀ a, a ≠ 139 → a ≠ 158 → I' a = I a) ∧ (∀ k, k ≠ 26 → k ≠ 27 → k ≠ 28 → I' 139 k = I 139 k) ∧ MS σ ℓ nr nw ng tl ukd unn utr utw I' ∧ (¬ 0 < nr → z = -103 ∧ I' = I) ∧ (0 < nr → z = (ltn σ nr : Int) ∧ I' 139 26 = 1 ∧ I' 139 27 = I 139 18 ∧ I' 139 28 = ℓ ∧ ∀ r, r < nr → I' 158 r = σ 6 r)) := ⟨_, rfl⟩
    rw [← hQ]
    have loop : ∀ (k b : Nat) (I1 : sI), b + k = nr → (∀ a, a ≠ 158 → I1 a = I0 a) → (∀ r, r < b → I1 158 r = σ 6 r) → Cp g 1 m_X8_image 0 0 Q 33 [(0, vr 139), (1, vi (b : Int))] [] (TT Ls tl) I1 L (RR tl) := by
      intro k
      induction k with
      | zero =>
        intro b I1 hbk f hr
        have e31 : I1 139 0 = (nr : Int) := by rw [f 139 (by decide), fk 0 (by decide) (by decide) (by decide)]; exact e0
        have hX2 : MS σ ℓ nr nw ng tl ukd unn utr utw I1 := MS_off hM (fun a h1 h2 h3 => by rw [f a (by omega), fa a (by omega)]) (fun k hk => by rw [f 139 (by decide), fk k (by omega) (by omega) (by omega)])
        refine r_iload_n d_X8_image_33 rfl ?_
        refine r_aload_n d_X8_image_34 rfl ?_
        refine r_geti d_X8_image_35 f_X8_232 (tt_139 _ _) (by decide) (by decide) ?_
        refine r_icmp_ge d_X8_image_38 (by omega) (by omega) (fun c38 => ?_) (fun c38 => absurd c38 (by omega))
        refine r_aload_n d_X8_image_59 rfl ?_
        refine r_V0i d_X8_image_60 (w_X8_462 _ rfl) (tt_139 _ _) rfl rfl (x_lateMany hV hX2.2.2.2.2.1) (by decide) (Nat.le_of_ble_eq_true rfl) (fun z60 T60 I60 L60 R60 h60 => ?_)
        obtain ⟨rfl, rfl, rfl, rfl, rfl⟩ := h60
        refine r_iret d_X8_image_63 rfl ?_
        rw [hQ]
        refine ⟨_, rfl, rfl, rfl, rfl, fun a h1 h2 => ?_, fun k h1 h2 h3 => ?_, hX2, fun h => absurd k2 h, fun _ => ⟨rfl, ?_, ?_, ?_, fun r hr2 => hr r (by omega)⟩⟩
        · rw [f a h2]; exact fa a h1
        · rw [f 139 (by decide)]; exact fk k h1 h2 h3
        · rw [f 139 (by decide)]; exact g26
        · rw [f 139 (by decide)]; exact g27
        · rw [f 139 (by decide)]; exact g28
      | succ k ih =>
        intro b I1 hbk f hr
        have e31 : I1 139 0 = (nr : Int) := by rw [f 139 (by decide), fk 0 (by decide) (by decide) (by decide)]; exact e0
        have e6 : I1 146 b = σ 6 b := by rw [f 146 (by omega), fa 146 (by decide)]; exact hX.2.2.1 b (by omega) 6 (by omega)
        refine r_iload_n d_X8_image_33 rfl ?_
        refine r_aload_n d_X8_image_34 rfl ?_
        refine r_geti d_X8_image_35 f_X8_232 (tt_139 _ _) (by decide) (by decide) ?_
        refine r_icmp_ge d_X8_image_38 (by omega) (by omega) (fun c38 => absurd c38 (by omega)) (fun c38 => ?_)
        refine r_aload_n d_X8_image_41 rfl ?_
        refine r_getr d_X8_image_42 f_X8_70 (tt_139 _ _) (by decide) rfl (rr_139_29 _) ?_
        refine r_iload_n d_X8_image_45 rfl ?_
        refine r_aload_n d_X8_image_46 rfl ?_
        refine r_getr d_X8_image_47 f_X8_28 (tt_139 _ _) (by decide) rfl (rr_139_7 _) ?_
        refine r_iload_n d_X8_image_50 rfl ?_
        refine r_ialdJ d_X8_image_51 (tt_146 _ _) rfl (by omega) (kk := ?_)
        rw [e6]
        refine r_iastJ d_X8_image_52 (tt_158 _ _) (by omega) rfl (by omega) (kk := ?_)
        refine r_iinc d_X8_image_53 rfl (by decide) ?_
        refine r_goto d_X8_image_56 ?_
        refine CpL (ih (b + 1) _ (by omega) (fun a ha => ?_) (fun r hr2 => ?_)) (by repeat (first | exact trivial | refine ⟨rfl, ?_⟩))
        · rw [up2_ne _ _ ha]; exact f a ha
        · by_cases e : r = b
          · rw [e]; exact up2_at _ _ _ _
          · rw [up2_nj _ _ e]; exact hr r (by omega)
    have e18 : up2 I 139 26 1 139 18 = I 139 18 := up2_nj _ _ (by decide)
    have e17 : up2 (up2 I 139 26 1) 139 27 (I 139 18) 139 17 = ℓ := by rw [up2_nj _ _ (by decide), up2_nj _ _ (by decide)]; exact hl
    refine r_aload_n d_X8_image_0 rfl ?_
    refine r_geti d_X8_image_1 f_X8_232 (tt_139 _ _) (by decide) (by decide) ?_
    refine r_if_ne d_X8_image_4 (by omega) (fun c4 => ?_) (fun c4 => absurd c4 (by omega))
    refine r_aload_n d_X8_image_10 rfl ?_
    refine r_iconst d_X8_image_11 ?_
    refine r_puti d_X8_image_12 f_X8_453 (tt_139 _ _) (by decide) (Or.inr ⟨rfl, by omega⟩) ?_
    refine r_aload_n d_X8_image_15 rfl ?_
    refine r_aload_n d_X8_image_16 rfl ?_
    refine r_geti d_X8_image_17 f_X8_241 (tt_139 _ _) (by decide) (by decide) ?_
    rw [e18]
    refine r_puti d_X8_image_20 f_X8_456 (tt_139 _ _) (by decide) (Or.inl rfl) ?_
    refine r_aload_n d_X8_image_23 rfl ?_
    refine r_aload_n d_X8_image_24 rfl ?_
    refine r_geti d_X8_image_25 f_X8_53 (tt_139 _ _) (by decide) (by decide) ?_
    rw [e17]
    refine r_puti d_X8_image_28 f_X8_459 (tt_139 _ _) (by decide) (Or.inl rfl) ?_
    refine r_iconst d_X8_image_31 ?_
    refine r_istore_n d_X8_image_32 (by decide) ?_
    rw [← hI0]
    exact CpL (loop nr 0 I0 (by omega) (fun _ _ => rfl) (fun r h => absurd h (by omega))) (by repeat (first | exact trivial | refine ⟨rfl, ?_⟩))
  · skip
    refine r_aload_n d_X8_image_0 rfl ?_
    refine r_geti d_X8_image_1 f_X8_232 (tt_139 _ _) (by decide) (by decide) ?_
    refine r_if_ne d_X8_image_4 (by omega) (fun c4 => absurd c4 (by omega)) (fun c4 => ?_)
    refine r_bipush d_X8_image_7 (by decide) ?_
    refine r_iret d_X8_image_9 rfl ?_
    exact ⟨_, rfl, rfl, rfl, rfl, fun _ _ _ => rfl, fun _ _ _ _ => rfl, hM, fun _ => ⟨rfl, rfl⟩, fun h => absurd h k2⟩
theorem x_restore (hM : MS σ ℓ nr nw ng tl ukd unn utr utw I) {kept ℓi : Int} {xi : Nat → Int} (hk1 : I 139 26 = 0 ∨ I 139 26 = 1) (hk2 : (0 ≤ I 139 27 ∧ I 139 27 ≤ 10000) ∧ (0 ≤ I 139 18 ∧ I 139 18 ≤ 10000)) (hk : kept = 0 ↔ ¬ (I 139 26 = 1 ∧ I 139 27 = I 139 18)) (hx : kept ≠ 0 → I 139 28 = ℓi ∧ (1 ≤ ℓi ∧ ℓi ≤ 6) ∧ (∀ r, r < nr → I 158 r = xi r ∧ -1 ≤ xi r ∧ xi r ≤ 44) ∧ ∀ r, nr ≤ r → xi r = -1) : Mc g 1 m_X8_restore 0 0 [vr 139] (TT Ls tl) I L (RR tl) (ALM σ nr nw ng Ls tl ukd unn utr utw I L (aRestore σ ℓ nr kept xi ℓi)) := by
  refine Mc_of rfl (Nat.le_of_ble_eq_true rfl) ?_
  obtain ⟨hV, h3, hcan, hA, hX, hl, hwm, hN, hR⟩ := id hM
  have h8 := hV.1.1
  have e0 := hX.1
  by_cases k2 : kept = 0
  · have hno := hk.mp k2
    have no : ALM σ nr nw ng Ls tl ukd unn utr utw I L (aRestore σ ℓ nr kept xi ℓi) (some (vi (-103))) (TT Ls tl) I L (RR tl) := ⟨_, rfl, rfl, rfl, rfl, fun _ _ _ _ => rfl, fun _ _ => rfl, σ 6, ℓ, by rw [lateS_id]; exact hM, fun _ => ⟨rfl, rfl, rfl⟩, fun h => absurd k2 h⟩
    refine r_aload_n d_X8_restore_0 rfl ?_
    refine r_geti d_X8_restore_1 f_X8_453 (tt_139 _ _) (by decide) (by decide) ?_
    refine r_if_eq d_X8_restore_4 (by omega) (fun c4 => ?_) (fun c4 => ?_)
    · refine r_bipush d_X8_restore_18 (by decide) ?_
      refine r_iret d_X8_restore_20 rfl ?_
      exact no
    · refine r_aload_n d_X8_restore_7 rfl ?_
      refine r_geti d_X8_restore_8 f_X8_456 (tt_139 _ _) (by decide) (by decide) ?_
      refine r_aload_n d_X8_restore_11 rfl ?_
      refine r_geti d_X8_restore_12 f_X8_241 (tt_139 _ _) (by decide) (by decide) ?_
      refine r_icmp_eq d_X8_restore_15 (by omega) (by omega) (fun c15 => absurd c15 (by omega)) (fun c15 => ?_)
      refine r_bipush d_X8_restore_18 (by decide) ?_
      refine r_iret d_X8_restore_20 rfl ?_
      exact no
  · obtain ⟨y1, y2, y3, y4⟩ := hx k2
    have hyes : I 139 26 = 1 ∧ I 139 27 = I 139 18 := Classical.byContradiction (fun h => k2 (hk.mpr h))
    obtain ⟨Q, hQ⟩ : ∃ Q : sQ, Q = ALM σ nr nw ng Ls tl ukd unn utr utw I L (aRestore σ ℓ nr kept xi ℓi) := ⟨_, rfl⟩
    rw [← hQ]
    have loop : ∀ (k b : Nat) (I1 : sI), b + k = nr → (∀ a, a ≠ 146 → I1 a = up2 I 139 17 ℓi a) → (∀ r, r < b → I1 146 r = xi r) → Cp g 1 m_X8_restore 0 0 Q 31 [(0, vr 139), (1, vi (b : Int))] [] (TT Ls tl) I1 L (RR tl) := by
      intro k
      induction k with
      | zero =>
        intro b I1 hbk f hr
        have hb : b = nr := by omega
        have e31 : I1 139 0 = (nr : Int) := by rw [f 139 (by decide), up2_nj _ _ (by decide)]; exact e0
        have hX2 : MS (lateS σ xi) ℓi nr nw ng tl ukd unn utr utw (up2 (up2 I1 173 0 0) 173 1 0) := by
          refine MS_late hM (fun r hr => (y3 r hr).2) y4 y2 (fun a h1 h2 h3 => ?_) (fun k hk => ?_) (fun r hr2 => ?_) ?_ ?_ ?_
          · rw [up2_ne _ _ h3, up2_ne _ _ h3, f a h2, up2_ne _ _ h1]
          · rw [up2_ne _ _ (by decide), up2_ne _ _ (by decide), f 139 (by decide), up2_nj _ _ hk]
          · rw [up2_ne _ _ (by decide), up2_ne _ _ (by decide)]; exact hr r (by omega)
          · rw [up2_ne _ _ (by decide), up2_ne _ _ (by decide), f 139 (by decide), up2_at]
          · rw [up2_nj _ _ (by decide), up2_at]
          · rw [up2_at]
        refine r_iload_n d_X8_restore_31 rfl ?_
        refine r_aload_n d_X8_restore_32 rfl ?_
        refine r_geti d_X8_restore_33 f_X8_232 (tt_139 _ _) (by decide) (by decide) ?_
        refine r_icmp_ge d_X8_restore_36 (by omega) (by omega) (fun c36 => ?_) (fun c36 => absurd c36 (by omega))
        refine r_aload_n d_X8_restore_57 rfl ?_
        refine r_V0v d_X8_restore_58 (w_X8_244 _ rfl) (tt_139 _ _) rfl rfl (x_change) (by decide) (Nat.le_of_ble_eq_true rfl) (fun T58 I58 L58 R58 h58 => ?_)
        obtain ⟨rfl, rfl, rfl, rfl⟩ := h58
        refine r_aload_n d_X8_restore_61 rfl ?_
        refine r_V0i d_X8_restore_62 (w_X8_462 _ rfl) (tt_139 _ _) rfl rfl (x_lateMany hX2.1 hX2.2.2.2.2.1) (by decide) (Nat.le_of_ble_eq_true rfl) (fun z62 T62 I62 L62 R62 h62 => ?_)
        obtain ⟨rfl, rfl, rfl, rfl, rfl⟩ := h62
        refine r_iret d_X8_restore_65 rfl ?_
        rw [hQ]
        refine ⟨_, rfl, rfl, rfl, rfl, fun a h1 h2 h3 => ?_, fun k hk => ?_, xi, ℓi, hX2, fun h => absurd h k2, fun _ => ⟨rfl, rfl, rfl⟩⟩
        · rw [up2_ne _ _ h3, up2_ne _ _ h3, f a h2, up2_ne _ _ h1]
        · rw [up2_ne _ _ (by decide), up2_ne _ _ (by decide), f 139 (by decide), up2_nj _ _ hk]
      | succ k ih =>
        intro b I1 hbk f hr
        have e31 : I1 139 0 = (nr : Int) := by rw [f 139 (by decide), up2_nj _ _ (by decide)]; exact e0
        have e6 : I1 158 b = xi b := by rw [f 158 (by decide), up2_ne _ _ (by decide)]; exact (y3 b (by omega)).1
        refine r_iload_n d_X8_restore_31 rfl ?_
        refine r_aload_n d_X8_restore_32 rfl ?_
        refine r_geti d_X8_restore_33 f_X8_232 (tt_139 _ _) (by decide) (by decide) ?_
        refine r_icmp_ge d_X8_restore_36 (by omega) (by omega) (fun c36 => absurd c36 (by omega)) (fun c36 => ?_)
        refine r_aload_n d_X8_restore_39 rfl ?_
        refine r_getr d_X8_restore_40 f_X8_28 (tt_139 _ _) (by decide) rfl (rr_139_7 _) ?_
        refine r_iload_n d_X8_restore_43 rfl ?_
        refine r_aload_n d_X8_restore_44 rfl ?_
        refine r_getr d_X8_restore_45 f_X8_70 (tt_139 _ _) (by decide) rfl (rr_139_29 _) ?_
        refine r_iload_n d_X8_restore_48 rfl ?_
        refine r_ialdJ d_X8_restore_49 (tt_158 _ _) rfl (by omega) (kk := ?_)
        rw [e6]
        refine r_iastJ d_X8_restore_50 (tt_146 _ _) (by omega) rfl (by omega) (kk := ?_)
        refine r_iinc d_X8_restore_51 rfl (by decide) ?_
        refine r_goto d_X8_restore_54 ?_
        refine CpL (ih (b + 1) _ (by omega) (fun a ha => ?_) (fun r hr2 => ?_)) (by repeat (first | exact trivial | refine ⟨rfl, ?_⟩))
        · rw [up2_ne _ _ ha]; exact f a ha
        · by_cases e : r = b
          · rw [e]; exact up2_at _ _ _ _
          · rw [up2_nj _ _ e]; exact hr r (by omega)
    refine r_aload_n d_X8_restore_0 rfl ?_
    refine r_geti d_X8_restore_1 f_X8_453 (tt_139 _ _) (by decide) (by decide) ?_
    refine r_if_eq d_X8_restore_4 (by omega) (fun c4 => absurd c4 (by omega)) (fun c4 => ?_)
    refine r_aload_n d_X8_restore_7 rfl ?_
    refine r_geti d_X8_restore_8 f_X8_456 (tt_139 _ _) (by decide) (by decide) ?_
    refine r_aload_n d_X8_restore_11 rfl ?_
    refine r_geti d_X8_restore_12 f_X8_241 (tt_139 _ _) (by decide) (by decide) ?_
    refine r_icmp_eq d_X8_restore_15 (by omega) (by omega) (fun c15 => ?_) (fun c15 => absurd c15 (by omega))
    refine r_aload_n d_X8_restore_21 rfl ?_
    refine r_aload_n d_X8_restore_22 rfl ?_
    refine r_geti d_X8_restore_23 f_X8_459 (tt_139 _ _) (by decide) (by decide) ?_
    rw [y1]
    refine r_puti d_X8_restore_26 f_X8_53 (tt_139 _ _) (by decide) (Or.inl rfl) ?_
    refine r_iconst d_X8_restore_29 ?_
    refine r_istore_n d_X8_restore_30 (by decide) ?_
    exact CpL (loop nr 0 _ (by omega) (fun _ _ => rfl) (fun r h => absurd h (by omega))) (by repeat (first | exact trivial | refine ⟨rfl, ?_⟩))
end X9p
