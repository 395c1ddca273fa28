def dfS (n nr W : Nat) (rule way room what : Int) : Int := if 0 ≤ rule ∧ rule < n then (if 0 < nr then (if 0 ≤ room ∧ room < nr then (if (0 ≤ way ∧ way < W) ∧ (0 ≤ what ∧ what < 3) then 0 else -102) else -101) else -103) else -101
def aDone (σ : Sg) (ℓ : Int) (nr nw ng : Nat) (tl : List Nat) (ukd unn : Nat → Int) (utr utw : Nat → Nat → Nat) (rule way room what z : Int) : Prop := (dfS tl.length nr (2 ^ chn σ nr) rule way room what ≠ 0 → z = dfS tl.length nr (2 ^ chn σ nr) rule way room what) ∧ (dfS tl.length nr (2 ^ chn σ nr) rule way room what = 0 → ∃ od, ODS σ ℓ (-1) nr nw ng (ukd rule.toNat) (unn rule.toNat) od ∧ z = planX σ ℓ (-1) (fun r => pmS σ r ng) nr nw (ukd rule.toNat) od (utr rule.toNat) (utw rule.toNat) (tl.getD rule.toNat 0) way.toNat (if what = 0 then 1 else if what = 1 then 2 else 3) room.toNat)
section C52
variable {g : sG} {Ls : Nat} {tl : List Nat} {I L : sI} {σ : Sg} {ℓ : Int} {nr nw ng : Nat} {ukd unn : Nat → Int} {utr utw : Nat → Nat → Nat}
theorem c_done (hX : XS σ ℓ nr nw ng tl ukd unn utr utw I L) {rule way room what : Int} (hr : i32 rule) (hwy : i32 way) (hro : i32 room) (hw : i32 what) : Mc g 12 m_X7_done 0 0 [vr 3, vi rule, vi way, vi room, vi what] (TT Ls tl) I L (RR tl) (AQ σ ℓ nr nw ng Ls tl ukd unn utr utw I L (aDone σ ℓ nr nw ng tl ukd unn utr utw rule way room what)) := by
  refine Mc_of rfl (Nat.le_of_ble_eq_true rfl) ?_
  obtain ⟨hB, hR⟩ := id hX
  obtain ⟨b1, b2, b3, b4, b5, b6, b7, b8⟩ := id hB
  obtain ⟨v1, v2, v3, v4, v5, v6, v7⟩ := id b1
  have hpw := p2 v7
  have hc1 := c_isRule (g := g) (Ls := Ls) (tl := tl) (I := I) (L := L) hR.1 hR.2.1 hr
  have hc2 := c_isHoused (g := g) (Ls := Ls) (tl := tl) (I := I) (L := L) (by have := b3.1; omega)
  have hc3 := c_isRoom (g := g) (Ls := Ls) (tl := tl) (I := I) (L := L) hro (by have := b3.1; omega)
  rw [b3.1] at hc2 hc3
  obtain ⟨D, hD⟩ : ∃ D, D = dfS tl.length nr (2 ^ chn σ nr) rule way room what := ⟨_, rfl⟩
  have no : ∀ z : Int, z = D → z ≠ 0 → AQ σ ℓ nr nw ng Ls tl ukd unn utr utw I L (aDone σ ℓ nr nw ng tl ukd unn utr utw rule way room what) (some (vi z)) (TT Ls tl) I L (RR tl) := fun z h1 h2 => XS_same hX ⟨fun _ => by rw [h1, hD], fun h => absurd (by rw [h1, hD]; exact h) h2⟩
  unfold dfS at hD
  by_cases k1 : 0 ≤ rule ∧ rule < tl.length
  · rw [if_pos k1] at hc1 hD
    by_cases k2 : 0 < nr
    · rw [if_pos (by omega)] at hc2
      rw [if_pos k2] at hD
      by_cases k3 : 0 ≤ room ∧ room < nr
      · rw [if_pos k3] at hc3 hD
        by_cases k4 : (0 ≤ way ∧ way < ((2 ^ chn σ nr : Nat) : Int)) ∧ (0 ≤ what ∧ what < 3)
        · rw [if_pos k4] at hD
          have hz : dfS tl.length nr (2 ^ chn σ nr) rule way room what = 0 := by unfold dfS; rw [if_pos k1, if_pos k2, if_pos k3, if_pos k4]
          obtain ⟨q, rfl⟩ : ∃ q : Nat, rule = (q : Int) := ⟨rule.toNat, by omega⟩
          obtain ⟨wy, rfl⟩ : ∃ wy : Nat, way = (wy : Int) := ⟨way.toNat, by omega⟩
          obtain ⟨ρ, rfl⟩ : ∃ ρ : Nat, room = (ρ : Int) := ⟨room.toNat, by omega⟩
          have hq : q < tl.length := by omega
          have hρ : ρ < nr := by omega
          have hU := hR.2.2 q hq
          have hql := hU.1
          obtain ⟨hn, hnn⟩ : ∃ hn : Nat, unn q = (hn : Int) := ⟨(unn q).toNat, by have := hU.2.2.2.2.2.1; omega⟩
          have hhn : hn < 2 := by have := hU.2.2.2.2.2.1; omega
          have ek : I (186 + 3 * q) 0 = ukd q := hU.2.2.1
          have en : I (186 + 3 * q) 1 = (hn : Int) := by rw [← hnn]; exact hU.2.2.2.1
          have hk := hU.2.2.2.2.1
          refine r_aload_n d_X7_done_0 rfl ?_
          refine r_iload_n d_X7_done_1 rfl ?_
          refine r_V1i d_X7_done_2 (w_X7_114 _ rfl) (tt_3 _ _) rfl rfl (hc1) (by decide) (Nat.le_of_ble_eq_true rfl) (fun z2 T2 I2 L2 R2 h2 => ?_)
          obtain ⟨rfl, rfl, rfl, rfl, rfl⟩ := h2
          refine r_if_ne d_X7_done_5 (by omega) (fun c5 => ?_) (fun c5 => absurd c5 (by decide))
          refine r_aload_n d_X7_done_11 rfl ?_
          refine r_V0i d_X7_done_12 (w_X7_157 _ rfl) (tt_3 _ _) rfl rfl (hc2) (by decide) (Nat.le_of_ble_eq_true rfl) (fun z12 T12 I12 L12 R12 h12 => ?_)
          obtain ⟨rfl, rfl, rfl, rfl, rfl⟩ := h12
          refine r_if_ne d_X7_done_15 (by omega) (fun c15 => ?_) (fun c15 => absurd c15 (by decide))
          refine r_aload_n d_X7_done_21 rfl ?_
          refine r_iload_n d_X7_done_22 rfl ?_
          refine r_V1i d_X7_done_23 (w_X7_121 _ rfl) (tt_3 _ _) rfl rfl (hc3) (by decide) (Nat.le_of_ble_eq_true rfl) (fun z23 T23 I23 L23 R23 h23 => ?_)
          obtain ⟨rfl, rfl, rfl, rfl, rfl⟩ := h23
          refine r_if_ne d_X7_done_26 (by omega) (fun c26 => ?_) (fun c26 => absurd c26 (by decide))
          refine r_aload_n d_X7_done_32 rfl ?_
          refine r_iload_n d_X7_done_33 rfl ?_
          refine r_V1i d_X7_done_34 (w_X7_150 _ rfl) (tt_3 _ _) rfl rfl (c_isWay b1 b3 hwy) (by decide) (Nat.le_of_ble_eq_true rfl) (fun z34 T34 I34 L34 R34 h34 => ?_)
          obtain ⟨rfl, rfl, rfl, rfl, rfl⟩ := h34
          refine r_if_eq d_X7_done_37 (by split <;> omega) (fun c37 => absurd c37 (by rw [if_pos k4.1]; decide)) (fun c37 => ?_)
          refine r_iload d_X7_done_40 rfl ?_
          refine r_iconst d_X7_done_42 ?_
          refine r_S2i d_X7_done_43 (w_X7_124 _ rfl) (c_isBelow hw (by omega)) (by decide) (Nat.le_of_ble_eq_true rfl) (fun z43 T43 I43 L43 R43 h43 => ?_)
          obtain ⟨rfl, rfl, rfl, rfl, rfl⟩ := h43
          refine r_if_ne d_X7_done_46 (by split <;> omega) (fun c46 => ?_) (fun c46 => absurd c46 (by rw [if_pos k4.2]; decide))
          refine r_aload_n d_X7_done_52 rfl ?_
          refine r_getr d_X7_done_53 f_X7_28 (tt_3 _ _) (by decide) rfl (rr_3_3 _) ?_
          refine r_iload_n d_X7_done_56 rfl ?_
          refine r_aaldJ d_X7_done_57 (tt_62 _ _) (by decide) rfl (by have := hR.2.1; omega) (rrr_62 (by exact hq)) (kk := ?_)
          refine r_astore d_X7_done_58 (by decide) ?_
          refine r_aload_n d_X7_done_60 rfl ?_
          refine r_getr d_X7_done_61 f_X7_37 (tt_3 _ _) (by decide) rfl (rr_3_5 _) ?_
          refine r_aload d_X7_done_64 rfl ?_
          refine r_aload_n d_X7_done_66 rfl ?_
          refine r_getr d_X7_done_67 f_X7_53 (tt_3 _ _) (by decide) rfl (rr_3_7 _) ?_
          refine r_aload d_X7_done_70 rfl ?_
          refine r_geti d_X7_done_72 f_X7_160 (ttr_0 hql) (by decide) (by decide) ?_
          refine r_aload d_X7_done_75 rfl ?_
          refine r_geti d_X7_done_77 f_X7_163 (ttr_0 hql) (by decide) (by decide) ?_
          rw [ek, en]
          refine r_V2r d_X7_done_80 (w_X7_166 _ rfl) (tt_122 _ _) rfl rfl (c_orderFor b1 b2 k2 b3 b4 b5 b7 b6 hk hhn) (by decide) (Nat.le_of_ble_eq_true rfl) (fun z80 T80 I80 L80 R80 h80 => ?_)
          obtain ⟨rfl, rfl, f1, f2, k, c1, c2⟩ := h80
          obtain ⟨hB1, od, hod, hO⟩ := order_post (Ls := Ls) (tl := tl) hB hhn f1 f2 k c1 c2
          obtain ⟨⟨on, t1, t2, t3⟩, o2, o3⟩ := id hO
          rw [← hnn] at hod
          obtain ⟨g1, g2, g3, g4, g5, g6, g7, g8⟩ := id hB1
          have hPX : PX (fun r => pmS σ r ng) nr I80 := fun r hr => by
            have := pmS_bd (r := r) v6 ng (Nat.le_refl _)
            exact ⟨g4.2.2.1 r hr, this.1, this.2⟩
          refine r_iload_n d_X7_done_83 rfl ?_
          refine r_V3v d_X7_done_84 (w_X7_170 _ rfl) (tt_63 _ _) rfl rfl (c_plan (way := wy) g2 g1 g3 g5 hPX (UX_frb hU f1 (by omega)) t1 ⟨t2, t3⟩ (by omega) o3 (by omega)) (by decide) (Nat.le_of_ble_eq_true rfl) (fun T84 I84 L84 R84 h84 => ?_)
          obtain ⟨⟨rfl, fp, rfl, rfl⟩, hD2⟩ := h84
          have ff : frb 70 138 I I84 := frb_tr (frb_wd f1 (by omega) (by omega)) (frb_wd fp (by omega) (by omega))
          obtain ⟨-, d1, d2, d3⟩ := hD2.1 ρ hρ
          have fin : ∀ z : Int, z = planX σ ℓ (-1) (fun r => pmS σ r ng) nr nw (ukd q) od (utr q) (utw q) (tl.getD q 0) wy (if what = 0 then 1 else if what = 1 then 2 else 3) ρ → AQ σ ℓ nr nw ng Ls tl ukd unn utr utw I L (aDone σ ℓ nr nw ng tl ukd unn utr utw (q : Int) (wy : Int) (ρ : Int) what) (some (vi z)) (TT Ls tl) I84 L80 (RR tl) := fun z h => by
            refine ⟨_, rfl, rfl, rfl, ff, f2, ⟨XB_day hB1 (fun a ha => fp a (by omega)) (KNX_frb k (fun a ha => fp a (by omega))) frb_rf, RX_frb hR ff (by omega) (by omega)⟩, fun h => absurd hz h, fun _ => ⟨od, ?_, ?_⟩⟩
            · rw [Int.toNat_natCast]; exact hod
            · rw [Int.toNat_natCast, Int.toNat_natCast, Int.toNat_natCast]; exact h
          refine r_iload d_X7_done_87 rfl ?_
          refine r_if_ne d_X7_done_89 (by omega) (fun c89 => ?_) (fun c89 => ?_)
          · refine r_iload d_X7_done_104 rfl ?_
            refine r_iconst d_X7_done_106 ?_
            refine r_icmp_ne d_X7_done_107 (by omega) (by omega) (fun c107 => ?_) (fun c107 => ?_)
            · have ef : (if what = 0 then 1 else if what = 1 then 2 else 3 : Nat) = 3 := by rw [if_neg (by omega), if_neg (by omega)]
              rw [ef] at fin
              refine r_aload_n d_X7_done_122 rfl ?_
              refine r_getr d_X7_done_123 f_X7_37 (tt_3 _ _) (by decide) rfl (rr_3_5 _) ?_
              refine r_getr d_X7_done_126 f_X7_180 (tt_63 _ _) (by decide) rfl (rr_63_11 _) ?_
              refine r_iload_n d_X7_done_129 rfl ?_
              refine r_ialdJ d_X7_done_130 (tt_76 _ _) rfl (by omega) (kk := ?_)
              refine r_iret d_X7_done_131 rfl ?_
              first
              | exact fin _ d1
              | exact fin _ d2
              | exact fin _ d3
            · have ef : (if what = 0 then 1 else if what = 1 then 2 else 3 : Nat) = 2 := by rw [if_neg (by omega), if_pos (by omega)]
              rw [ef] at fin
              refine r_aload_n d_X7_done_110 rfl ?_
              refine r_getr d_X7_done_111 f_X7_37 (tt_3 _ _) (by decide) rfl (rr_3_5 _) ?_
              refine r_getr d_X7_done_114 f_X7_177 (tt_63 _ _) (by decide) rfl (rr_63_10 _) ?_
              refine r_iload_n d_X7_done_117 rfl ?_
              refine r_ialdJ d_X7_done_118 (tt_75 _ _) rfl (by omega) (kk := ?_)
              refine r_goto d_X7_done_119 ?_
              refine r_iret d_X7_done_131 rfl ?_
              first
              | exact fin _ d1
              | exact fin _ d2
              | exact fin _ d3
          · have ef : (if what = 0 then 1 else if what = 1 then 2 else 3 : Nat) = 1 := by rw [if_pos (by omega)]
            rw [ef] at fin
            refine r_aload_n d_X7_done_92 rfl ?_
            refine r_getr d_X7_done_93 f_X7_37 (tt_3 _ _) (by decide) rfl (rr_3_5 _) ?_
            refine r_getr d_X7_done_96 f_X7_174 (tt_63 _ _) (by decide) rfl (rr_63_9 _) ?_
            refine r_iload_n d_X7_done_99 rfl ?_
            refine r_ialdJ d_X7_done_100 (tt_74 _ _) rfl (by omega) (kk := ?_)
            refine r_goto d_X7_done_101 ?_
            refine r_iret d_X7_done_131 rfl ?_
            first
            | exact fin _ d1
            | exact fin _ d2
            | exact fin _ d3
        · rw [if_neg k4] at hD
          have e := no (-102) hD.symm (by decide)
          refine r_aload_n d_X7_done_0 rfl ?_
          refine r_iload_n d_X7_done_1 rfl ?_
          refine r_V1i d_X7_done_2 (w_X7_114 _ rfl) (tt_3 _ _) rfl rfl (hc1) (by decide) (Nat.le_of_ble_eq_true rfl) (fun z2 T2 I2 L2 R2 h2 => ?_)
          obtain ⟨rfl, rfl, rfl, rfl, rfl⟩ := h2
          refine r_if_ne d_X7_done_5 (by omega) (fun c5 => ?_) (fun c5 => absurd c5 (by decide))
          refine r_aload_n d_X7_done_11 rfl ?_
          refine r_V0i d_X7_done_12 (w_X7_157 _ rfl) (tt_3 _ _) rfl rfl (hc2) (by decide) (Nat.le_of_ble_eq_true rfl) (fun z12 T12 I12 L12 R12 h12 => ?_)
          obtain ⟨rfl, rfl, rfl, rfl, rfl⟩ := h12
          refine r_if_ne d_X7_done_15 (by omega) (fun c15 => ?_) (fun c15 => absurd c15 (by decide))
          refine r_aload_n d_X7_done_21 rfl ?_
          refine r_iload_n d_X7_done_22 rfl ?_
          refine r_V1i d_X7_done_23 (w_X7_121 _ rfl) (tt_3 _ _) rfl rfl (hc3) (by decide) (Nat.le_of_ble_eq_true rfl) (fun z23 T23 I23 L23 R23 h23 => ?_)
          obtain ⟨rfl, rfl, rfl, rfl, rfl⟩ := h23
          refine r_if_ne d_X7_done_26 (by omega) (fun c26 => ?_) (fun c26 => absurd c26 (by decide))
          refine r_aload_n d_X7_done_32 rfl ?_
          refine r_iload_n d_X7_done_33 rfl ?_
          refine r_V1i d_X7_done_34 (w_X7_150 _ rfl) (tt_3 _ _) rfl rfl (c_isWay b1 b3 hwy) (by decide) (Nat.le_of_ble_eq_true rfl) (fun z34 T34 I34 L34 R34 h34 => ?_)
          obtain ⟨rfl, rfl, rfl, rfl, rfl⟩ := h34
          refine r_if_eq d_X7_done_37 (by split <;> omega) (fun c37 => ?_) (fun c37 => ?_)
          · refine r_bipush d_X7_done_49 (by decide) ?_
            refine r_iret d_X7_done_51 rfl ?_
            exact e
          · have q1 : 0 ≤ way ∧ way < ((2 ^ chn σ nr : Nat) : Int) := Classical.byContradiction (fun q => by rw [if_neg q] at c37; omega)
            refine r_iload d_X7_done_40 rfl ?_
            refine r_iconst d_X7_done_42 ?_
            refine r_S2i d_X7_done_43 (w_X7_124 _ rfl) (c_isBelow hw (by omega)) (by decide) (Nat.le_of_ble_eq_true rfl) (fun z43 T43 I43 L43 R43 h43 => ?_)
            obtain ⟨rfl, rfl, rfl, rfl, rfl⟩ := h43
            refine r_if_ne d_X7_done_46 (by split <;> omega) (fun c46 => absurd c46 (by rw [if_neg (fun q => k4 ⟨q1, q⟩)]; decide)) (fun c46 => ?_)
            refine r_bipush d_X7_done_49 (by decide) ?_
            refine r_iret d_X7_done_51 rfl ?_
            exact e
      · rw [if_neg k3] at hc3 hD
        have e := no (-101) hD.symm (by decide)
        refine r_aload_n d_X7_done_0 rfl ?_
        refine r_iload_n d_X7_done_1 rfl ?_
        refine r_V1i d_X7_done_2 (w_X7_114 _ rfl) (tt_3 _ _) rfl rfl (hc1) (by decide) (Nat.le_of_ble_eq_true rfl) (fun z2 T2 I2 L2 R2 h2 => ?_)
        obtain ⟨rfl, rfl, rfl, rfl, rfl⟩ := h2
        refine r_if_ne d_X7_done_5 (by omega) (fun c5 => ?_) (fun c5 => absurd c5 (by decide))
        refine r_aload_n d_X7_done_11 rfl ?_
        refine r_V0i d_X7_done_12 (w_X7_157 _ rfl) (tt_3 _ _) rfl rfl (hc2) (by decide) (Nat.le_of_ble_eq_true rfl) (fun z12 T12 I12 L12 R12 h12 => ?_)
        obtain ⟨rfl, rfl, rfl, rfl, rfl⟩ := h12
        refine r_if_ne d_X7_done_15 (by omega) (fun c15 => ?_) (fun c15 => absurd c15 (by decide))
        refine r_aload_n d_X7_done_21 rfl ?_
        refine r_iload_n d_X7_done_22 rfl ?_
        refine r_V1i d_X7_done_23 (w_X7_121 _ rfl) (tt_3 _ _) rfl rfl (hc3) (by decide) (Nat.le_of_ble_eq_true rfl) (fun z23 T23 I23 L23 R23 h23 => ?_)
        obtain ⟨rfl, rfl, rfl, rfl, rfl⟩ := h23
        refine r_if_ne d_X7_done_26 (by omega) (fun c26 => absurd c26 (by decide)) (fun c26 => ?_)
        refine r_bipush d_X7_done_29 (by decide) ?_
        refine r_iret d_X7_done_31 rfl ?_
        exact e
    · rw [if_neg (by omega)] at hc2
      rw [if_neg k2] at hD
      have e := no (-103) hD.symm (by decide)
      refine r_aload_n d_X7_done_0 rfl ?_
      refine r_iload_n d_X7_done_1 rfl ?_
      refine r_V1i d_X7_done_2 (w_X7_114 _ rfl) (tt_3 _ _) rfl rfl (hc1) (by decide) (Nat.le_of_ble_eq_true rfl) (fun z2 T2 I2 L2 R2 h2 => ?_)
      obtain ⟨rfl, rfl, rfl, rfl, rfl⟩ := h2
      refine r_if_ne d_X7_done_5 (by omega) (fun c5 => ?_) (fun c5 => absurd c5 (by decide))
      refine r_aload_n d_X7_done_11 rfl ?_
      refine r_V0i d_X7_done_12 (w_X7_157 _ rfl) (tt_3 _ _) rfl rfl (hc2) (by decide) (Nat.le_of_ble_eq_true rfl) (fun z12 T12 I12 L12 R12 h12 => ?_)
      obtain ⟨rfl, rfl, rfl, rfl, rfl⟩ := h12
      refine r_if_ne d_X7_done_15 (by omega) (fun c15 => absurd c15 (by decide)) (fun c15 => ?_)
      refine r_bipush d_X7_done_18 (by decide) ?_
      refine r_iret d_X7_done_20 rfl ?_
      exact e
  · rw [if_neg k1] at hc1 hD
    have e := no (-101) hD.symm (by decide)
    refine r_aload_n d_X7_done_0 rfl ?_
    refine r_iload_n d_X7_done_1 rfl ?_
    refine r_V1i d_X7_done_2 (w_X7_114 _ rfl) (tt_3 _ _) rfl rfl (hc1) (by decide) (Nat.le_of_ble_eq_true rfl) (fun z2 T2 I2 L2 R2 h2 => ?_)
    obtain ⟨rfl, rfl, rfl, rfl, rfl⟩ := h2
    refine r_if_ne d_X7_done_5 (by omega) (fun c5 => absurd c5 (by decide)) (fun c5 => ?_)
    refine r_bipush d_X7_done_8 (by decide) ?_
    refine r_iret d_X7_done_10 rfl ?_
    exact e
end C52
