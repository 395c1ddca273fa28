def gfS (n nr ng W : Nat) (rule way how guest what : Int) : Int := if 0 ≤ rule ∧ rule < n then (if 0 < nr then (if 0 ≤ guest ∧ guest < ng then (if (0 ≤ way ∧ way < W) ∧ (how = 0 ∨ how = 1) ∧ (0 ≤ what ∧ what < 3) then 0 else -102) else -101) else -103) else -101
def aGiven (σ : Sg) (ℓ : Int) (nr nw ng : Nat) (tl : List Nat) (ukd unn : Nat → Int) (utr utw : Nat → Nat → Nat) (rule way how guest what z : Int) : Prop := (gfS tl.length nr ng (2 ^ chn σ nr) rule way how guest what ≠ 0 → z = gfS tl.length nr ng (2 ^ chn σ nr) rule way how guest what) ∧ (gfS tl.length nr ng (2 ^ chn σ nr) rule way how guest what = 0 → ∃ od c ro, ODS σ ℓ (-1) nr nw ng (ukd rule.toNat) (unn rule.toNat) od ∧ DC σ ℓ (-1) nr nw ng (ukd rule.toNat) od (utr rule.toNat) (utw rule.toNat) (tl.getD rule.toNat 0) way.toNat how c ro ∧ z = if what = 0 then ro guest.toNat else wkS σ (planX σ ℓ (-1) (fun r => pmS σ r ng) nr nw (ukd rule.toNat) od (utr rule.toNat) (utw rule.toNat) (tl.getD rule.toNat 0) way.toNat 3) guest.toNat (ro guest.toNat) * (if what = 1 then 1 else σ 13 guest.toNat))
section C53
variable {g : sG} {Ls : Nat} {tl : List Nat} {I L : sI} {σ : Sg} {ℓ : Int} {nr nw ng : Nat} {ukd unn : Nat → Int} {utr utw : Nat → Nat → Nat}
theorem c_given (hX : XS σ ℓ nr nw ng tl ukd unn utr utw I L) {rule way how guest what : Int} (hr : i32 rule) (hwy : i32 way) (hh : i32 how) (hgu : i32 guest) (hw : i32 what) : Mc g 12 m_X7_given 0 0 [vr 3, vi rule, vi way, vi how, vi guest, vi what] (TT Ls tl) I L (RR tl) (AQ σ ℓ nr nw ng Ls tl ukd unn utr utw I L (aGiven σ ℓ nr nw ng tl ukd unn utr utw rule way how guest what)) := by
  refine Mc_of rfl (Nat.le_of_ble_eq_true rfl) ?_
  obtain ⟨hB, hR⟩ := id hX
  obtain ⟨b1, b2, b3, b4, b5, b6, b7, b8⟩ := id hB
  obtain ⟨v1, v2, v3, v4, v5, v6, v7⟩ := id b1
  have hpw := p2 v7
  have hc1 := c_isRule (g := g) (Ls := Ls) (tl := tl) (I := I) (L := L) hR.1 hR.2.1 hr
  have hc2 := c_isHoused (g := g) (Ls := Ls) (tl := tl) (I := I) (L := L) (by have := b3.1; omega)
  have hc3 := c_isGuest (g := g) (Ls := Ls) (tl := tl) (I := I) (L := L) b3.2.2.1 v3 hgu
  rw [b3.1] at hc2
  obtain ⟨D, hD⟩ : ∃ D, D = gfS tl.length nr ng (2 ^ chn σ nr) rule way how guest what := ⟨_, rfl⟩
  have no : ∀ z : Int, z = D → z ≠ 0 → AQ σ ℓ nr nw ng Ls tl ukd unn utr utw I L (aGiven σ ℓ nr nw ng tl ukd unn utr utw rule way how guest what) (some (vi z)) (TT Ls tl) I L (RR tl) := fun z h1 h2 => XS_same hX ⟨fun _ => by rw [h1, hD], fun h => absurd (by rw [h1, hD]; exact h) h2⟩
  unfold gfS at hD
  by_cases k1 : 0 ≤ rule ∧ rule < tl.length
  · rw [if_pos k1] at hc1 hD
    by_cases k2 : 0 < nr
    · rw [if_pos (by omega)] at hc2
      rw [if_pos k2] at hD
      by_cases k3 : 0 ≤ guest ∧ guest < ng
      · rw [if_pos k3] at hc3 hD
        by_cases k4 : (0 ≤ way ∧ way < ((2 ^ chn σ nr : Nat) : Int)) ∧ (how = 0 ∨ how = 1) ∧ (0 ≤ what ∧ what < 3)
        · rw [if_pos k4] at hD
          have hz : gfS tl.length nr ng (2 ^ chn σ nr) rule way how guest what = 0 := by unfold gfS; rw [if_pos k1, if_pos k2, if_pos k3, if_pos k4]
          obtain ⟨q, rfl⟩ : ∃ q : Nat, rule = (q : Int) := ⟨rule.toNat, by omega⟩
          obtain ⟨wy, rfl⟩ : ∃ wy : Nat, way = (wy : Int) := ⟨way.toNat, by omega⟩
          obtain ⟨u, rfl⟩ : ∃ u : Nat, guest = (u : Int) := ⟨guest.toNat, by omega⟩
          have hq : q < tl.length := by omega
          have hu : u < ng := by omega
          have hU := hR.2.2 q hq
          have hql := hU.1
          obtain ⟨hn, hnn⟩ : ∃ hn : Nat, unn q = (hn : Int) := ⟨(unn q).toNat, by have := hU.2.2.2.2.2.1; omega⟩
          have hhn : hn < 2 := by have := hU.2.2.2.2.2.1; omega
          have ek : I (186 + 3 * q) 0 = ukd q := hU.2.2.1
          have en : I (186 + 3 * q) 1 = (hn : Int) := by rw [← hnn]; exact hU.2.2.2.1
          have hk := hU.2.2.2.2.1
          refine r_aload_n d_X7_given_0 rfl ?_
          refine r_iload_n d_X7_given_1 rfl ?_
          refine r_V1i d_X7_given_2 (w_X7_114 _ rfl) (tt_3 _ _) rfl rfl (hc1) (by decide) (Nat.le_of_ble_eq_true rfl) (fun z2 T2 I2 L2 R2 h2 => ?_)
          obtain ⟨rfl, rfl, rfl, rfl, rfl⟩ := h2
          refine r_if_ne d_X7_given_5 (by omega) (fun c5 => ?_) (fun c5 => absurd c5 (by decide))
          refine r_aload_n d_X7_given_11 rfl ?_
          refine r_V0i d_X7_given_12 (w_X7_157 _ rfl) (tt_3 _ _) rfl rfl (hc2) (by decide) (Nat.le_of_ble_eq_true rfl) (fun z12 T12 I12 L12 R12 h12 => ?_)
          obtain ⟨rfl, rfl, rfl, rfl, rfl⟩ := h12
          refine r_if_ne d_X7_given_15 (by omega) (fun c15 => ?_) (fun c15 => absurd c15 (by decide))
          refine r_aload_n d_X7_given_21 rfl ?_
          refine r_iload d_X7_given_22 rfl ?_
          refine r_V1i d_X7_given_24 (w_X7_138 _ rfl) (tt_3 _ _) rfl rfl (hc3) (by decide) (Nat.le_of_ble_eq_true rfl) (fun z24 T24 I24 L24 R24 h24 => ?_)
          obtain ⟨rfl, rfl, rfl, rfl, rfl⟩ := h24
          refine r_if_ne d_X7_given_27 (by omega) (fun c27 => ?_) (fun c27 => absurd c27 (by decide))
          refine r_aload_n d_X7_given_33 rfl ?_
          refine r_iload_n d_X7_given_34 rfl ?_
          refine r_V1i d_X7_given_35 (w_X7_150 _ rfl) (tt_3 _ _) rfl rfl (c_isWay b1 b3 hwy) (by decide) (Nat.le_of_ble_eq_true rfl) (fun z35 T35 I35 L35 R35 h35 => ?_)
          obtain ⟨rfl, rfl, rfl, rfl, rfl⟩ := h35
          refine r_if_eq d_X7_given_38 (by split <;> omega) (fun c38 => absurd c38 (by rw [if_pos k4.1]; decide)) (fun c38 => ?_)
          refine r_iload_n d_X7_given_41 rfl ?_
          refine r_S1i d_X7_given_42 (w_X7_183 _ rfl) (c_isGiving hh) (by decide) (Nat.le_of_ble_eq_true rfl) (fun z42 T42 I42 L42 R42 h42 => ?_)
          obtain ⟨rfl, rfl, rfl, rfl, rfl⟩ := h42
          refine r_if_eq d_X7_given_45 (by split <;> omega) (fun c45 => absurd c45 (by rw [if_pos k4.2.1]; decide)) (fun c45 => ?_)
          refine r_iload d_X7_given_48 rfl ?_
          refine r_iconst d_X7_given_50 ?_
          refine r_S2i d_X7_given_51 (w_X7_124 _ rfl) (c_isBelow hw (by omega)) (by decide) (Nat.le_of_ble_eq_true rfl) (fun z51 T51 I51 L51 R51 h51 => ?_)
          obtain ⟨rfl, rfl, rfl, rfl, rfl⟩ := h51
          refine r_if_ne d_X7_given_54 (by split <;> omega) (fun c54 => ?_) (fun c54 => absurd c54 (by rw [if_pos k4.2.2]; decide))
          refine r_aload_n d_X7_given_60 rfl ?_
          refine r_getr d_X7_given_61 f_X7_28 (tt_3 _ _) (by decide) rfl (rr_3_3 _) ?_
          refine r_iload_n d_X7_given_64 rfl ?_
          refine r_aaldJ d_X7_given_65 (tt_62 _ _) (by decide) rfl (by have := hR.2.1; omega) (rrr_62 (by exact hq)) (kk := ?_)
          refine r_astore d_X7_given_66 (by decide) ?_
          refine r_aload_n d_X7_given_68 rfl ?_
          refine r_aload d_X7_given_69 rfl ?_
          refine r_aload_n d_X7_given_71 rfl ?_
          refine r_getr d_X7_given_72 f_X7_53 (tt_3 _ _) (by decide) rfl (rr_3_7 _) ?_
          refine r_aload d_X7_given_75 rfl ?_
          refine r_geti d_X7_given_77 f_X7_160 (ttr_0 hql) (by decide) (by decide) ?_
          refine r_aload d_X7_given_80 rfl ?_
          refine r_geti d_X7_given_82 f_X7_163 (ttr_0 hql) (by decide) (by decide) ?_
          rw [ek, en]
          refine r_V2r d_X7_given_85 (w_X7_166 _ rfl) (tt_122 _ _) rfl rfl (c_orderFor b1 b2 k2 b3 b4 b5 b7 b6 hk hhn) (by decide) (Nat.le_of_ble_eq_true rfl) (fun z85 T85 I85 L85 R85 h85 => ?_)
          obtain ⟨rfl, rfl, f1, f2, k, c1, c2⟩ := h85
          obtain ⟨hB1, od, hod, hO⟩ := order_post (Ls := Ls) (tl := tl) hB hhn f1 f2 k c1 c2
          obtain ⟨⟨on, t1, -⟩, -⟩ := id hO
          rw [← hnn] at hod
          refine r_iload_n d_X7_given_88 rfl ?_
          refine r_iload_n d_X7_given_89 rfl ?_
          refine r_V4i d_X7_given_90 (w_X7_186 _ rfl) (tt_3 _ _) rfl rfl (c_dayCost (way := wy) (how := how) hB1 k2 (UX_frb hU f1 (by omega)) hO (by omega) k4.2.1) (by decide) (Nat.le_of_ble_eq_true rfl) (fun z90 T90 I90 L90 R90 h90 => ?_)
          obtain ⟨rfl, rfl, y1, y2, y3, y4⟩ := h90
          have ff : frb 70 138 I I90 := frb_tr (frb_wd f1 (by omega) (by omega)) (frb_wd y1 (by omega) (by omega))
          have hB2 := XB_day hB1 (fun a ha => y1 a (by omega)) (KNX_frb k (fun a ha => y1 a (by omega))) y2
          have hDV := DV_plan (ab := -1) (pm := fun r => pmS σ r ng) (kd := ukd q) (tr := utr q) (tw := utw q) (tn := tl.getD q 0) (way := wy) b2 (ODS_lt hod)
          have hro := GVX_ro y4 v1 hu
          have hrd : ∀ r, r < nr → I90 76 r = planX σ ℓ (-1) (fun r => pmS σ r ng) nr nw (ukd q) od (utr q) (utw q) (tl.getD q 0) wy 3 r ∧ -1 ≤ planX σ ℓ (-1) (fun r => pmS σ r ng) nr nw (ukd q) od (utr q) (utw q) (tl.getD q 0) wy 3 r ∧ planX σ ℓ (-1) (fun r => pmS σ r ng) nr nw (ukd q) od (utr q) (utw q) (tl.getD q 0) wy 3 r ≤ 44 := fun r hr => ⟨(y3.1 r hr).2.2.2, (hDV.1 r hr).2.2.2⟩
          have e13 : I90 (23 + u) 3 = σ 13 u := HXg hB2.2.2.1 hu (by omega)
          have fin : ∀ z : Int, z = (if what = 0 then I90 78 u else wkS σ (planX σ ℓ (-1) (fun r => pmS σ r ng) nr nw (ukd q) od (utr q) (utw q) (tl.getD q 0) wy 3) u (I90 78 u) * (if what = 1 then 1 else σ 13 u)) → AQ σ ℓ nr nw ng Ls tl ukd unn utr utw I L (aGiven σ ℓ nr nw ng tl ukd unn utr utw (q : Int) (wy : Int) how (u : Int) what) (some (vi z)) (TT Ls tl) I90 L90 (RR tl) := fun z h => by
            refine ⟨_, rfl, rfl, rfl, ff, frb_tr f2 y2, ⟨hB2, RX_frb hR ff (by omega) (by omega)⟩, fun h => absurd hz h, fun _ => ⟨od, z90, I90 78, ?_, ?_, ?_⟩⟩
            · rw [Int.toNat_natCast]; exact hod
            · rw [Int.toNat_natCast, Int.toNat_natCast]; exact y4
            · rw [Int.toNat_natCast, Int.toNat_natCast, Int.toNat_natCast]; exact h
          refine r_pop d_X7_given_93 rfl ?_
          refine r_iload d_X7_given_94 rfl ?_
          refine r_if_ne d_X7_given_96 (by omega) (fun c96 => ?_) (fun c96 => ?_)
          · refine r_aload_n d_X7_given_110 rfl ?_
            refine r_getr d_X7_given_111 f_X7_44 (tt_3 _ _) (by decide) rfl (rr_3_6 _) ?_
            refine r_aload_n d_X7_given_114 rfl ?_
            refine r_getr d_X7_given_115 f_X7_37 (tt_3 _ _) (by decide) rfl (rr_3_5 _) ?_
            refine r_getr d_X7_given_118 f_X7_180 (tt_63 _ _) (by decide) rfl (rr_63_11 _) ?_
            refine r_iload d_X7_given_121 rfl ?_
            refine r_V2i d_X7_given_123 (w_X7_193 _ rfl) (tt_77 _ _) rfl rfl (c_waitOf b1 hB2.2.2.1 hu hro hrd) (by decide) (Nat.le_of_ble_eq_true rfl) (fun z123 T123 I123 L123 R123 h123 => ?_)
            obtain ⟨rfl, rfl, rfl, rfl, rfl⟩ := h123
            refine r_istore d_X7_given_126 (by decide) ?_
            refine r_iload d_X7_given_128 rfl ?_
            refine r_iconst d_X7_given_130 ?_
            refine r_icmp_ne d_X7_given_131 (by omega) (by omega) (fun c131 => ?_) (fun c131 => ?_)
            · refine r_iload d_X7_given_139 rfl ?_
              refine r_aload_n d_X7_given_141 rfl ?_
              refine r_getr d_X7_given_142 f_X7_19 (tt_3 _ _) (by decide) rfl (rr_3_1 _) ?_
              refine r_getr d_X7_given_145 f_X7_141 (tt_8 _ _) (by decide) rfl (rr_8_2 _) ?_
              refine r_iload d_X7_given_148 rfl ?_
              refine r_aaldJ d_X7_given_150 (tt_22 _ _) (by decide) rfl (by omega) (rr2_22 _ (by omega)) (kk := ?_)
              refine r_iconst d_X7_given_151 ?_
              refine r_ialdJ (j := 3) d_X7_given_152 (tt2_22 _ _ (by omega)) rfl (by omega) (kk := ?_)
              refine r_imul d_X7_given_153 ?_
              refine r_iret d_X7_given_154 rfl ?_
              first
              | exact fin _ (by rw [if_neg (by omega), if_pos (by omega), Int.mul_one])
              | exact fin _ (by rw [if_neg (by omega), if_neg (by omega), e13])
            · refine r_iload d_X7_given_134 rfl ?_
              refine r_goto d_X7_given_136 ?_
              refine r_iret d_X7_given_154 rfl ?_
              first
              | exact fin _ (by rw [if_neg (by omega), if_pos (by omega), Int.mul_one])
              | exact fin _ (by rw [if_neg (by omega), if_neg (by omega), e13])
          · refine r_aload_n d_X7_given_99 rfl ?_
            refine r_getr d_X7_given_100 f_X7_44 (tt_3 _ _) (by decide) rfl (rr_3_6 _) ?_
            refine r_getr d_X7_given_103 f_X7_190 (tt_77 _ _) (by decide) rfl (rr_77_2 _) ?_
            refine r_iload d_X7_given_106 rfl ?_
            refine r_ialdJ d_X7_given_108 (tt_78 _ _) rfl (by omega) (kk := ?_)
            refine r_iret d_X7_given_109 rfl ?_
            exact fin _ (by rw [if_pos (by omega)])
        · rw [if_neg k4] at hD
          have e := no (-102) hD.symm (by decide)
          refine r_aload_n d_X7_given_0 rfl ?_
          refine r_iload_n d_X7_given_1 rfl ?_
          refine r_V1i d_X7_given_2 (w_X7_114 _ rfl) (tt_3 _ _) rfl rfl (hc1) (by decide) (Nat.le_of_ble_eq_true rfl) (fun z2 T2 I2 L2 R2 h2 => ?_)
          obtain ⟨rfl, rfl, rfl, rfl, rfl⟩ := h2
          refine r_if_ne d_X7_given_5 (by omega) (fun c5 => ?_) (fun c5 => absurd c5 (by decide))
          refine r_aload_n d_X7_given_11 rfl ?_
          refine r_V0i d_X7_given_12 (w_X7_157 _ rfl) (tt_3 _ _) rfl rfl (hc2) (by decide) (Nat.le_of_ble_eq_true rfl) (fun z12 T12 I12 L12 R12 h12 => ?_)
          obtain ⟨rfl, rfl, rfl, rfl, rfl⟩ := h12
          refine r_if_ne d_X7_given_15 (by omega) (fun c15 => ?_) (fun c15 => absurd c15 (by decide))
          refine r_aload_n d_X7_given_21 rfl ?_
          refine r_iload d_X7_given_22 rfl ?_
          refine r_V1i d_X7_given_24 (w_X7_138 _ rfl) (tt_3 _ _) rfl rfl (hc3) (by decide) (Nat.le_of_ble_eq_true rfl) (fun z24 T24 I24 L24 R24 h24 => ?_)
          obtain ⟨rfl, rfl, rfl, rfl, rfl⟩ := h24
          refine r_if_ne d_X7_given_27 (by omega) (fun c27 => ?_) (fun c27 => absurd c27 (by decide))
          refine r_aload_n d_X7_given_33 rfl ?_
          refine r_iload_n d_X7_given_34 rfl ?_
          refine r_V1i d_X7_given_35 (w_X7_150 _ rfl) (tt_3 _ _) rfl rfl (c_isWay b1 b3 hwy) (by decide) (Nat.le_of_ble_eq_true rfl) (fun z35 T35 I35 L35 R35 h35 => ?_)
          obtain ⟨rfl, rfl, rfl, rfl, rfl⟩ := h35
          refine r_if_eq d_X7_given_38 (by split <;> omega) (fun c38 => ?_) (fun c38 => ?_)
          · refine r_bipush d_X7_given_57 (by decide) ?_
            refine r_iret d_X7_given_59 rfl ?_
            exact e
          · have q1 : 0 ≤ way ∧ way < ((2 ^ chn σ nr : Nat) : Int) := Classical.byContradiction (fun q => by rw [if_neg q] at c38; omega)
            refine r_iload_n d_X7_given_41 rfl ?_
            refine r_S1i d_X7_given_42 (w_X7_183 _ rfl) (c_isGiving hh) (by decide) (Nat.le_of_ble_eq_true rfl) (fun z42 T42 I42 L42 R42 h42 => ?_)
            obtain ⟨rfl, rfl, rfl, rfl, rfl⟩ := h42
            refine r_if_eq d_X7_given_45 (by split <;> omega) (fun c45 => ?_) (fun c45 => ?_)
            · refine r_bipush d_X7_given_57 (by decide) ?_
              refine r_iret d_X7_given_59 rfl ?_
              exact e
            · have q2 : how = 0 ∨ how = 1 := Classical.byContradiction (fun q => by rw [if_neg q] at c45; omega)
              refine r_iload d_X7_given_48 rfl ?_
              refine r_iconst d_X7_given_50 ?_
              refine r_S2i d_X7_given_51 (w_X7_124 _ rfl) (c_isBelow hw (by omega)) (by decide) (Nat.le_of_ble_eq_true rfl) (fun z51 T51 I51 L51 R51 h51 => ?_)
              obtain ⟨rfl, rfl, rfl, rfl, rfl⟩ := h51
              refine r_if_ne d_X7_given_54 (by split <;> omega) (fun c54 => absurd c54 (by rw [if_neg (fun q => k4 ⟨q1, q2, q⟩)]; decide)) (fun c54 => ?_)
              refine r_bipush d_X7_given_57 (by decide) ?_
              refine r_iret d_X7_given_59 rfl ?_
              exact e
      · rw [if_neg k3] at hc3 hD
        have e := no (-101) hD.symm (by decide)
        refine r_aload_n d_X7_given_0 rfl ?_
        refine r_iload_n d_X7_given_1 rfl ?_
        refine r_V1i d_X7_given_2 (w_X7_114 _ rfl) (tt_3 _ _) rfl rfl (hc1) (by decide) (Nat.le_of_ble_eq_true rfl) (fun z2 T2 I2 L2 R2 h2 => ?_)
        obtain ⟨rfl, rfl, rfl, rfl, rfl⟩ := h2
        refine r_if_ne d_X7_given_5 (by omega) (fun c5 => ?_) (fun c5 => absurd c5 (by decide))
        refine r_aload_n d_X7_given_11 rfl ?_
        refine r_V0i d_X7_given_12 (w_X7_157 _ rfl) (tt_3 _ _) rfl rfl (hc2) (by decide) (Nat.le_of_ble_eq_true rfl) (fun z12 T12 I12 L12 R12 h12 => ?_)
        obtain ⟨rfl, rfl, rfl, rfl, rfl⟩ := h12
        refine r_if_ne d_X7_given_15 (by omega) (fun c15 => ?_) (fun c15 => absurd c15 (by decide))
        refine r_aload_n d_X7_given_21 rfl ?_
        refine r_iload d_X7_given_22 rfl ?_
        refine r_V1i d_X7_given_24 (w_X7_138 _ rfl) (tt_3 _ _) rfl rfl (hc3) (by decide) (Nat.le_of_ble_eq_true rfl) (fun z24 T24 I24 L24 R24 h24 => ?_)
        obtain ⟨rfl, rfl, rfl, rfl, rfl⟩ := h24
        refine r_if_ne d_X7_given_27 (by omega) (fun c27 => absurd c27 (by decide)) (fun c27 => ?_)
        refine r_bipush d_X7_given_30 (by decide) ?_
        refine r_iret d_X7_given_32 rfl ?_
        exact e
    · rw [if_neg (by omega)] at hc2
      rw [if_neg k2] at hD
      have e := no (-103) hD.symm (by decide)
      refine r_aload_n d_X7_given_0 rfl ?_
      refine r_iload_n d_X7_given_1 rfl ?_
      refine r_V1i d_X7_given_2 (w_X7_114 _ rfl) (tt_3 _ _) rfl rfl (hc1) (by decide) (Nat.le_of_ble_eq_true rfl) (fun z2 T2 I2 L2 R2 h2 => ?_)
      obtain ⟨rfl, rfl, rfl, rfl, rfl⟩ := h2
      refine r_if_ne d_X7_given_5 (by omega) (fun c5 => ?_) (fun c5 => absurd c5 (by decide))
      refine r_aload_n d_X7_given_11 rfl ?_
      refine r_V0i d_X7_given_12 (w_X7_157 _ rfl) (tt_3 _ _) rfl rfl (hc2) (by decide) (Nat.le_of_ble_eq_true rfl) (fun z12 T12 I12 L12 R12 h12 => ?_)
      obtain ⟨rfl, rfl, rfl, rfl, rfl⟩ := h12
      refine r_if_ne d_X7_given_15 (by omega) (fun c15 => absurd c15 (by decide)) (fun c15 => ?_)
      refine r_bipush d_X7_given_18 (by decide) ?_
      refine r_iret d_X7_given_20 rfl ?_
      exact e
  · rw [if_neg k1] at hc1 hD
    have e := no (-101) hD.symm (by decide)
    refine r_aload_n d_X7_given_0 rfl ?_
    refine r_iload_n d_X7_given_1 rfl ?_
    refine r_V1i d_X7_given_2 (w_X7_114 _ rfl) (tt_3 _ _) rfl rfl (hc1) (by decide) (Nat.le_of_ble_eq_true rfl) (fun z2 T2 I2 L2 R2 h2 => ?_)
    obtain ⟨rfl, rfl, rfl, rfl, rfl⟩ := h2
    refine r_if_ne d_X7_given_5 (by omega) (fun c5 => absurd c5 (by decide)) (fun c5 => ?_)
    refine r_bipush d_X7_given_8 (by decide) ?_
    refine r_iret d_X7_given_10 rfl ?_
    exact e
end C53
