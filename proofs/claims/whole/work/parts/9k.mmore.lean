section X9k
variable {g : sG} {Ls : Nat} {T : sT} {R : sR} {I L : sI} {σ δ : Sg} {ℓ ab : Int} {nr nw nW ng : Nat} {tl : List Nat} {ukd unn : Nat → Int} {utr utw : Nat → Nat → Nat}
theorem x_more (hM : MS σ ℓ nr nw ng tl ukd unn utr utw I) (h0w : 0 < nr → 0 < nw) {rule how part q : Int} (hr : i32 rule) (hh : i32 how) (hpt : i32 part) (hq : I 139 25 = q) (hq2 : 0 ≤ q ∧ q ≤ 16) : Mc g 13 m_X8_more 0 0 [vr 139, vi rule, vi how, vi part] (TT Ls tl) I L (RR tl) (AKM σ ℓ nr nw ng Ls tl ukd unn utr utw I L (aMore σ ℓ nr nw ng tl ukd unn utr utw rule how part q)) := by
  refine Mc_of rfl (Nat.le_of_ble_eq_true rfl) ?_
  obtain ⟨hV, h3, hcan, hA, hX, hl, hwm, hN, hR⟩ := id hM
  have hr2 : -2147483648 ≤ rule ∧ rule ≤ 2147483647 := hr
  have hh2 : -2147483648 ≤ how ∧ how ≤ 2147483647 := hh
  have hp2 : -2147483648 ≤ part ∧ part ≤ 2147483647 := hpt
  have h10 := p10 hV.2.2.2
  have hbr := fun (ok : Int) (ho : ok = 0 ∨ ok = 1) => x_bars (g := g) (Ls := Ls) (L := L) hM hr (way := -1) (by unfold i32; omega) ho
  have hgi := x_isGiving (g := g) (T := TT Ls tl) (I := I) (L := L) (R := RR tl) hh2
  have hwi := x_within (g := g) (T := TT Ls tl) (I := I) (L := L) (R := RR tl) (lo := 0) (hi := 1) hp2 (by omega) (by omega)
  have ref : ∀ z : Int, ofS tl.length nr rule how part q = z → z ≠ 0 → AKM σ ℓ nr nw ng Ls tl ukd unn utr utw I L (aMore σ ℓ nr nw ng tl ukd unn utr utw rule how part q) (some (vi z)) (TT Ls tl) I L (RR tl) := fun z h1 h2 => AKM_no hM hq ⟨fun _ => ⟨h1.symm, rfl⟩, fun h => absurd (h1.symm.trans h) h2⟩
  obtain ⟨Q, hQ⟩ : ∃ Q : sQ, Q = AKM σ ℓ nr nw ng Ls tl ukd unn utr utw I L (aMore σ ℓ nr nw ng tl ukd unn utr utw rule how part q) := ⟨_, rfl⟩
  rw [← hQ] at ref ⊢
  -- the code of bars, told on
  have t29 : ∀ b : Int, ((b = -101 ∧ ofS tl.length nr rule how part q = -10000001) ∨ (b = -103 ∧ ofS tl.length nr rule how part q = -10000003) ∨ (b = -102 ∧ ofS tl.length nr rule how part q = -10000002)) → Cp g 13 m_X8_more 0 0 Q 29 [(0, vr 139), (4, vi b)] [] (TT Ls tl) I L (RR tl) := by
    intro b hb
    rcases hb with ⟨rfl, e⟩ | ⟨rfl, e⟩ | ⟨rfl, e⟩
    · skip
      refine r_iload d_X8_more_29 rfl ?_
      refine r_if_eq d_X8_more_31 (by omega) (fun c31 => absurd c31 (by decide)) (fun c31 => ?_)
      refine r_iload d_X8_more_34 rfl ?_
      refine r_bipush d_X8_more_36 (by decide) ?_
      refine r_icmp_ne d_X8_more_38 (by omega) (by omega) (fun c38 => absurd c38 (by decide)) (fun c38 => ?_)
      refine r_ldcw d_X8_more_41 (k_X8_450 _ rfl) ?_
      refine r_goto d_X8_more_44 ?_
      refine r_iret d_X8_more_63 rfl ?_
      exact ref _ e (by decide)
    · skip
      refine r_iload d_X8_more_29 rfl ?_
      refine r_if_eq d_X8_more_31 (by omega) (fun c31 => absurd c31 (by decide)) (fun c31 => ?_)
      refine r_iload d_X8_more_34 rfl ?_
      refine r_bipush d_X8_more_36 (by decide) ?_
      refine r_icmp_ne d_X8_more_38 (by omega) (by omega) (fun c38 => ?_) (fun c38 => absurd c38 (by decide))
      refine r_iload d_X8_more_47 rfl ?_
      refine r_bipush d_X8_more_49 (by decide) ?_
      refine r_icmp_ne d_X8_more_51 (by omega) (by omega) (fun c51 => absurd c51 (by decide)) (fun c51 => ?_)
      refine r_ldcw d_X8_more_54 (k_X8_451 _ rfl) ?_
      refine r_goto d_X8_more_57 ?_
      refine r_iret d_X8_more_63 rfl ?_
      exact ref _ e (by decide)
    · skip
      refine r_iload d_X8_more_29 rfl ?_
      refine r_if_eq d_X8_more_31 (by omega) (fun c31 => absurd c31 (by decide)) (fun c31 => ?_)
      refine r_iload d_X8_more_34 rfl ?_
      refine r_bipush d_X8_more_36 (by decide) ?_
      refine r_icmp_ne d_X8_more_38 (by omega) (by omega) (fun c38 => ?_) (fun c38 => absurd c38 (by decide))
      refine r_iload d_X8_more_47 rfl ?_
      refine r_bipush d_X8_more_49 (by decide) ?_
      refine r_icmp_ne d_X8_more_51 (by omega) (by omega) (fun c51 => ?_) (fun c51 => absurd c51 (by decide))
      refine r_ldcw d_X8_more_60 (k_X8_452 _ rfl) ?_
      refine r_iret d_X8_more_63 rfl ?_
      exact ref _ e (by decide)
  by_cases k3 : (how = 0 ∨ how = 1) ∧ (0 ≤ part ∧ part ≤ 1)
  · have hb0 := hbr 1 (Or.inr rfl)
    rw [if_pos k3.1] at hgi
    rw [if_pos k3.2] at hwi
    by_cases k1 : (0 ≤ rule ∧ rule < (tl.length : Int)) ∧ 0 < nr
    · obtain ⟨k1, k2⟩ := k1
      have eb : brS tl.length nr (2 ^ chn σ nr) rule (-1) 1 = 0 := by
        unfold brS
        rw [if_pos k1, if_pos k2, if_pos ⟨rfl, Or.inl rfl⟩]
      rw [eb] at hb0
      have hw0 := h0w k2
      by_cases k4 : q < 16
      · have ez : ofS tl.length nr rule how part q = 0 := by unfold ofS; rw [if_pos k1, if_pos k2, if_pos ⟨k3.1, by omega⟩, if_pos k4]
        obtain ⟨a1, a2⟩ := MS_ask hM (v := I 139 25 + 1)
        obtain ⟨m1, m2⟩ := MS_all a1
        obtain ⟨I0, hI0⟩ : ∃ I0 : sI, I0 = up2 (up2 (up2 I 139 25 (I 139 25 + 1)) 139 56 (up2 I 139 25 (I 139 25 + 1) 139 8)) 139 55 (-1) := ⟨_, rfl⟩
        rw [← hI0] at m1 m2
        have f0 : FQ I I0 := FQ_tr a2 (FP_FQ m2)
        have e25 : I0 139 25 = q + 1 := by rw [m2.2 25 (by omega), up2_at, hq]
        obtain ⟨u, rfl⟩ : ∃ u : Nat, rule = (u : Int) := ⟨rule.toNat, by omega⟩
        have t99 : ∀ (I2 : sI) (s : Int), FM I0 I2 → KNM σ ℓ (-1) nr nw ng I2 → (0 ≤ s ∧ s ≤ 32000000) → CW σ ℓ (-1) nr nw ng (ukd u) (unn u) (utr u) (utw u) (tl.getD u 0) how s → Cp g 13 m_X8_more 0 0 Q 99 [(0, vr 139), (1, vi (u : Int)), (2, vi how), (3, vi part), (5, vi s)] [] (TT Ls tl) I2 L (RR tl) := by
          intro I2 s f2 hN2 hs hcw
          have hM2 := MB_fm m1 f2 hN2
          obtain ⟨gV, gcan, gA, gab, gX, gK, gN, gR⟩ := id hM2
          have e8 : I2 139 8 = (nw : Int) := by rw [f2.2 8 (by omega), m2.2 8 (by omega), up2_nj _ _ (by decide)]; exact hwm
          have b7 : I2 147 0 = σ 7 0 := gX.2.2.2.1 0 hw0 0 (by omega)
          have b8 : I2 148 0 = σ 8 0 := gX.2.2.2.1 0 hw0 1 (by omega)
          have b9 : I2 149 0 = σ 9 0 := gX.2.2.2.1 0 hw0 2 (by omega)
          have t154 : ∀ J : sI, (∀ a, a ≠ 139 → a ≠ 147 → a ≠ 148 → a ≠ 149 → J a = I2 a) → (∀ k, k < 3 → J (147 + k) nw = σ (7 + k) 0 ∧ ∀ w, w < nw → J (147 + k) w = I2 (147 + k) w) → (∀ k, k ≠ 56 → J 139 k = I2 139 k) → J 139 56 = (nw : Int) + 1 → Cp g 13 m_X8_more 0 0 Q 154 [(0, vr 139), (1, vi (u : Int)), (2, vi how), (3, vi part), (5, vi s)] [] (TT Ls tl) J L (RR tl) := by
            intro J j1 j2 j3 j4
            have aV := MV_ad hV h3 hw0
            have aX : MX (adS σ nw) nr (nw + 1) ng J := by
              obtain ⟨x1, x2, x3, x4, x5⟩ := gX
              refine ⟨by rw [j3 0 (by decide)]; exact x1, by rw [j3 12 (by decide)]; exact x2, fun r hr k hk => ?_, fun w hw k hk => ?_, fun v hv k hk => ?_⟩
              · rw [j1 (140 + k) (by omega) (by omega) (by omega) (by omega), ad_o (by omega)]; exact x3 r hr k hk
              · by_cases e : w = nw
                · rw [e, (j2 k hk).1]
                  unfold adS
                  rw [if_pos ⟨by omega, rfl⟩]
                · rw [(j2 k hk).2 w (by omega), ad_o (by omega)]; exact x4 w (by omega) k hk
              · rw [j1 (150 + k) (by omega) (by omega) (by omega) (by omega), ad_o (by omega)]; exact x5 v hv k hk
            have aK : MK ℓ (-1) (nw + 1) J := ⟨by rw [j3 17 (by decide)]; exact gK.1, by rw [j3 55 (by decide)]; exact gK.2.1, by rw [j4]; rfl⟩
            have aR : RXM tl ukd unn utr utw J := by
              obtain ⟨r1, r2, r3⟩ := gR
              refine ⟨by rw [j3 19 (by decide)]; exact r1, r2, fun v hv => ?_⟩
              rw [j1 154 (by decide) (by decide) (by decide) (by decide), j1 155 (by decide) (by decide) (by decide) (by decide), j1 156 (by decide) (by decide) (by decide) (by decide)]
              exact r3 v hv
            have hsa := x_sumAnew (g := g) (Ls := Ls) (L := L) aV (CAN_ad hcan) (ARS_ad hA) (ab := -1) (by omega) aX aK aR (q := u) (by omega) k2 k3.1
            have e10 : (10 : Int) ^ chn σ nr = ((10 ^ chn σ nr : Nat) : Int) := by rw [Int.natCast_pow]; rfl
            have hww := fun (I3 : sI) (hX3 : MX (adS σ nw) nr (nw + 1) ng I3) => x_whole (g := g) (Ls := Ls) (tl := tl) (L := L) aV hX3
            rw [ad_chn, e10] at hww
            rw [e10] at h10
            refine r_iload d_X8_more_154 rfl ?_
            refine r_aload_n d_X8_more_156 rfl ?_
            refine r_iload_n d_X8_more_157 rfl ?_
            refine r_iload_n d_X8_more_158 rfl ?_
            refine r_V2i d_X8_more_159 (w_X8_447 _ rfl) (tt_139 _ _) rfl rfl (hsa) (by decide) (Nat.le_of_ble_eq_true rfl) (fun z159 T159 I159 L159 R159 h159 => ?_)
            obtain ⟨rfl, rfl, rfl, y1, y2, y3, y4⟩ := h159
            have y8 : I159 139 8 = (nw : Int) := by rw [y1.2 8 (by omega), j3 8 (by decide)]; exact e8
            refine r_isub d_X8_more_162 ?_
            refine r_istore d_X8_more_163 (by decide) ?_
            refine r_aload_n d_X8_more_165 rfl ?_
            refine r_aload_n d_X8_more_166 rfl ?_
            refine r_geti d_X8_more_167 f_X8_235 (tt_139 _ _) (by decide) (by decide) ?_
            rw [y8]
            refine r_puti d_X8_more_170 f_X8_278 (tt_139 _ _) (by decide) (Or.inl rfl) ?_
            refine r_iload d_X8_more_173 rfl ?_
            refine r_aload_n d_X8_more_175 rfl ?_
            refine r_V0i d_X8_more_176 (w_X8_415 _ rfl) (tt_139 _ _) rfl rfl (hww (up2 I159 139 56 (nw : Int)) (MX_fr (MX_fm aX y1) (fun a _ _ => by rw [up2_ne _ _ (by omega)]) (by rw [up2_nj _ _ (by decide)]) (by rw [up2_nj _ _ (by decide)]))) (by decide) (Nat.le_of_ble_eq_true rfl) (fun z176 T176 I176 L176 R176 h176 => ?_)
            obtain ⟨rfl, rfl, rfl, rfl, rfl⟩ := h176
            refine r_iload_n d_X8_more_179 rfl ?_
            refine r_S3i d_X8_more_180 (w_X8_418 _ rfl) (x_lowest (by omega) (by omega) (by omega)) (by decide) (Nat.le_of_ble_eq_true rfl) (fun z180 T180 I180 L180 R180 h180 => ?_)
            obtain ⟨rfl, rfl, rfl, rfl, rfl⟩ := h180
            refine r_iret d_X8_more_183 rfl ?_
            rw [hQ]
            have oa : ∀ a, a ≠ 139 → a ≠ 147 → a ≠ 148 → a ≠ 149 → (a < 173 ∨ 186 ≤ a) → up2 I159 139 56 (nw : Int) a = I2 a := fun a q1 q2 q3 q4 q5 => by rw [up2_ne _ _ q1, y1.1 a q1 (by omega), j1 a q1 q2 q3 q4]
            have ok : ∀ k, k ≠ 56 → (k < 66 ∨ 70 < k) → up2 I159 139 56 (nw : Int) 139 k = I2 139 k := fun k q1 q2 => by rw [up2_nj _ _ q1, y1.2 k q2, j3 k q1]
            refine ⟨_, rfl, rfl, rfl, rfl, FQ_tr f0 (FQ_tr (FP_FQ (FM_FP f2)) ⟨fun a q1 q2 => oa a q1 (by omega) (by omega) (by omega) (by omega), fun k q1 _ => by
              by_cases e : k = 56
              · omega
              · exact ok k e (by omega)⟩), ?_, ?_⟩
            · refine ⟨hV, h3, hcan, hA, ?_, by rw [ok 17 (by decide) (by omega)]; exact gK.1, by rw [ok 8 (by decide) (by omega)]; exact e8, KNM_zero (by rw [up2_ne _ _ (by decide)]; exact y2.1) (by rw [up2_ne _ _ (by decide)]; exact y2.2), ?_⟩
              · obtain ⟨x1, x2, x3, x4, x5⟩ := gX
                refine ⟨by rw [ok 0 (by decide) (by omega)]; exact x1, by rw [ok 12 (by decide) (by omega)]; exact x2, fun r hr k hk => by rw [oa (140 + k) (by omega) (by omega) (by omega) (by omega) (by omega)]; exact x3 r hr k hk, fun w hw k hk => ?_, fun v hv k hk => by rw [oa (150 + k) (by omega) (by omega) (by omega) (by omega) (by omega)]; exact x5 v hv k hk⟩
                rw [up2_ne _ _ (by omega), y1.1 (147 + k) (by omega) (by omega), (j2 k hk).2 w hw]
                exact x4 w hw k hk
              · obtain ⟨r1, r2, r3⟩ := gR
                refine ⟨by rw [ok 19 (by decide) (by omega)]; exact r1, r2, fun v hv => ?_⟩
                rw [oa 154 (by decide) (by decide) (by decide) (by decide) (by omega), oa 155 (by decide) (by decide) (by decide) (by decide) (by omega), oa 156 (by decide) (by decide) (by decide) (by decide) (by omega)]
                exact r3 v hv
            · rw [ok 25 (by decide) (by omega), f2.2 25 (by omega), e25]
              refine ⟨fun h => absurd ez h, fun _ => ⟨rfl, s, z159, ?_, ?_, ?_⟩⟩
              · rw [Int.toNat_natCast]; exact hcw
              · rw [Int.toNat_natCast]; exact y4
              · unfold gcS
                rw [e10]
          refine r_aload_n d_X8_more_99 rfl ?_
          refine r_getr d_X8_more_100 f_X8_31 (tt_139 _ _) (by decide) rfl (rr_139_9 _) ?_
          refine r_aload_n d_X8_more_103 rfl ?_
          refine r_geti d_X8_more_104 f_X8_235 (tt_139 _ _) (by decide) (by decide) ?_
          rw [e8]
          refine r_aload_n d_X8_more_107 rfl ?_
          refine r_getr d_X8_more_108 f_X8_31 (tt_139 _ _) (by decide) rfl (rr_139_9 _) ?_
          refine r_iconst d_X8_more_111 ?_
          refine r_ialdJ (j := 0) d_X8_more_112 (tt_147 _ _) rfl (by omega) (kk := ?_)
          rw [b7]
          refine r_iastJ d_X8_more_113 (tt_147 _ _) (by omega) rfl (by omega) (kk := ?_)
          refine r_aload_n d_X8_more_114 rfl ?_
          refine r_getr d_X8_more_115 f_X8_34 (tt_139 _ _) (by decide) rfl (rr_139_10 _) ?_
          refine r_aload_n d_X8_more_118 rfl ?_
          refine r_geti d_X8_more_119 f_X8_235 (tt_139 _ _) (by decide) (by decide) ?_
          rw [show up2 I2 147 nw (σ 7 0) 139 8 = (nw : Int) by rw [up2_ne _ _ (by decide)]; exact e8]
          refine r_aload_n d_X8_more_122 rfl ?_
          refine r_getr d_X8_more_123 f_X8_34 (tt_139 _ _) (by decide) rfl (rr_139_10 _) ?_
          refine r_iconst d_X8_more_126 ?_
          refine r_ialdJ (j := 0) d_X8_more_127 (tt_148 _ _) rfl (by omega) (kk := ?_)
          rw [show up2 I2 147 nw (σ 7 0) 148 0 = σ 8 0 by rw [up2_ne _ _ (by decide)]; exact b8]
          refine r_iastJ d_X8_more_128 (tt_148 _ _) (by omega) rfl (by omega) (kk := ?_)
          refine r_aload_n d_X8_more_129 rfl ?_
          refine r_getr d_X8_more_130 f_X8_37 (tt_139 _ _) (by decide) rfl (rr_139_11 _) ?_
          refine r_aload_n d_X8_more_133 rfl ?_
          refine r_geti d_X8_more_134 f_X8_235 (tt_139 _ _) (by decide) (by decide) ?_
          rw [show up2 (up2 I2 147 nw (σ 7 0)) 148 nw (σ 8 0) 139 8 = (nw : Int) by rw [up2_ne _ _ (by decide), up2_ne _ _ (by decide)]; exact e8]
          refine r_aload_n d_X8_more_137 rfl ?_
          refine r_getr d_X8_more_138 f_X8_37 (tt_139 _ _) (by decide) rfl (rr_139_11 _) ?_
          refine r_iconst d_X8_more_141 ?_
          refine r_ialdJ (j := 0) d_X8_more_142 (tt_149 _ _) rfl (by omega) (kk := ?_)
          rw [show up2 (up2 I2 147 nw (σ 7 0)) 148 nw (σ 8 0) 149 0 = σ 9 0 by rw [up2_ne _ _ (by decide), up2_ne _ _ (by decide)]; exact b9]
          refine r_iastJ d_X8_more_143 (tt_149 _ _) (by omega) rfl (by omega) (kk := ?_)
          refine r_aload_n d_X8_more_144 rfl ?_
          refine r_aload_n d_X8_more_145 rfl ?_
          refine r_geti d_X8_more_146 f_X8_235 (tt_139 _ _) (by decide) (by decide) ?_
          rw [show up2 (up2 (up2 I2 147 nw (σ 7 0)) 148 nw (σ 8 0)) 149 nw (σ 9 0) 139 8 = (nw : Int) by rw [up2_ne _ _ (by decide), up2_ne _ _ (by decide), up2_ne _ _ (by decide)]; exact e8]
          refine r_iconst d_X8_more_149 ?_
          refine r_iadd d_X8_more_150 ?_
          refine r_puti d_X8_more_151 f_X8_278 (tt_139 _ _) (by decide) (Or.inl rfl) ?_
          refine t154 _ (fun a h1 h2 h3 h4 => by rw [up2_ne _ _ h1, up2_ne _ _ h4, up2_ne _ _ h3, up2_ne _ _ h2]) (fun k hk => ?_) (fun k hk => by rw [up2_nj _ _ hk, up2_ne _ _ (by decide), up2_ne _ _ (by decide), up2_ne _ _ (by decide)]) (by rw [up2_at])
          rw [up2_ne _ _ (show 147 + k ≠ 139 by omega)]
          rcases (show k = 0 ∨ k = 1 ∨ k = 2 by omega) with rfl | rfl | rfl
          · refine ⟨by rw [up2_ne _ _ (by decide), up2_ne _ _ (by decide), up2_at], fun w hw => ?_⟩
            rw [up2_ne _ _ (by decide), up2_ne _ _ (by decide), up2_nj _ _ (by omega)]
          · refine ⟨by rw [up2_ne _ _ (by decide), up2_at], fun w hw => ?_⟩
            rw [up2_ne _ _ (by decide), up2_nj _ _ (by omega), up2_ne _ _ (by decide)]
          · refine ⟨by rw [up2_at], fun w hw => ?_⟩
            rw [up2_nj _ _ (by omega), up2_ne _ _ (by decide), up2_ne _ _ (by decide)]
        refine r_aload_n d_X8_more_0 rfl ?_
        refine r_iload_n d_X8_more_1 rfl ?_
        refine r_iconst d_X8_more_2 ?_
        refine r_iload_n d_X8_more_3 rfl ?_
        refine r_S1i d_X8_more_4 (w_X8_403 _ rfl) (hgi) (by decide) (Nat.le_of_ble_eq_true rfl) (fun z4 T4 I4 L4 R4 h4 => ?_)
        obtain ⟨rfl, rfl, rfl, rfl, rfl⟩ := h4
        refine r_if_eq d_X8_more_7 (by omega) (fun c7 => absurd c7 (by decide)) (fun c7 => ?_)
        refine r_iload_n d_X8_more_10 rfl ?_
        refine r_iconst d_X8_more_11 ?_
        refine r_iconst d_X8_more_12 ?_
        refine r_S3i d_X8_more_13 (w_X8_162 _ rfl) (hwi) (by decide) (Nat.le_of_ble_eq_true rfl) (fun z13 T13 I13 L13 R13 h13 => ?_)
        obtain ⟨rfl, rfl, rfl, rfl, rfl⟩ := h13
        refine r_if_eq d_X8_more_16 (by omega) (fun c16 => absurd c16 (by decide)) (fun c16 => ?_)
        refine r_iconst d_X8_more_19 ?_
        refine r_goto d_X8_more_20 ?_
        refine r_V3i d_X8_more_24 (w_X8_396 _ rfl) (tt_139 _ _) rfl rfl (hb0) (by decide) (Nat.le_of_ble_eq_true rfl) (fun z24 T24 I24 L24 R24 h24 => ?_)
        obtain ⟨rfl, rfl, rfl, rfl, rfl⟩ := h24
        refine r_istore d_X8_more_27 (by decide) ?_
        refine r_iload d_X8_more_29 rfl ?_
        refine r_if_eq d_X8_more_31 (by omega) (fun c31 => ?_) (fun c31 => absurd c31 (by decide))
        refine r_aload_n d_X8_more_64 rfl ?_
        refine r_geti d_X8_more_65 f_X8_435 (tt_139 _ _) (by decide) (by decide) ?_
        refine r_bipush d_X8_more_68 (by decide) ?_
        refine r_icmp_ne d_X8_more_70 (by omega) (by omega) (fun c70 => ?_) (fun c70 => absurd c70 (by omega))
        refine r_aload_n d_X8_more_77 rfl ?_
        refine r_dup d_X8_more_78 rfl ?_
        refine r_geti d_X8_more_79 f_X8_435 (tt_139 _ _) (by decide) (by decide) ?_
        refine r_iconst d_X8_more_82 ?_
        refine r_iadd d_X8_more_83 ?_
        refine r_puti d_X8_more_84 f_X8_435 (tt_139 _ _) (by decide) (Or.inl rfl) ?_
        refine r_aload_n d_X8_more_87 rfl ?_
        refine r_V0v d_X8_more_88 (w_X8_400 _ rfl) (tt_139 _ _) rfl rfl (x_allWomen) (by decide) (Nat.le_of_ble_eq_true rfl) (fun T88 I88 L88 R88 h88 => ?_)
        obtain ⟨rfl, rfl, rfl, rfl⟩ := h88
        rw [← hI0]
        refine r_aload_n d_X8_more_91 rfl ?_
        refine r_iload_n d_X8_more_92 rfl ?_
        refine r_iload_n d_X8_more_93 rfl ?_
        refine r_V2i d_X8_more_94 (w_X8_412 _ rfl) (tt_139 _ _) rfl rfl (x_sumBy m1 (by omega) k2 k3.1) (by decide) (Nat.le_of_ble_eq_true rfl) (fun z94 T94 I94 L94 R94 h94 => ?_)
        obtain ⟨rfl, rfl, rfl, y1, y2, y3, y4⟩ := h94
        refine r_istore d_X8_more_97 (by decide) ?_
        exact CpL (t99 I94 z94 y1 y2 y3 y4) (by repeat (first | exact trivial | refine ⟨rfl, ?_⟩))
      · skip
        refine r_aload_n d_X8_more_0 rfl ?_
        refine r_iload_n d_X8_more_1 rfl ?_
        refine r_iconst d_X8_more_2 ?_
        refine r_iload_n d_X8_more_3 rfl ?_
        refine r_S1i d_X8_more_4 (w_X8_403 _ rfl) (hgi) (by decide) (Nat.le_of_ble_eq_true rfl) (fun z4 T4 I4 L4 R4 h4 => ?_)
        obtain ⟨rfl, rfl, rfl, rfl, rfl⟩ := h4
        refine r_if_eq d_X8_more_7 (by omega) (fun c7 => absurd c7 (by decide)) (fun c7 => ?_)
        refine r_iload_n d_X8_more_10 rfl ?_
        refine r_iconst d_X8_more_11 ?_
        refine r_iconst d_X8_more_12 ?_
        refine r_S3i d_X8_more_13 (w_X8_162 _ rfl) (hwi) (by decide) (Nat.le_of_ble_eq_true rfl) (fun z13 T13 I13 L13 R13 h13 => ?_)
        obtain ⟨rfl, rfl, rfl, rfl, rfl⟩ := h13
        refine r_if_eq d_X8_more_16 (by omega) (fun c16 => absurd c16 (by decide)) (fun c16 => ?_)
        refine r_iconst d_X8_more_19 ?_
        refine r_goto d_X8_more_20 ?_
        refine r_V3i d_X8_more_24 (w_X8_396 _ rfl) (tt_139 _ _) rfl rfl (hb0) (by decide) (Nat.le_of_ble_eq_true rfl) (fun z24 T24 I24 L24 R24 h24 => ?_)
        obtain ⟨rfl, rfl, rfl, rfl, rfl⟩ := h24
        refine r_istore d_X8_more_27 (by decide) ?_
        refine r_iload d_X8_more_29 rfl ?_
        refine r_if_eq d_X8_more_31 (by omega) (fun c31 => ?_) (fun c31 => absurd c31 (by decide))
        refine r_aload_n d_X8_more_64 rfl ?_
        refine r_geti d_X8_more_65 f_X8_435 (tt_139 _ _) (by decide) (by decide) ?_
        refine r_bipush d_X8_more_68 (by decide) ?_
        refine r_icmp_ne d_X8_more_70 (by omega) (by omega) (fun c70 => absurd c70 (by omega)) (fun c70 => ?_)
        refine r_ldcw d_X8_more_73 (k_X8_451 _ rfl) ?_
        refine r_iret d_X8_more_76 rfl ?_
        exact ref _ (by unfold ofS; rw [if_pos k1, if_pos k2, if_pos ⟨k3.1, by omega⟩, if_neg k4]) (by decide)
    · have hcase : (brS tl.length nr (2 ^ chn σ nr) rule (-1) 1 = -101 ∧ ofS tl.length nr rule how part q = -10000001) ∨ (brS tl.length nr (2 ^ chn σ nr) rule (-1) 1 = -103 ∧ ofS tl.length nr rule how part q = -10000003) ∨ (brS tl.length nr (2 ^ chn σ nr) rule (-1) 1 = -102 ∧ ofS tl.length nr rule how part q = -10000002) := by
        unfold brS ofS
        by_cases c1 : 0 ≤ rule ∧ rule < (tl.length : Int)
        · rw [if_pos c1, if_pos c1, if_neg (fun h => k1 ⟨c1, h⟩), if_neg (fun h => k1 ⟨c1, h⟩)]
          exact Or.inr (Or.inl ⟨rfl, rfl⟩)
        · rw [if_neg c1, if_neg c1]
          exact Or.inl ⟨rfl, rfl⟩
      refine r_aload_n d_X8_more_0 rfl ?_
      refine r_iload_n d_X8_more_1 rfl ?_
      refine r_iconst d_X8_more_2 ?_
      refine r_iload_n d_X8_more_3 rfl ?_
      refine r_S1i d_X8_more_4 (w_X8_403 _ rfl) (hgi) (by decide) (Nat.le_of_ble_eq_true rfl) (fun z4 T4 I4 L4 R4 h4 => ?_)
      obtain ⟨rfl, rfl, rfl, rfl, rfl⟩ := h4
      refine r_if_eq d_X8_more_7 (by omega) (fun c7 => absurd c7 (by decide)) (fun c7 => ?_)
      refine r_iload_n d_X8_more_10 rfl ?_
      refine r_iconst d_X8_more_11 ?_
      refine r_iconst d_X8_more_12 ?_
      refine r_S3i d_X8_more_13 (w_X8_162 _ rfl) (hwi) (by decide) (Nat.le_of_ble_eq_true rfl) (fun z13 T13 I13 L13 R13 h13 => ?_)
      obtain ⟨rfl, rfl, rfl, rfl, rfl⟩ := h13
      refine r_if_eq d_X8_more_16 (by omega) (fun c16 => absurd c16 (by decide)) (fun c16 => ?_)
      refine r_iconst d_X8_more_19 ?_
      refine r_goto d_X8_more_20 ?_
      refine r_V3i d_X8_more_24 (w_X8_396 _ rfl) (tt_139 _ _) rfl rfl (hb0) (by decide) (Nat.le_of_ble_eq_true rfl) (fun z24 T24 I24 L24 R24 h24 => ?_)
      obtain ⟨rfl, rfl, rfl, rfl, rfl⟩ := h24
      refine r_istore d_X8_more_27 (by decide) ?_
      exact CpL (t29 _ hcase) (by repeat (first | exact trivial | refine ⟨rfl, ?_⟩))
  · have hb0 := hbr 0 (Or.inl rfl)
    have hcase : (brS tl.length nr (2 ^ chn σ nr) rule (-1) 0 = -101 ∧ ofS tl.length nr rule how part q = -10000001) ∨ (brS tl.length nr (2 ^ chn σ nr) rule (-1) 0 = -103 ∧ ofS tl.length nr rule how part q = -10000003) ∨ (brS tl.length nr (2 ^ chn σ nr) rule (-1) 0 = -102 ∧ ofS tl.length nr rule how part q = -10000002) := by
      unfold brS ofS
      by_cases c1 : 0 ≤ rule ∧ rule < (tl.length : Int)
      · rw [if_pos c1, if_pos c1]
        by_cases c2 : 0 < nr
        · rw [if_pos c2, if_pos c2, if_neg (fun p => absurd p.1 (by decide)), if_neg (fun p => k3 ⟨p.1, by omega⟩)]
          exact Or.inr (Or.inr ⟨rfl, rfl⟩)
        · rw [if_neg c2, if_neg c2]
          exact Or.inr (Or.inl ⟨rfl, rfl⟩)
      · rw [if_neg c1, if_neg c1]
        exact Or.inl ⟨rfl, rfl⟩
    by_cases k4 : how = 0 ∨ how = 1
    · rw [if_pos k4] at hgi
      rw [if_neg (fun h => k3 ⟨k4, h⟩)] at hwi
      refine r_aload_n d_X8_more_0 rfl ?_
      refine r_iload_n d_X8_more_1 rfl ?_
      refine r_iconst d_X8_more_2 ?_
      refine r_iload_n d_X8_more_3 rfl ?_
      refine r_S1i d_X8_more_4 (w_X8_403 _ rfl) (hgi) (by decide) (Nat.le_of_ble_eq_true rfl) (fun z4 T4 I4 L4 R4 h4 => ?_)
      obtain ⟨rfl, rfl, rfl, rfl, rfl⟩ := h4
      refine r_if_eq d_X8_more_7 (by omega) (fun c7 => absurd c7 (by decide)) (fun c7 => ?_)
      refine r_iload_n d_X8_more_10 rfl ?_
      refine r_iconst d_X8_more_11 ?_
      refine r_iconst d_X8_more_12 ?_
      refine r_S3i d_X8_more_13 (w_X8_162 _ rfl) (hwi) (by decide) (Nat.le_of_ble_eq_true rfl) (fun z13 T13 I13 L13 R13 h13 => ?_)
      obtain ⟨rfl, rfl, rfl, rfl, rfl⟩ := h13
      refine r_if_eq d_X8_more_16 (by omega) (fun c16 => ?_) (fun c16 => absurd c16 (by decide))
      refine r_iconst d_X8_more_23 ?_
      refine r_V3i d_X8_more_24 (w_X8_396 _ rfl) (tt_139 _ _) rfl rfl (hb0) (by decide) (Nat.le_of_ble_eq_true rfl) (fun z24 T24 I24 L24 R24 h24 => ?_)
      obtain ⟨rfl, rfl, rfl, rfl, rfl⟩ := h24
      refine r_istore d_X8_more_27 (by decide) ?_
      exact CpL (t29 _ hcase) (by repeat (first | exact trivial | refine ⟨rfl, ?_⟩))
    · rw [if_neg k4] at hgi
      refine r_aload_n d_X8_more_0 rfl ?_
      refine r_iload_n d_X8_more_1 rfl ?_
      refine r_iconst d_X8_more_2 ?_
      refine r_iload_n d_X8_more_3 rfl ?_
      refine r_S1i d_X8_more_4 (w_X8_403 _ rfl) (hgi) (by decide) (Nat.le_of_ble_eq_true rfl) (fun z4 T4 I4 L4 R4 h4 => ?_)
      obtain ⟨rfl, rfl, rfl, rfl, rfl⟩ := h4
      refine r_if_eq d_X8_more_7 (by omega) (fun c7 => ?_) (fun c7 => absurd c7 (by decide))
      refine r_iconst d_X8_more_23 ?_
      refine r_V3i d_X8_more_24 (w_X8_396 _ rfl) (tt_139 _ _) rfl rfl (hb0) (by decide) (Nat.le_of_ble_eq_true rfl) (fun z24 T24 I24 L24 R24 h24 => ?_)
      obtain ⟨rfl, rfl, rfl, rfl, rfl⟩ := h24
      refine r_istore d_X8_more_27 (by decide) ?_
      exact CpL (t29 _ hcase) (by repeat (first | exact trivial | refine ⟨rfl, ?_⟩))
end X9k
