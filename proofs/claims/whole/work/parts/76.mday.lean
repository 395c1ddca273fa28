theorem DM_frb {δ : Sg} {nr nW : Nat} {I I' : sI} {lo hi : Nat} (h : DM δ nr nW I) (f : frb lo hi I I') (hlo : 180 ≤ lo) : DM δ nr nW I' := by
  unfold DM
  rw [f 174 (by omega), f 175 (by omega), f 176 (by omega), f 177 (by omega), f 178 (by omega), f 179 (by omega)]
  exact h
section X76
variable {g : sG} {Ls : Nat} {tl : List Nat} {I L : sI} {σ δ : Sg} {ℓ ab : Int} {nr nW ng : Nat}
theorem x_clear (hV : MV σ ℓ nr nW ng) (hX : MX σ nr nW ng I) (hK : MK ℓ ab nW I) {way : Nat} (hg : ∀ r, r < nr → I 174 r = goneS σ way r) : Mc g 0 m_X8_clear 0 0 [vr 139] (TT Ls tl) I L (RR tl) (qV fun T' I' L' R' => T' = TT Ls tl ∧ R' = RR tl ∧ L' = L ∧ frb 175 180 I I' ∧ DM (opS σ way) nr nW I') := by
  refine Mc_of rfl (Nat.le_of_ble_eq_true rfl) ?_
  obtain ⟨⟨s1, s2, s3, s4, s5⟩, v2, v3, v4⟩ := id hV
  obtain ⟨Q, hQ⟩ : ∃ Q : sQ, Q = (qV fun T' I' L' R' => T' = TT Ls tl ∧ R' = RR tl ∧ L' = L ∧ frb 175 180 I I' ∧ DM (opS σ way) nr nW I') := ⟨_, rfl⟩
  rw [← hQ]
  have rooms : ∀ (k b : Nat) (I1 : sI), b + k = nr → frb 175 180 I I1 → (∀ w, w < nW → I1 175 w = σ 7 w ∧ I1 176 w = σ 8 w) → (∀ r, r < b → I1 177 r = -1 ∧ I1 178 r = -1 ∧ I1 179 r = -1) → Cp g 0 m_X8_clear 0 0 Q 42 [(0, vr 139), (1, vi (b : Int))] [] (TT Ls tl) I1 L (RR tl) := by
    intro k
    induction k with
    | zero =>
      intro b I1 hb f hw hr
      have e0 : I1 139 0 = (nr : Int) := by rw [f 139 (by omega)]; exact hX.1
      refine r_iload_n d_X8_clear_42 rfl ?_
      refine r_aload_n d_X8_clear_43 rfl ?_
      refine r_geti d_X8_clear_44 f_X8_232 (tt_139 _ _) (by decide) (by decide) ?_
      refine r_icmp_ge d_X8_clear_47 (by omega) (by omega) (fun c47 => ?_) (fun c47 => absurd c47 (by omega))
      refine r_vret d_X8_clear_77 rfl ?_
      rw [hQ]
      refine ⟨rfl, rfl, rfl, rfl, f, fun r hr2 => ?_, fun w hw2 => ⟨(hw w hw2).2, (hw w hw2).1⟩⟩
      obtain ⟨q1, q2, q3⟩ := hr r (by omega)
      exact ⟨by rw [f 174 (by omega)]; exact hg r hr2, q1, q2, q3⟩
    | succ k ih =>
      intro b I1 hb f hw hr
      have e0 : I1 139 0 = (nr : Int) := by rw [f 139 (by omega)]; exact hX.1
      refine r_iload_n d_X8_clear_42 rfl ?_
      refine r_aload_n d_X8_clear_43 rfl ?_
      refine r_geti d_X8_clear_44 f_X8_232 (tt_139 _ _) (by decide) (by decide) ?_
      refine r_icmp_ge d_X8_clear_47 (by omega) (by omega) (fun c47 => absurd c47 (by omega)) (fun c47 => ?_)
      refine r_aload_n d_X8_clear_50 rfl ?_
      refine r_getr d_X8_clear_51 f_X8_130 (tt_139 _ _) (by decide) rfl (rr_139_59 _) ?_
      refine r_iload_n d_X8_clear_54 rfl ?_
      refine r_iconst d_X8_clear_55 ?_
      refine r_iastJ d_X8_clear_56 (tt_177 _ _) (by omega) rfl (by omega) (kk := ?_)
      refine r_aload_n d_X8_clear_57 rfl ?_
      refine r_getr d_X8_clear_58 f_X8_133 (tt_139 _ _) (by decide) rfl (rr_139_60 _) ?_
      refine r_iload_n d_X8_clear_61 rfl ?_
      refine r_iconst d_X8_clear_62 ?_
      refine r_iastJ d_X8_clear_63 (tt_178 _ _) (by omega) rfl (by omega) (kk := ?_)
      refine r_aload_n d_X8_clear_64 rfl ?_
      refine r_getr d_X8_clear_65 f_X8_136 (tt_139 _ _) (by decide) rfl (rr_139_61 _) ?_
      refine r_iload_n d_X8_clear_68 rfl ?_
      refine r_iconst d_X8_clear_69 ?_
      refine r_iastJ d_X8_clear_70 (tt_179 _ _) (by omega) rfl (by omega) (kk := ?_)
      refine r_iinc d_X8_clear_71 rfl (by decide) ?_
      refine r_goto d_X8_clear_74 ?_
      refine CpL (ih (b + 1) _ (by omega) (frb_up (frb_up (frb_up f (by omega)) (by omega)) (by omega)) (fun w hw2 => ?_) (fun r hr2 => ?_)) (by repeat (first | exact trivial | refine ⟨rfl, ?_⟩))
      · rw [up2_ne _ _ (by decide), up2_ne _ _ (by decide), up2_ne _ _ (by decide), up2_ne _ _ (by decide), up2_ne _ _ (by decide), up2_ne _ _ (by decide)]; exact hw w hw2
      · by_cases e : r = b
        · subst e
          refine ⟨?_, ?_, ?_⟩
          · rw [up2_ne _ _ (by decide), up2_ne _ _ (by decide), up2_at]
          · rw [up2_ne _ _ (by decide), up2_at]
          · rw [up2_at]
        · rw [up2_nj _ _ e, up2_nj _ _ e, up2_nj _ _ e, up2_nj _ _ e, up2_nj _ _ e, up2_nj _ _ e, up2_nj _ _ e, up2_nj _ _ e, up2_nj _ _ e]
          exact hr r (by omega)
  have women : ∀ (k b : Nat) (I1 : sI), b + k = nW → frb 175 180 I I1 → (∀ w, w < b → I1 175 w = σ 7 w ∧ I1 176 w = σ 8 w) → Cp g 0 m_X8_clear 0 0 Q 2 [(0, vr 139), (1, vi (b : Int))] [] (TT Ls tl) I1 L (RR tl) := by
    intro k
    induction k with
    | zero =>
      intro b I1 hb f hw
      have e56 : I1 139 56 = (nW : Int) := by rw [f 139 (by omega)]; exact hK.2.2
      refine r_iload_n d_X8_clear_2 rfl ?_
      refine r_aload_n d_X8_clear_3 rfl ?_
      refine r_geti d_X8_clear_4 f_X8_278 (tt_139 _ _) (by decide) (by decide) ?_
      refine r_icmp_ge d_X8_clear_7 (by omega) (by omega) (fun c7 => ?_) (fun c7 => absurd c7 (by omega))
      refine r_iconst d_X8_clear_40 ?_
      refine r_istore_n d_X8_clear_41 (by decide) ?_
      exact CpL (rooms nr 0 I1 (by omega) f (fun w hw2 => hw w (by omega)) (fun r h => absurd h (by omega))) (by repeat (first | exact trivial | refine ⟨rfl, ?_⟩))
    | succ k ih =>
      intro b I1 hb f hw
      have e56 : I1 139 56 = (nW : Int) := by rw [f 139 (by omega)]; exact hK.2.2
      have hX1 := MX_frb hX f (by omega)
      have e7 : I1 147 b = σ 7 b := hX1.2.2.2.1 b (by omega) 0 (by omega)
      have e8 : ∀ x, up2 I1 175 b x 148 b = σ 8 b := fun x => by rw [up2_ne _ _ (by decide)]; exact hX1.2.2.2.1 b (by omega) 1 (by omega)
      refine r_iload_n d_X8_clear_2 rfl ?_
      refine r_aload_n d_X8_clear_3 rfl ?_
      refine r_geti d_X8_clear_4 f_X8_278 (tt_139 _ _) (by decide) (by decide) ?_
      refine r_icmp_ge d_X8_clear_7 (by omega) (by omega) (fun c7 => absurd c7 (by omega)) (fun c7 => ?_)
      refine r_aload_n d_X8_clear_10 rfl ?_
      refine r_getr d_X8_clear_11 f_X8_124 (tt_139 _ _) (by decide) rfl (rr_139_57 _) ?_
      refine r_iload_n d_X8_clear_14 rfl ?_
      refine r_aload_n d_X8_clear_15 rfl ?_
      refine r_getr d_X8_clear_16 f_X8_31 (tt_139 _ _) (by decide) rfl (rr_139_9 _) ?_
      refine r_iload_n d_X8_clear_19 rfl ?_
      refine r_ialdJ d_X8_clear_20 (tt_147 _ _) rfl (by omega) (kk := ?_)
      rw [e7]
      refine r_iastJ d_X8_clear_21 (tt_175 _ _) (by omega) rfl (by omega) (kk := ?_)
      refine r_aload_n d_X8_clear_22 rfl ?_
      refine r_getr d_X8_clear_23 f_X8_127 (tt_139 _ _) (by decide) rfl (rr_139_58 _) ?_
      refine r_iload_n d_X8_clear_26 rfl ?_
      refine r_aload_n d_X8_clear_27 rfl ?_
      refine r_getr d_X8_clear_28 f_X8_34 (tt_139 _ _) (by decide) rfl (rr_139_10 _) ?_
      refine r_iload_n d_X8_clear_31 rfl ?_
      refine r_ialdJ d_X8_clear_32 (tt_148 _ _) rfl (by omega) (kk := ?_)
      rw [e8]
      refine r_iastJ d_X8_clear_33 (tt_176 _ _) (by omega) rfl (by omega) (kk := ?_)
      refine r_iinc d_X8_clear_34 rfl (by decide) ?_
      refine r_goto d_X8_clear_37 ?_
      refine CpL (ih (b + 1) _ (by omega) (frb_up (frb_up f (by omega)) (by omega)) (fun w hw2 => ?_)) (by repeat (first | exact trivial | refine ⟨rfl, ?_⟩))
      by_cases e : w = b
      · subst e
        refine ⟨?_, ?_⟩
        · rw [up2_ne _ _ (by decide), up2_at]
        · rw [up2_at]
      · rw [up2_nj _ _ e, up2_nj _ _ e, up2_nj _ _ e, up2_nj _ _ e]; exact hw w (by omega)
  refine r_iconst d_X8_clear_0 ?_
  refine r_istore_n d_X8_clear_1 (by decide) ?_
  exact CpL (women nW 0 I (by omega) frb_rf (fun w h => absurd h (by omega))) (by repeat (first | exact trivial | refine ⟨rfl, ?_⟩))
theorem x_beginsAt (hV : MV σ ℓ nr nW ng) (hX : MX σ nr nW ng I) (hl : I 139 17 = ℓ) (hDV : DV δ nr nW) (hD : DM δ nr nW I) {w r : Nat} (hw : w < nW) (hr : r < nr) : Mc g 1 m_X8_beginsAt 0 0 [vr 139, vi (w : Int), vi (r : Int)] (TT Ls tl) I L (RR tl) (qI fun z T' I' L' R' => z = begS σ ℓ δ w r ∧ same (TT Ls tl) I L (RR tl) T' I' L' R') := by
  refine Mc_of rfl (Nat.le_of_ble_eq_true rfl) ?_
  obtain ⟨⟨s1, s2, s3, s4, s5⟩, v2, v3, v4⟩ := id hV
  have hb := begS_bd hV.1 hDV hw hr
  have e0 : I 140 r = σ 0 r := hX.2.2.1 r hr 0 (by omega)
  obtain ⟨g0, g1, g2, g3⟩ := hD.1 r hr
  obtain ⟨g4, g5⟩ := hD.2 w hw
  obtain ⟨d4, d5⟩ := hDV.2 w hw
  have d0 := (hDV.1 r hr).1
  have rv := (s3 r hr).1
  have ha := absI_bd d5 rv
  have er : (absI (δ 5 w - σ 0 r) + ℓ - 1).tdiv ℓ = rideS ℓ (δ 5 w) (σ 0 r) := rfl
  have hrb := rideS_bd s5 d5 rv
  refine r_aload_n d_X8_beginsAt_0 rfl ?_
  refine r_getr d_X8_beginsAt_1 f_X8_124 (tt_139 _ _) (by decide) rfl (rr_139_57 _) ?_
  refine r_iload_n d_X8_beginsAt_4 rfl ?_
  refine r_ialdJ d_X8_beginsAt_5 (tt_175 _ _) rfl (by omega) (kk := ?_)
  rw [g5]
  refine r_aload_n d_X8_beginsAt_6 rfl ?_
  refine r_getr d_X8_beginsAt_7 f_X8_7 (tt_139 _ _) (by decide) rfl (rr_139_1 _) ?_
  refine r_iload_n d_X8_beginsAt_10 rfl ?_
  refine r_ialdJ d_X8_beginsAt_11 (tt_140 _ _) rfl (by omega) (kk := ?_)
  rw [e0]
  refine r_isub d_X8_beginsAt_12 ?_
  refine r_S1i d_X8_beginsAt_13 (w_X8_281 _ rfl) (x_size (a := δ 5 w - σ 0 r) (by omega)) (by decide) (Nat.le_of_ble_eq_true rfl) (fun z13 T13 I13 L13 R13 h13 => ?_)
  obtain ⟨rfl, rfl, rfl, rfl, rfl⟩ := h13
  refine r_istore_n d_X8_beginsAt_16 (by decide) ?_
  refine r_aload_n d_X8_beginsAt_17 rfl ?_
  refine r_getr d_X8_beginsAt_18 f_X8_127 (tt_139 _ _) (by decide) rfl (rr_139_58 _) ?_
  refine r_iload_n d_X8_beginsAt_21 rfl ?_
  refine r_ialdJ d_X8_beginsAt_22 (tt_176 _ _) rfl (by omega) (kk := ?_)
  rw [g4]
  refine r_iload_n d_X8_beginsAt_23 rfl ?_
  refine r_aload_n d_X8_beginsAt_24 rfl ?_
  refine r_geti d_X8_beginsAt_25 f_X8_53 (tt_139 _ _) (by decide) (by decide) ?_
  rw [hl]
  refine r_iadd d_X8_beginsAt_28 ?_
  refine r_iconst d_X8_beginsAt_29 ?_
  refine r_isub d_X8_beginsAt_30 ?_
  refine r_aload_n d_X8_beginsAt_31 rfl ?_
  refine r_geti d_X8_beginsAt_32 f_X8_53 (tt_139 _ _) (by decide) (by decide) ?_
  rw [hl]
  refine r_idiv d_X8_beginsAt_35 (by omega) (by omega) ?_
  rw [er]
  refine r_iadd d_X8_beginsAt_36 ?_
  refine r_aload_n d_X8_beginsAt_37 rfl ?_
  refine r_getr d_X8_beginsAt_38 f_X8_118 (tt_139 _ _) (by decide) rfl (rr_139_54 _) ?_
  refine r_iload_n d_X8_beginsAt_41 rfl ?_
  refine r_ialdJ d_X8_beginsAt_42 (tt_174 _ _) rfl (by omega) (kk := ?_)
  rw [g0]
  refine r_S2i d_X8_beginsAt_43 (w_X8_285 _ rfl) (x_greater (by omega) (by omega)) (by decide) (Nat.le_of_ble_eq_true rfl) (fun z43 T43 I43 L43 R43 h43 => ?_)
  obtain ⟨rfl, rfl, rfl, rfl, rfl⟩ := h43
  refine r_iret d_X8_beginsAt_46 rfl ?_
  exact ⟨_, rfl, rfl, same_rf⟩
theorem x_may (hV : MV σ ℓ nr nW ng) (hX : MX σ nr nW ng I) (hK : MK ℓ ab nW I) (hab : -1 ≤ ab ∧ ab ≤ 100) (hDV : DV δ nr nW) (hD : DM δ nr nW I) {w r : Nat} (hw : w < nW) (hr : r < nr) : Mc g 2 m_X8_may 0 0 [vr 139, vi (w : Int), vi (r : Int)] (TT Ls tl) I L (RR tl) (qI fun z T' I' L' R' => z = (if mayS σ ℓ ab δ w r = true then 1 else 0) ∧ same (TT Ls tl) I L (RR tl) T' I' L' R') := by
  refine Mc_of rfl (Nat.le_of_ble_eq_true rfl) ?_
  obtain ⟨⟨s1, s2, s3, s4, s5⟩, v2, v3, v4⟩ := id hV
  have hb := begS_bd hV.1 hDV hw hr
  have e2 : I 142 r = σ 2 r := hX.2.2.1 r hr 2 (by omega)
  have e9 : I 149 w = σ 9 w := hX.2.2.2.1 w hw 2 (by omega)
  have eab := hK.2.1
  have wv := s4 w hw
  unfold WV at wv
  have yes : (¬ (w : Int) = ab ∧ rdyS σ ℓ δ w r ≤ σ 9 w) → mayS σ ℓ ab δ w r = true := fun h => decide_eq_true h
  have non : ¬ (¬ (w : Int) = ab ∧ rdyS σ ℓ δ w r ≤ σ 9 w) → ¬ mayS σ ℓ ab δ w r = true := fun h q => h (of_decide_eq_true q)
  refine r_iload_n d_X8_may_0 rfl ?_
  refine r_aload_n d_X8_may_1 rfl ?_
  refine r_geti d_X8_may_2 f_X8_121 (tt_139 _ _) (by decide) (by decide) ?_
  rw [eab]
  refine r_icmp_eq d_X8_may_5 (by omega) (by omega) (fun c5 => ?_) (fun c5 => ?_)
  · refine r_iconst d_X8_may_34 ?_
    refine r_zret d_X8_may_35 rfl (by omega) ?_
    first
    | exact ⟨_, rfl, by rw [if_pos (yes (by omega))], same_rf⟩
    | exact ⟨_, rfl, by rw [if_neg (non (by omega))], same_rf⟩
  · refine r_aload_n d_X8_may_8 rfl ?_
    refine r_iload_n d_X8_may_9 rfl ?_
    refine r_iload_n d_X8_may_10 rfl ?_
    refine r_V2i d_X8_may_11 (w_X8_288 _ rfl) (tt_139 _ _) rfl rfl (x_beginsAt hV hX hK.1 hDV hD hw hr) (by decide) (Nat.le_of_ble_eq_true rfl) (fun z11 T11 I11 L11 R11 h11 => ?_)
    obtain ⟨rfl, rfl, rfl, rfl, rfl⟩ := h11
    refine r_aload_n d_X8_may_14 rfl ?_
    refine r_getr d_X8_may_15 f_X8_16 (tt_139 _ _) (by decide) rfl (rr_139_3 _) ?_
    refine r_iload_n d_X8_may_18 rfl ?_
    refine r_ialdJ d_X8_may_19 (tt_142 _ _) rfl (by omega) (kk := ?_)
    rw [e2]
    refine r_iadd d_X8_may_20 ?_
    refine r_aload_n d_X8_may_21 rfl ?_
    refine r_getr d_X8_may_22 f_X8_37 (tt_139 _ _) (by decide) rfl (rr_139_11 _) ?_
    refine r_iload_n d_X8_may_25 rfl ?_
    refine r_ialdJ d_X8_may_26 (tt_149 _ _) rfl (by omega) (kk := ?_)
    rw [e9]
    refine r_icmp_gt d_X8_may_27 (by omega) (by omega) (fun c27 => ?_) (fun c27 => ?_)
    · refine r_iconst d_X8_may_34 ?_
      refine r_zret d_X8_may_35 rfl (by omega) ?_
      first
      | exact ⟨_, rfl, by rw [if_pos (yes (by omega))], same_rf⟩
      | exact ⟨_, rfl, by rw [if_neg (non (by omega))], same_rf⟩
    · refine r_iconst d_X8_may_30 ?_
      refine r_goto d_X8_may_31 ?_
      refine r_zret d_X8_may_35 rfl (by omega) ?_
      first
      | exact ⟨_, rfl, by rw [if_pos (yes (by omega))], same_rf⟩
      | exact ⟨_, rfl, by rw [if_neg (non (by omega))], same_rf⟩
theorem x_doRoom (hV : MV σ ℓ nr nW ng) (hX : MX σ nr nW ng I) (hl : I 139 17 = ℓ) (hDV : DV δ nr nW) (hD : DM δ nr nW I) {w r : Nat} (hw : w < nW) (hr : r < nr) : Mc g 2 m_X8_doRoom 0 0 [vr 139, vi (w : Int), vi (r : Int)] (TT Ls tl) I L (RR tl) (qV fun T' I' L' R' => T' = TT Ls tl ∧ R' = RR tl ∧ L' = L ∧ frb 175 180 I I' ∧ DM (doS σ ℓ δ w r) nr nW I') := by
  refine Mc_of rfl (Nat.le_of_ble_eq_true rfl) ?_
  obtain ⟨⟨s1, s2, s3, s4, s5⟩, v2, v3, v4⟩ := id hV
  have e2 : I 142 r = σ 2 r := hX.2.2.1 r hr 2 (by omega)
  have e0 : I 140 r = σ 0 r := hX.2.2.1 r hr 0 (by omega)
  obtain ⟨J, hJ⟩ : ∃ J, J = up2 I 177 r (w : Int) := ⟨_, rfl⟩
  have fJ : frb 177 178 I J := by rw [hJ]; exact frb_up frb_rf (by omega)
  have hXJ := MX_frb hX fJ (by omega)
  have hlJ : J 139 17 = ℓ := by rw [fJ 139 (by omega)]; exact hl
  have oJ : ∀ k, k ≠ 177 → J k = I k := fun k hk => by rw [hJ]; exact up2_ne _ _ hk
  have od : ∀ k, k ≠ 1 → up2 δ 1 r (w : Int) k = δ k := fun k hk => up2_ne _ _ hk
  have hDJ : DM (up2 δ 1 r (w : Int)) nr nW J := by
    refine ⟨fun q hq => ?_, fun v hv => ?_⟩
    · obtain ⟨a0, a1, a2, a3⟩ := hD.1 q hq
      rw [oJ 174 (by decide), oJ 178 (by decide), oJ 179 (by decide), od 0 (by decide), od 2 (by decide), od 3 (by decide)]
      refine ⟨a0, ?_, a2, a3⟩
      rw [hJ]
      by_cases e : q = r
      · rw [e, up2_at, up2_at]
      · rw [up2_nj _ _ e, up2_nj _ _ e]; exact a1
    · rw [oJ 176 (by decide), oJ 175 (by decide), od 4 (by decide), od 5 (by decide)]
      exact hD.2 v hv
  have hDVJ : DV (up2 δ 1 r (w : Int)) nr nW := by
    refine ⟨fun q hq => ?_, fun v hv => ?_⟩
    · obtain ⟨a0, a1, a2, a3⟩ := hDV.1 q hq
      rw [od 0 (by decide), od 2 (by decide), od 3 (by decide)]
      refine ⟨a0, ?_, a2, a3⟩
      by_cases e : q = r
      · rw [e, up2_at]; omega
      · rw [up2_nj _ _ e]; exact a1
    · rw [od 4 (by decide), od 5 (by decide)]
      exact hDV.2 v hv
  have eb : begS σ ℓ (up2 δ 1 r (w : Int)) w r = begS σ ℓ δ w r := by
    unfold begS
    rw [od 4 (by decide), od 5 (by decide), od 0 (by decide)]
  have hbc := x_beginsAt (g := g) (Ls := Ls) (tl := tl) (L := L) hV hXJ hlJ hDVJ hDJ hw hr
  rw [eb] at hbc
  obtain ⟨β, hβ⟩ : ∃ β, β = begS σ ℓ δ w r := ⟨_, rfl⟩
  rw [← hβ] at hbc
  have n1 : up2 J 178 r β 178 r = β := up2_at _ _ _ _
  have n2 : up2 J 178 r β 142 r = σ 2 r := by rw [up2_ne _ _ (by decide), hJ, up2_ne _ _ (by decide)]; exact e2
  have n3 : up2 (up2 J 178 r β) 179 r (β + σ 2 r) 179 r = β + σ 2 r := up2_at _ _ _ _
  have n4 : ∀ x, up2 (up2 (up2 J 178 r β) 179 r (β + σ 2 r)) 176 w x 140 r = σ 0 r := fun x => by rw [up2_ne _ _ (by decide), up2_ne _ _ (by decide), up2_ne _ _ (by decide), hJ, up2_ne _ _ (by decide)]; exact e0
  refine r_aload_n d_X8_doRoom_0 rfl ?_
  refine r_getr d_X8_doRoom_1 f_X8_130 (tt_139 _ _) (by decide) rfl (rr_139_59 _) ?_
  refine r_iload_n d_X8_doRoom_4 rfl ?_
  refine r_iload_n d_X8_doRoom_5 rfl ?_
  refine r_iastJ d_X8_doRoom_6 (tt_177 _ _) (by omega) rfl (by omega) (kk := ?_)
  rw [← hJ]
  refine r_aload_n d_X8_doRoom_7 rfl ?_
  refine r_getr d_X8_doRoom_8 f_X8_133 (tt_139 _ _) (by decide) rfl (rr_139_60 _) ?_
  refine r_iload_n d_X8_doRoom_11 rfl ?_
  refine r_aload_n d_X8_doRoom_12 rfl ?_
  refine r_iload_n d_X8_doRoom_13 rfl ?_
  refine r_iload_n d_X8_doRoom_14 rfl ?_
  refine r_V2i d_X8_doRoom_15 (w_X8_288 _ rfl) (tt_139 _ _) rfl rfl (hbc) (by decide) (Nat.le_of_ble_eq_true rfl) (fun z15 T15 I15 L15 R15 h15 => ?_)
  obtain ⟨rfl, rfl, rfl, rfl, rfl⟩ := h15
  refine r_iastJ d_X8_doRoom_18 (tt_178 _ _) (by omega) rfl (by omega) (kk := ?_)
  refine r_aload_n d_X8_doRoom_19 rfl ?_
  refine r_getr d_X8_doRoom_20 f_X8_136 (tt_139 _ _) (by decide) rfl (rr_139_61 _) ?_
  refine r_iload_n d_X8_doRoom_23 rfl ?_
  refine r_aload_n d_X8_doRoom_24 rfl ?_
  refine r_getr d_X8_doRoom_25 f_X8_133 (tt_139 _ _) (by decide) rfl (rr_139_60 _) ?_
  refine r_iload_n d_X8_doRoom_28 rfl ?_
  refine r_ialdJ d_X8_doRoom_29 (tt_178 _ _) rfl (by omega) (kk := ?_)
  rw [n1]
  refine r_aload_n d_X8_doRoom_30 rfl ?_
  refine r_getr d_X8_doRoom_31 f_X8_16 (tt_139 _ _) (by decide) rfl (rr_139_3 _) ?_
  refine r_iload_n d_X8_doRoom_34 rfl ?_
  refine r_ialdJ d_X8_doRoom_35 (tt_142 _ _) rfl (by omega) (kk := ?_)
  rw [n2]
  refine r_iadd d_X8_doRoom_36 ?_
  refine r_iastJ d_X8_doRoom_37 (tt_179 _ _) (by omega) rfl (by omega) (kk := ?_)
  refine r_aload_n d_X8_doRoom_38 rfl ?_
  refine r_getr d_X8_doRoom_39 f_X8_127 (tt_139 _ _) (by decide) rfl (rr_139_58 _) ?_
  refine r_iload_n d_X8_doRoom_42 rfl ?_
  refine r_aload_n d_X8_doRoom_43 rfl ?_
  refine r_getr d_X8_doRoom_44 f_X8_136 (tt_139 _ _) (by decide) rfl (rr_139_61 _) ?_
  refine r_iload_n d_X8_doRoom_47 rfl ?_
  refine r_ialdJ d_X8_doRoom_48 (tt_179 _ _) rfl (by omega) (kk := ?_)
  rw [n3]
  refine r_iastJ d_X8_doRoom_49 (tt_176 _ _) (by omega) rfl (by omega) (kk := ?_)
  refine r_aload_n d_X8_doRoom_50 rfl ?_
  refine r_getr d_X8_doRoom_51 f_X8_124 (tt_139 _ _) (by decide) rfl (rr_139_57 _) ?_
  refine r_iload_n d_X8_doRoom_54 rfl ?_
  refine r_aload_n d_X8_doRoom_55 rfl ?_
  refine r_getr d_X8_doRoom_56 f_X8_7 (tt_139 _ _) (by decide) rfl (rr_139_1 _) ?_
  refine r_iload_n d_X8_doRoom_59 rfl ?_
  refine r_ialdJ d_X8_doRoom_60 (tt_140 _ _) rfl (by omega) (kk := ?_)
  rw [n4]
  refine r_iastJ d_X8_doRoom_61 (tt_175 _ _) (by omega) rfl (by omega) (kk := ?_)
  refine r_vret d_X8_doRoom_62 rfl ?_
  refine ⟨rfl, rfl, rfl, rfl, frb_up (frb_up (frb_up (frb_up (frb_wd fJ (by omega) (by omega)) (by omega)) (by omega)) (by omega)) (by omega), fun q hq => ?_, fun v hv => ?_⟩
  · obtain ⟨a0, a1, a2, a3⟩ := hD.1 q hq
    have dn := doS_ne (σ := σ) (ℓ := ℓ) (δ := δ) (w := w) (r := r)
    refine ⟨?_, ?_, ?_, ?_⟩
    · rw [dn.2.1 q, up2_ne _ _ (show (174 : Nat) ≠ 175 by decide), up2_ne _ _ (show (174 : Nat) ≠ 176 by decide), up2_ne _ _ (show (174 : Nat) ≠ 179 by decide), up2_ne _ _ (show (174 : Nat) ≠ 178 by decide), oJ 174 (by decide)]; exact a0
    · rw [up2_ne _ _ (show (177 : Nat) ≠ 175 by decide), up2_ne _ _ (show (177 : Nat) ≠ 176 by decide), up2_ne _ _ (show (177 : Nat) ≠ 179 by decide), up2_ne _ _ (show (177 : Nat) ≠ 178 by decide), (hDJ.1 q hq).2.1]
      unfold doS
      rw [up2_ne _ _ (show (1 : Nat) ≠ 5 by decide), up2_ne _ _ (show (1 : Nat) ≠ 4 by decide), up2_ne _ _ (show (1 : Nat) ≠ 2 by decide), up2_ne _ _ (show (1 : Nat) ≠ 3 by decide)]
    · rw [up2_ne _ _ (show (178 : Nat) ≠ 175 by decide), up2_ne _ _ (show (178 : Nat) ≠ 176 by decide), up2_ne _ _ (show (178 : Nat) ≠ 179 by decide)]
      by_cases e : q = r
      · unfold doS
        rw [e, up2_at, up2_ne _ _ (show (2 : Nat) ≠ 5 by decide), up2_ne _ _ (show (2 : Nat) ≠ 4 by decide), up2_at]; exact hβ
      · rw [(dn.1 q e).2.1, up2_nj _ _ e, oJ 178 (by decide)]; exact a2
    · rw [up2_ne _ _ (show (179 : Nat) ≠ 175 by decide), up2_ne _ _ (show (179 : Nat) ≠ 176 by decide)]
      by_cases e : q = r
      · rw [e, up2_at, dn.2.2.2]
        unfold rdyS
        rw [hβ]
      · rw [(dn.1 q e).2.2, up2_nj _ _ e, up2_ne _ _ (show (179 : Nat) ≠ 178 by decide), oJ 179 (by decide)]; exact a3
  · have dn := doS_ne (σ := σ) (ℓ := ℓ) (δ := δ) (w := w) (r := r)
    obtain ⟨a4, a5⟩ := hD.2 v hv
    rw [up2_ne _ _ (show (176 : Nat) ≠ 175 by decide)]
    by_cases e : v = w
    · subst e
      rw [up2_at, up2_at]
      unfold doS
      rw [up2_ne _ _ (show (4 : Nat) ≠ 5 by decide), up2_at, up2_at]
      unfold rdyS
      rw [hβ]
      exact ⟨rfl, rfl⟩
    · rw [(dn.2.2.1 v e).1, (dn.2.2.1 v e).2, up2_nj _ _ e, up2_nj _ _ e, up2_ne _ _ (show (176 : Nat) ≠ 179 by decide), up2_ne _ _ (show (176 : Nat) ≠ 178 by decide), up2_ne _ _ (show (175 : Nat) ≠ 176 by decide), up2_ne _ _ (show (175 : Nat) ≠ 179 by decide), up2_ne _ _ (show (175 : Nat) ≠ 178 by decide), oJ 176 (by decide), oJ 175 (by decide)]
      exact ⟨a4, a5⟩
end X76
