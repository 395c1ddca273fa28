section C47
variable {g : sG} {Ls : Nat} {tl : List Nat} {I L : sI} {σ : Sg} {ℓ ab : Int} {nr nw nW ng : Nat}
/-- how long a guest waits by a way -/
def WT (σ : Sg) (ℓ ab : Int) (nr nW ng : Nat) (kd : Int) (od tr tw : Nat → Nat) (tn : Nat) (how : Int) (q way : Nat) (x : Int) : Prop := ∃ z ro, DC σ ℓ ab nr nW ng kd od tr tw tn way how z ro ∧ x = wkS σ (planX σ ℓ ab (fun r => pmS σ r ng) nr nW kd od tr tw tn way 3) q (ro q) ∧ 0 ≤ x ∧ x ≤ 44
theorem c_waitByWays (hB : XB σ ℓ ab nr nw nW ng I L) (h0 : 0 < nr) {q tn : Nat} {kd nn : Int} {tr tw : Nat → Nat} (hU : UX tl q kd nn tr tw tn I) {how : Int} (hh : how = 0 ∨ how = 1) {u : Nat} (hu : u < ng) : Mc g 12 m_X7_waitByWays 0 0 [vr 3, vr (186 + 3 * q), vi how, vi (u : Int)] (TT Ls tl) I L (RR tl) (qV fun T' I' L' R' => T' = TT Ls tl ∧ R' = RR tl ∧ frb 70 138 I I' ∧ frb 81 120 L L' ∧ XB σ ℓ ab nr nw nW ng I' L' ∧ ∃ (od : Nat → Nat), ODS σ ℓ ab nr nW ng kd nn od ∧ (∀ way, way < 2 ^ chn σ nr → WT σ ℓ ab nr nW ng kd od tr tw tn how u way (I' 137 way))) := by
  refine Mc_of rfl (Nat.le_of_ble_eq_true rfl) ?_
  obtain ⟨b1, b2, b3, b4, b5, b6, b7, b8⟩ := id hB
  obtain ⟨v1, v2, v3, v4, v5, v6, v7⟩ := id b1
  have hpw := p2 v7
  have hq := hU.1
  have hk := hU.2.2.2.2.1
  obtain ⟨hw, rfl⟩ : ∃ hw : Nat, nn = (hw : Int) := ⟨nn.toNat, by have := hU.2.2.2.2.2.1; omega⟩
  have hhw : hw < 2 := by have := hU.2.2.2.2.2.1; omega
  have ek : I (186 + 3 * q) 0 = kd := hU.2.2.1
  have en : I (186 + 3 * q) 1 = (hw : Int) := hU.2.2.2.1
  obtain ⟨Q, hQ⟩ : ∃ Q : sQ, Q = (qV fun T' I' L' R' => T' = TT Ls tl ∧ R' = RR tl ∧ frb 70 138 I I' ∧ frb 81 120 L L' ∧ XB σ ℓ ab nr nw nW ng I' L' ∧ ∃ (od : Nat → Nat), ODS σ ℓ ab nr nW ng kd (hw : Int) od ∧ (∀ way, way < 2 ^ chn σ nr → WT σ ℓ ab nr nW ng kd od tr tw tn how u way (I' 137 way))) := ⟨_, rfl⟩
  rw [← hQ]
  have loop : ∀ (oa : Nat) (od : Nat → Nat), ODS σ ℓ ab nr nW ng kd (hw : Int) od → (∀ k, k < nr → od k < nr) → (oa < 70 ∨ 122 ≤ oa) ∧ oa ≠ 137 → ∀ (k b : Nat) (I1 L1 : sI), b + k = 2 ^ chn σ nr → frb 70 138 I I1 → frb 81 120 L L1 → XB σ ℓ ab nr nw nW ng I1 L1 → OX Ls tl nr oa od I1 → (∀ way, way < b → WT σ ℓ ab nr nW ng kd od tr tw tn how u way (I1 137 way)) → Cp g 12 m_X7_waitByWays 0 0 Q 20 [(0, vr 3), (1, vr (186 + 3 * q)), (2, vi how), (3, vi (u : Int)), (4, vr oa), (5, vi (b : Int))] [] (TT Ls tl) I1 L1 (RR tl) := by
    intro oa od hod hodr hoa k
    induction k with
    | zero =>
      intro b I1 L1 hbk f fL hB1 hO hC
      have hb : b = 2 ^ chn σ nr := by omega
      obtain ⟨⟨on, t1, -⟩, -⟩ := id hO
      refine r_iload d_X7_waitByWays_20 rfl ?_
      refine r_aload_n d_X7_waitByWays_22 rfl ?_
      refine r_getr d_X7_waitByWays_23 f_X7_19 (tt_3 _ _) (by decide) rfl (rr_3_1 _) ?_
      refine r_V0i d_X7_waitByWays_26 (w_X7_210 _ rfl) (tt_8 _ _) rfl rfl (c_wayCount b1 hB1.2.2.1) (by decide) (Nat.le_of_ble_eq_true rfl) (fun z26 T26 I26 L26 R26 h26 => ?_)
      obtain ⟨rfl, rfl, rfl, rfl, rfl⟩ := h26
      refine r_icmp_ge d_X7_waitByWays_29 (by omega) (by omega) (fun c29 => ?_) (fun c29 => absurd c29 (by omega))
      refine r_vret d_X7_waitByWays_71 rfl ?_
      rw [hQ]
      rw [hb] at hC
      exact ⟨rfl, rfl, rfl, f, fL, hB1, od, hod, hC⟩
    | succ k ih =>
      intro b I1 L1 hbk f fL hB1 hO hC
      have hb8 : b < 8 := by omega
      obtain ⟨⟨on, t1, -⟩, -⟩ := id hO
      obtain ⟨Δ, hΔ⟩ : ∃ Δ, Δ = planX σ ℓ ab (fun r => pmS σ r ng) nr nW kd od tr tw tn b := ⟨_, rfl⟩
      have hDV : DV Δ nr nW := by rw [hΔ]; exact DV_plan b2 hodr
      refine r_iload d_X7_waitByWays_20 rfl ?_
      refine r_aload_n d_X7_waitByWays_22 rfl ?_
      refine r_getr d_X7_waitByWays_23 f_X7_19 (tt_3 _ _) (by decide) rfl (rr_3_1 _) ?_
      refine r_V0i d_X7_waitByWays_26 (w_X7_210 _ rfl) (tt_8 _ _) rfl rfl (c_wayCount b1 hB1.2.2.1) (by decide) (Nat.le_of_ble_eq_true rfl) (fun z26 T26 I26 L26 R26 h26 => ?_)
      obtain ⟨rfl, rfl, rfl, rfl, rfl⟩ := h26
      refine r_icmp_ge d_X7_waitByWays_29 (by omega) (by omega) (fun c29 => absurd c29 (by omega)) (fun c29 => ?_)
      refine r_aload_n d_X7_waitByWays_32 rfl ?_
      refine r_aload_n d_X7_waitByWays_33 rfl ?_
      refine r_aload d_X7_waitByWays_34 rfl ?_
      refine r_iload d_X7_waitByWays_36 rfl ?_
      refine r_iload_n d_X7_waitByWays_38 rfl ?_
      refine r_V4i d_X7_waitByWays_39 (w_X7_186 _ rfl) (tt_3 _ _) rfl rfl (c_dayCost (way := b) (how := how) hB1 h0 (UX_frb hU f (by omega)) hO hb8 hh) (by decide) (Nat.le_of_ble_eq_true rfl) (fun z39 T39 I39 L39 R39 h39 => ?_)
      obtain ⟨rfl, rfl, y1, y2, y3, y4⟩ := h39
      have hB2 := XB_day hB1 (fun a ha => y1 a (by omega)) (KNX_frb hB1.2.2.2.2.2.1 (fun a ha => y1 a (by omega))) y2
      rw [← hΔ] at y3
      have hrd : ∀ r, r < nr → I39 76 r = Δ 3 r ∧ -1 ≤ Δ 3 r ∧ Δ 3 r ≤ 44 := fun r hr => ⟨(y3.1 r hr).2.2.2, (hDV.1 r hr).2.2.2⟩
      have hro := GVX_ro y4 v1 hu
      refine r_pop d_X7_waitByWays_42 rfl ?_
      refine r_aload_n d_X7_waitByWays_43 rfl ?_
      refine r_getr d_X7_waitByWays_44 f_X7_57 (tt_3 _ _) (by decide) rfl (rr_3_8 _) ?_
      refine r_iload d_X7_waitByWays_47 rfl ?_
      refine r_aload_n d_X7_waitByWays_49 rfl ?_
      refine r_getr d_X7_waitByWays_50 f_X7_44 (tt_3 _ _) (by decide) rfl (rr_3_6 _) ?_
      refine r_aload_n d_X7_waitByWays_53 rfl ?_
      refine r_getr d_X7_waitByWays_54 f_X7_37 (tt_3 _ _) (by decide) rfl (rr_3_5 _) ?_
      refine r_getr d_X7_waitByWays_57 f_X7_180 (tt_63 _ _) (by decide) rfl (rr_63_11 _) ?_
      refine r_iload_n d_X7_waitByWays_60 rfl ?_
      refine r_V2i d_X7_waitByWays_61 (w_X7_193 _ rfl) (tt_77 _ _) rfl rfl (c_waitOf b1 hB2.2.2.1 hu hro hrd) (by decide) (Nat.le_of_ble_eq_true rfl) (fun z61 T61 I61 L61 R61 h61 => ?_)
      obtain ⟨rfl, rfl, rfl, rfl, rfl⟩ := h61
      refine r_iastJ d_X7_waitByWays_64 (tt_137 _ _) (by omega) rfl (by omega) (kk := ?_)
      refine r_iinc d_X7_waitByWays_65 rfl (by decide) ?_
      refine r_goto d_X7_waitByWays_68 ?_
      refine CpL (ih (b + 1) _ L39 (by omega) (frb_up (frb_tr f (fun a ha => y1 a (by omega))) (by omega)) (frb_tr fL y2) (XB_day hB2 (fun a ha => up2_ne _ _ (by omega)) (KNX_frb hB2.2.2.2.2.2.1 (fun a ha => up2_ne _ _ (by omega))) frb_rf) ?_ (fun way hwy => ?_)) (by repeat (first | exact trivial | refine ⟨rfl, ?_⟩))
      · have hO2 := OX_frb hO y1
        exact ⟨hO2.1, hO2.2.1, fun k hk => by rw [up2_ne _ _ hoa.2]; exact hO2.2.2 k hk⟩
      · by_cases e : way = b
        · subst e
          rw [up2_at]
          refine ⟨_, _, y4, by rw [hΔ], ?_⟩
          exact wkS_bd (nr := nr) (ng := ng) (v6 u hu) (fun r hr => (hrd r hr).2) (by rcases hro with h | ⟨ρ, h, h2⟩ <;> omega)
        · rw [up2_nj _ _ e, y1 137 (by omega)]; exact hC way (by omega)
  refine r_aload_n d_X7_waitByWays_0 rfl ?_
  refine r_getr d_X7_waitByWays_1 f_X7_53 (tt_3 _ _) (by decide) rfl (rr_3_7 _) ?_
  refine r_aload_n d_X7_waitByWays_4 rfl ?_
  refine r_geti d_X7_waitByWays_5 f_X7_160 (ttr_0 hq) (by decide) (by decide) ?_
  refine r_aload_n d_X7_waitByWays_8 rfl ?_
  refine r_geti d_X7_waitByWays_9 f_X7_163 (ttr_0 hq) (by decide) (by decide) ?_
  rw [ek, en]
  refine r_V2r d_X7_waitByWays_12 (w_X7_166 _ rfl) (tt_122 _ _) rfl rfl (c_orderFor b1 b2 h0 b3 b4 b5 b7 b6 hk hhw) (by decide) (Nat.le_of_ble_eq_true rfl) (fun z12 T12 I12 L12 R12 h12 => ?_)
  obtain ⟨rfl, rfl, f1, f2, k, c1, c2⟩ := h12
  obtain ⟨hB1, od, hod, hO⟩ := order_post (Ls := Ls) (tl := tl) hB hhw f1 f2 k c1 c2
  obtain ⟨⟨on, t1, -⟩, -⟩ := id hO
  have hz : z12 ≠ 137 := fun e => by
    by_cases hc : kd = 5 ∧ nr ≤ 6
    · have := (c2 hc).1; omega
    · have := c1 hc; omega
  refine r_astore d_X7_waitByWays_15 (by decide) ?_
  refine r_iconst d_X7_waitByWays_17 ?_
  refine r_istore d_X7_waitByWays_18 (by decide) ?_
  exact CpL (loop z12 od hod (fun k hk => (hO.2.2 k hk).1) ⟨hO.2.1, hz⟩ (2 ^ chn σ nr) 0 I12 L12 (by omega) (frb_wd f1 (by omega) (by omega)) f2 hB1 hO (fun way h => absurd h (by omega))) (by repeat (first | exact trivial | refine ⟨rfl, ?_⟩))
end C47
