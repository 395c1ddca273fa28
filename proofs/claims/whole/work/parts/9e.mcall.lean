section X9e
variable {g : sG} {Ls : Nat} {T : sT} {R : sR} {I L : sI} {σ δ : Sg} {ℓ ab : Int} {nr nw nW ng : Nat} {tl : List Nat} {ukd unn : Nat → Int} {utr utw : Nat → Nat → Nat}
theorem x_isCalled (hV : MV σ ℓ nr nW ng) (hX : MX σ nr nW ng I) {room : Int} (hr : i32 room) : Mc g 2 m_X8_isCalled 0 0 [vr 139, vi room] (TT Ls tl) I L (RR tl) (qI fun z T' I' L' R' => z = (if (0 ≤ room ∧ room < nr) ∧ (σ 6 room.toNat = -1 ∧ σ 4 room.toNat ≠ -1) then 1 else 0) ∧ same (TT Ls tl) I L (RR tl) T' I' L' R') := by
  refine Mc_of rfl (Nat.le_of_ble_eq_true rfl) ?_
  have hr2 : -2147483648 ≤ room ∧ room ≤ 2147483647 := hr
  have hrm := x_isRoom (g := g) (Ls := Ls) (tl := tl) (L := L) hr2 hX.1 hV.1.1
  have h8 := hV.1.1
  by_cases c1 : 0 ≤ room ∧ room < (nr : Int)
  · rw [if_pos c1] at hrm
    obtain ⟨r, rfl⟩ : ∃ r : Nat, room = (r : Int) := ⟨room.toNat, by omega⟩
    have hrn : r < nr := by omega
    have e4 : I 144 r = σ 4 r := hX.2.2.1 r hrn 4 (by omega)
    have e6 : I 146 r = σ 6 r := hX.2.2.1 r hrn 6 (by omega)
    have rv := hV.1.2.2.1 r hrn
    unfold RV at rv
    rw [Int.toNat_natCast]
    by_cases c4 : σ 4 r = -1
    · skip
      refine r_aload_n d_X8_isCalled_0 rfl ?_
      refine r_iload_n d_X8_isCalled_1 rfl ?_
      refine r_V1i d_X8_isCalled_2 (w_X8_253 _ rfl) (tt_139 _ _) rfl rfl (hrm) (by decide) (Nat.le_of_ble_eq_true rfl) (fun z2 T2 I2 L2 R2 h2 => ?_)
      obtain ⟨rfl, rfl, rfl, rfl, rfl⟩ := h2
      refine r_if_eq d_X8_isCalled_5 (by omega) (fun c5 => absurd c5 (by decide)) (fun c5 => ?_)
      refine r_aload_n d_X8_isCalled_8 rfl ?_
      refine r_getr d_X8_isCalled_9 f_X8_22 (tt_139 _ _) (by decide) rfl (rr_139_5 _) ?_
      refine r_iload_n d_X8_isCalled_12 rfl ?_
      refine r_ialdJ d_X8_isCalled_13 (tt_144 _ _) rfl (by omega) (kk := ?_)
      rw [e4]
      refine r_iconst d_X8_isCalled_14 ?_
      refine r_icmp_eq d_X8_isCalled_15 (by omega) (by omega) (fun c15 => ?_) (fun c15 => absurd c15 (by exact fun q => q c4))
      refine r_iconst d_X8_isCalled_32 ?_
      refine r_zret d_X8_isCalled_33 rfl (by omega) ?_
      exact ⟨_, rfl, by rw [if_neg (fun p => p.2.2 c4)], same_rf⟩
    · by_cases c6 : σ 6 r = -1
      · skip
        refine r_aload_n d_X8_isCalled_0 rfl ?_
        refine r_iload_n d_X8_isCalled_1 rfl ?_
        refine r_V1i d_X8_isCalled_2 (w_X8_253 _ rfl) (tt_139 _ _) rfl rfl (hrm) (by decide) (Nat.le_of_ble_eq_true rfl) (fun z2 T2 I2 L2 R2 h2 => ?_)
        obtain ⟨rfl, rfl, rfl, rfl, rfl⟩ := h2
        refine r_if_eq d_X8_isCalled_5 (by omega) (fun c5 => absurd c5 (by decide)) (fun c5 => ?_)
        refine r_aload_n d_X8_isCalled_8 rfl ?_
        refine r_getr d_X8_isCalled_9 f_X8_22 (tt_139 _ _) (by decide) rfl (rr_139_5 _) ?_
        refine r_iload_n d_X8_isCalled_12 rfl ?_
        refine r_ialdJ d_X8_isCalled_13 (tt_144 _ _) rfl (by omega) (kk := ?_)
        rw [e4]
        refine r_iconst d_X8_isCalled_14 ?_
        refine r_icmp_eq d_X8_isCalled_15 (by omega) (by omega) (fun c15 => absurd c15 (by exact c4)) (fun c15 => ?_)
        refine r_aload_n d_X8_isCalled_18 rfl ?_
        refine r_getr d_X8_isCalled_19 f_X8_28 (tt_139 _ _) (by decide) rfl (rr_139_7 _) ?_
        refine r_iload_n d_X8_isCalled_22 rfl ?_
        refine r_ialdJ d_X8_isCalled_23 (tt_146 _ _) rfl (by omega) (kk := ?_)
        rw [e6]
        refine r_iconst d_X8_isCalled_24 ?_
        refine r_icmp_ne d_X8_isCalled_25 (by omega) (by omega) (fun c25 => absurd c25 (by exact fun q => q c6)) (fun c25 => ?_)
        refine r_iconst d_X8_isCalled_28 ?_
        refine r_goto d_X8_isCalled_29 ?_
        refine r_zret d_X8_isCalled_33 rfl (by omega) ?_
        exact ⟨_, rfl, by rw [if_pos ⟨c1, c6, c4⟩], same_rf⟩
      · skip
        refine r_aload_n d_X8_isCalled_0 rfl ?_
        refine r_iload_n d_X8_isCalled_1 rfl ?_
        refine r_V1i d_X8_isCalled_2 (w_X8_253 _ rfl) (tt_139 _ _) rfl rfl (hrm) (by decide) (Nat.le_of_ble_eq_true rfl) (fun z2 T2 I2 L2 R2 h2 => ?_)
        obtain ⟨rfl, rfl, rfl, rfl, rfl⟩ := h2
        refine r_if_eq d_X8_isCalled_5 (by omega) (fun c5 => absurd c5 (by decide)) (fun c5 => ?_)
        refine r_aload_n d_X8_isCalled_8 rfl ?_
        refine r_getr d_X8_isCalled_9 f_X8_22 (tt_139 _ _) (by decide) rfl (rr_139_5 _) ?_
        refine r_iload_n d_X8_isCalled_12 rfl ?_
        refine r_ialdJ d_X8_isCalled_13 (tt_144 _ _) rfl (by omega) (kk := ?_)
        rw [e4]
        refine r_iconst d_X8_isCalled_14 ?_
        refine r_icmp_eq d_X8_isCalled_15 (by omega) (by omega) (fun c15 => absurd c15 (by exact c4)) (fun c15 => ?_)
        refine r_aload_n d_X8_isCalled_18 rfl ?_
        refine r_getr d_X8_isCalled_19 f_X8_28 (tt_139 _ _) (by decide) rfl (rr_139_7 _) ?_
        refine r_iload_n d_X8_isCalled_22 rfl ?_
        refine r_ialdJ d_X8_isCalled_23 (tt_146 _ _) rfl (by omega) (kk := ?_)
        rw [e6]
        refine r_iconst d_X8_isCalled_24 ?_
        refine r_icmp_ne d_X8_isCalled_25 (by omega) (by omega) (fun c25 => ?_) (fun c25 => absurd c25 (by exact c6))
        refine r_iconst d_X8_isCalled_32 ?_
        refine r_zret d_X8_isCalled_33 rfl (by omega) ?_
        exact ⟨_, rfl, by rw [if_neg (fun p => c6 p.2.1)], same_rf⟩
  · rw [if_neg c1] at hrm
    refine r_aload_n d_X8_isCalled_0 rfl ?_
    refine r_iload_n d_X8_isCalled_1 rfl ?_
    refine r_V1i d_X8_isCalled_2 (w_X8_253 _ rfl) (tt_139 _ _) rfl rfl (hrm) (by decide) (Nat.le_of_ble_eq_true rfl) (fun z2 T2 I2 L2 R2 h2 => ?_)
    obtain ⟨rfl, rfl, rfl, rfl, rfl⟩ := h2
    refine r_if_eq d_X8_isCalled_5 (by omega) (fun c5 => ?_) (fun c5 => absurd c5 (by decide))
    refine r_iconst d_X8_isCalled_32 ?_
    refine r_zret d_X8_isCalled_33 rfl (by omega) ?_
    exact ⟨_, rfl, by rw [if_neg (fun p => c1 p.1)], same_rf⟩
theorem x_worthOfCall (hM : MB σ ℓ ab nr nW ng tl ukd unn utr utw I) {hw r : Nat} (hh : hw < 2) (h6 : nr ≤ 6) (hr : r < nr) (hr4 : σ 4 r ≠ -1) (hr6 : σ 6 r = -1) : Mc g 8 m_X8_worthOfCall 0 0 [vr 139, vi (hw : Int), vi (r : Int)] (TT Ls tl) I L (RR tl) (qI fun z T' I' L' R' => T' = TT Ls tl ∧ R' = RR tl ∧ L' = L ∧ FM I I' ∧ KNM σ ℓ ab nr nW ng I' ∧ (0 ≤ z ∧ z ≤ 96000000) ∧ WRT σ ℓ ab nr nW ng (hw : Int) (chn σ r) z) := by
  refine Mc_of rfl (Nat.le_of_ble_eq_true rfl) ?_
  obtain ⟨hV, hcan, hA, hab, hX, hK, hN, hR⟩ := id hM
  obtain ⟨⟨s1, s2, s3, s4, s5⟩, v2, v3, v4⟩ := id hV
  obtain ⟨C, hC⟩ := CCX_ex (how := (hw : Int)) (ab := ab) hV.1 v2 v3
  have hcl := chn_lt σ hr hr4
  have hp := p2 v4
  have h10 := p10 v4
  obtain ⟨l1, l2⟩ := ODR_len nr (by omega)
  refine r_aload_n d_X8_worthOfCall_0 rfl ?_
  refine r_iload_n d_X8_worthOfCall_1 rfl ?_
  refine r_aload_n d_X8_worthOfCall_2 rfl ?_
  refine r_iload_n d_X8_worthOfCall_3 rfl ?_
  refine r_V1i d_X8_worthOfCall_4 (w_X8_438 _ rfl) (tt_139 _ _) rfl rfl (x_bitOf hV hX (by omega)) (by decide) (Nat.le_of_ble_eq_true rfl) (fun z4 T4 I4 L4 R4 h4 => ?_)
  obtain ⟨rfl, rfl, rfl, rfl, rfl⟩ := h4
  refine r_V2v d_X8_worthOfCall_7 (w_X8_387 _ rfl) (tt_139 _ _) rfl rfl (x_layOrders (bit := chn σ r) hV hA hX hK hab hh hC (by omega) h6 (by omega)) (by decide) (Nat.le_of_ble_eq_true rfl) (fun T7 I7 L7 R7 h7 => ?_)
  obtain ⟨rfl, rfl, rfl, y1, y2, y3, y4, y68, y5, y6, y7, y8⟩ := h7
  refine r_aload_n d_X8_worthOfCall_10 rfl ?_
  refine r_getr d_X8_worthOfCall_11 f_X8_115 (tt_139 _ _) (by decide) rfl (rr_139_53 _) ?_
  refine r_iload_n d_X8_worthOfCall_14 rfl ?_
  refine r_iconst d_X8_worthOfCall_15 ?_
  refine r_zastJ d_X8_worthOfCall_16 (tt_173 _ _) (by omega) rfl (by omega) (by omega) (kk := ?_)
  refine r_aload_n d_X8_worthOfCall_17 rfl ?_
  refine r_geti d_X8_worthOfCall_18 f_X8_372 (tt_139 _ _) (by decide) (by decide) ?_
  refine r_aload_n d_X8_worthOfCall_21 rfl ?_
  refine r_geti d_X8_worthOfCall_22 f_X8_375 (tt_139 _ _) (by decide) (by decide) ?_
  refine r_isub d_X8_worthOfCall_25 ?_
  refine r_aload_n d_X8_worthOfCall_26 rfl ?_
  refine r_geti d_X8_worthOfCall_27 f_X8_378 (tt_139 _ _) (by decide) (by decide) ?_
  refine r_isub d_X8_worthOfCall_30 ?_
  refine r_iret d_X8_worthOfCall_31 rfl ?_
  have hB := BST_of s3 hcan v4 hC (by omega) y8
  have hW := WRT_of s3 hcan v4 hC (by omega) y8 hr hr4 hr6
  have o : ∀ k, up2 I7 173 hw 1 139 k = I7 139 k := fun k => by rw [up2_ne _ _ (by decide)]
  have hcb : ∀ i, i < (ODR nr).length → ∀ w, w < 2 ^ chn σ nr → -4000 ≤ C ((ODR nr).getD i []) w ∧ C ((ODR nr).getD i []) w ≤ 4000 := fun i hi w hw2 => by
    obtain ⟨ro, hro⟩ := y8 _ (ODR_get hi).1 w hw2
    have hDV := DV_lof (ab := ab) hV.1 ((ODR nr).getD i []) (opS σ w) (DV_op hV.1) (fun x hx => dfs_mem nr _ _ (ODR_get hi).1 x hx)
    exact GVX_bd v3 ⟨s1, v2⟩ (fun r hr => (hDV.1 r hr).2.2.2) hro
  have nn := worth_nn (T := fun i => sumN (fun w => wtM σ w nr * C ((ODR nr).getD i []) w) (2 ^ chn σ nr)) (S := fun i => soS9 σ nr (chn σ r) (C ((ODR nr).getD i [])) (2 ^ chn σ nr)) (La := fun i => laS9 σ nr (chn σ r) (C ((ODR nr).getD i [])) (2 ^ chn σ nr)) (N := (ODR nr).length) (by omega) (fun i => (sola _).symm)
  obtain ⟨-, b1, b1l, b1e⟩ := mn_low (F := fun i => sumN (fun w => wtM σ w nr * C ((ODR nr).getD i []) w) (2 ^ chn σ nr)) (N := (ODR nr).length) (by omega)
  obtain ⟨-, b2, b2l, b2e⟩ := mn_low (F := fun i => soS9 σ nr (chn σ r) (C ((ODR nr).getD i [])) (2 ^ chn σ nr)) (N := (ODR nr).length) (by omega)
  obtain ⟨-, b3, b3l, b3e⟩ := mn_low (F := fun i => laS9 σ nr (chn σ r) (C ((ODR nr).getD i [])) (2 ^ chn σ nr)) (N := (ODR nr).length) (by omega)
  have d1 := (sumN_bd (f := fun w => wtM σ w nr * C ((ODR nr).getD b1 []) w) (B := 4000000) (2 ^ chn σ nr) (fun w hw2 => mul_sg (by have := wtM_bd2 (σ := σ) (way := w) nr s3; omega) (hcb b1 b1l w hw2))).2
  have d2 := (sola_bd (bit := chn σ r) s3 v4 (show 2 ^ chn σ nr ≤ 8 by omega) (hcb b2 b2l)).1.1
  have d3 := (sola_bd (bit := chn σ r) s3 v4 (show 2 ^ chn σ nr ≤ 8 by omega) (hcb b3 b3l)).2.1
  refine ⟨_, rfl, rfl, rfl, rfl, FM_tr y1 ⟨fun a h1 h2 => by rw [up2_ne _ _ (by omega)], fun x _ => o x⟩, ?_, ?_, ?_⟩
  · intro h2 hh2
    have e183 : up2 I7 173 hw 1 183 = I7 183 := up2_ne _ _ (by decide)
    rw [e183]
    by_cases e : h2 = hw
    · subst e
      exact Or.inr ⟨by rw [up2_at], _, hB, y7⟩
    · rw [up2_nj _ _ e, y2]
      rcases hN h2 hh2 with q | ⟨q, lf, q1, q2⟩
      · exact Or.inl q
      · refine Or.inr ⟨q, lf, q1, fun x hx3 => ?_⟩
        obtain ⟨y, z1, z2, z3⟩ := q2 x hx3
        exact ⟨y, z1, z2, by show I7 183 (6 * h2 + x) = _; rw [y4 _ (by omega)]; exact z3⟩
  · rw [o, o, o, y68, y5, y6]
    refine ⟨nn, ?_⟩
    rw [b1e, b2e, b3e]
    show sumN (fun w => wtM σ w nr * C ((ODR nr).getD b1 []) w) (2 ^ chn σ nr) - soS9 σ nr (chn σ r) (C ((ODR nr).getD b2 [])) (2 ^ chn σ nr) - laS9 σ nr (chn σ r) (C ((ODR nr).getD b3 [])) (2 ^ chn σ nr) ≤ 96000000
    omega
  · rw [o, o, o, y68, y5, y6]; exact hW
end X9e
