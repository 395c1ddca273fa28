/-! how sure: the reference -/
def WTA (σ : Sg) (ℓ ab : Int) (nr nW ng : Nat) (kd nn : Int) (tr tw : Nat → Nat) (tn : Nat) (how : Int) (u : Nat) (W : Nat → Int) (n : Nat) : Prop := ∀ way, way < n → ∃ od, ODS σ ℓ ab nr nW ng kd nn od ∧ WT σ ℓ ab nr nW ng kd od tr tw tn how u way (W way)
theorem CH_of {σ : Sg} {ℓ ab : Int} {nr nW ng : Nat} {kd nn : Int} {tr tw : Nat → Nat} {tn : Nat} {how : Int} {u : Nat} {W : Nat → Int} (hS : SV σ ℓ nr nW) (hg8 : ng ≤ 8) (hg : ∀ q, q < ng → GV σ q) (h : WTA σ ℓ ab nr nW ng kd nn tr tw tn how u W (2 ^ chn σ nr)) : CH σ ℓ ab nr nW ng kd nn tr tw tn how u W := by
  obtain ⟨od, h1, h2⟩ := h 0 (Nat.two_pow_pos _)
  refine ⟨od, h1, fun way hw => ?_⟩
  obtain ⟨od', h3, z, ro, h4, h5, h6⟩ := h way hw
  have e := plan_od (tr := tr) (tw := tw) (tn := tn) hS hg8 hg h1 h3 (fun r => pmS σ r ng) way
  refine ⟨z, ro, ?_, ?_, h6⟩
  · unfold DC at h4 ⊢
    rw [e]; exact h4
  · rw [e]; exact h5
theorem WTX_ex {σ : Sg} {ℓ ab : Int} {nr nW ng : Nat} {kd nn : Int} {tr tw : Nat → Nat} {tn : Nat} {how : Int} {u : Nat} (hS : SV σ ℓ nr nW) (hg8 : ng ≤ 8) (hg : ∀ q, q < ng → GV σ q) (hu : u < ng) : ∃ W : Nat → Int, ∀ way x, (∃ od, ODS σ ℓ ab nr nW ng kd nn od ∧ WT σ ℓ ab nr nW ng kd od tr tw tn how u way x) → x = W way := by
  have h : ∀ way : Nat, ∃ c : Int, ∀ x, (∃ od, ODS σ ℓ ab nr nW ng kd nn od ∧ WT σ ℓ ab nr nW ng kd od tr tw tn how u way x) → x = c := fun way => by
    by_cases hx : ∃ x, ∃ od, ODS σ ℓ ab nr nW ng kd nn od ∧ WT σ ℓ ab nr nW ng kd od tr tw tn how u way x
    · obtain ⟨c, od, h1, h2⟩ := hx
      exact ⟨c, fun x ⟨od', h3, h4⟩ => WT_uq hS hg8 hg hu h3 h1 rfl h4 h2⟩
    · exact ⟨0, fun z hz => absurd ⟨z, hz⟩ hx⟩
  exact Classical.axiomOfChoice h
def wbM (σ : Sg) (nr : Nat) (W : Nat → Int) (qs : Int) (n : Nat) : Int := sumN (fun w => if W w ≤ qs then wtM σ w nr else 0) n
theorem wbM_bd {σ : Sg} {nr : Nat} {W : Nat → Int} {qs : Int} (hr : ∀ r, r < nr → RV σ r) (h3 : chn σ nr ≤ 3) : ∀ n, 0 ≤ wbM σ nr W qs n ∧ wbM σ nr W qs n ≤ n * 1000
  | 0 => by show (0 : Int) ≤ 0 ∧ (0 : Int) ≤ _; omega
  | n + 1 => by
    have ih := wbM_bd (W := W) (qs := qs) hr h3 n
    have h10 := p10 h3
    have := wtM_bd2 (σ := σ) (way := n) nr hr
    show 0 ≤ wbM σ nr W qs n + (if W n ≤ qs then wtM σ n nr else 0) ∧ wbM σ nr W qs n + (if W n ≤ qs then wtM σ n nr else 0) ≤ _
    split <;> omega
section X97
variable {g : sG} {Ls : Nat} {T : sT} {R : sR} {I L : sI} {σ δ : Sg} {ℓ ab : Int} {nr nw nW ng : Nat} {tl : List Nat} {ukd unn : Nat → Int} {utr utw : Nat → Nat → Nat}
/-- behind costBy: how long a guest waits -/
theorem x_waitsB {I' : sI} (hM : MB σ ℓ ab nr nW ng tl ukd unn utr utw I') {q way u : Nat} {how z : Int} (hu : u < ng) {od : Nat → Nat} (y4 : ∀ q, q < ng → -1 ≤ I' 181 q ∧ I' 181 q < nr) (y5 : ODS σ ℓ ab nr nW ng (ukd q) (unn q) od) (y6 : DC σ ℓ ab nr nW ng (ukd q) od (utr q) (utw q) (tl.getD q 0) way how z (I' 181)) (y7 : ∀ r, r < nr → I' 179 r = planX σ ℓ ab (fun r => pmS σ r ng) nr nW (ukd q) od (utr q) (utw q) (tl.getD q 0) way 3 r) : ∃ x : Int, (0 ≤ x ∧ x ≤ 44) ∧ WT σ ℓ ab nr nW ng (ukd q) od (utr q) (utw q) (tl.getD q 0) how u way x ∧ x = wkS σ (planX σ ℓ ab (fun r => pmS σ r ng) nr nW (ukd q) od (utr q) (utw q) (tl.getD q 0) way 3) u (I' 181 u) ∧ Mc g 1 m_X8_waits 0 0 [vr 139, vi (u : Int), vi (I' 181 u)] (TT Ls tl) I' L (RR tl) (qI fun z T' I'' L' R' => z = x ∧ same (TT Ls tl) I' L (RR tl) T' I'' L' R') := by
  obtain ⟨hV, hcan, hA, hab, hX, hK, hN, hR⟩ := id hM
  have hb := plan_bd (ng := ng) (ab := ab) (kd := ukd q) (tr := utr q) (tw := utw q) (tn := tl.getD q 0) (way := way) hV.1 (ODS_lt y5)
  have hw := x_waits (g := g) (Ls := Ls) (tl := tl) (L := L) hV hX (fun r hr => ⟨y7 r hr, hb r hr⟩) hu (y4 u hu)
  have bd := wkS_bd (ng := ng) (hV.2.2.1 u hu) hb (y4 u hu)
  exact ⟨_, bd, ⟨_, _, y6, rfl, bd⟩, rfl, hw⟩
theorem x_sureOf (hM : MB σ ℓ ab nr nW ng tl ukd unn utr utw I) {q u : Nat} (hq : q < tl.length) (h0 : 0 < nr) (hu : u < ng) {how qs : Int} (hh : how = 0 ∨ how = 1) (hqs : 0 ≤ qs ∧ qs ≤ 44) : Mc g 11 m_X8_sureOf 0 0 [vr 139, vi (q : Int), vi how, vi (u : Int), vi qs] (TT Ls tl) I L (RR tl) (qI fun z T' I' L' R' => T' = TT Ls tl ∧ R' = RR tl ∧ L' = L ∧ FM I I' ∧ KNM σ ℓ ab nr nW ng I' ∧ (0 ≤ z ∧ z ≤ 8000) ∧ ∃ W, CH σ ℓ ab nr nW ng (ukd q) (unn q) (utr q) (utw q) (tl.getD q 0) how u W ∧ z = wbS σ nr W qs (2 ^ chn σ nr)) := by
  refine Mc_of rfl (Nat.le_of_ble_eq_true rfl) ?_
  obtain ⟨hV, hcan, hA, hab, hX, hK, hN, hR⟩ := id hM
  obtain ⟨⟨s1, s2, s3, s4, s5⟩, v2, v3, v4⟩ := id hV
  have hp := p2 v4
  obtain ⟨W, hW⟩ := WTX_ex (ab := ab) (kd := ukd q) (nn := unn q) (tr := utr q) (tw := utw q) (tn := tl.getD q 0) (how := how) hV.1 v2 v3 hu
  obtain ⟨Q, hQ⟩ : ∃ Q : sQ, Q = (qI fun z T' I' L' R' => T' = TT Ls tl ∧ R' = RR tl ∧ L' = L ∧ FM I I' ∧ KNM σ ℓ ab nr nW ng I' ∧ (0 ≤ z ∧ z ≤ 8000) ∧ ∃ W, CH σ ℓ ab nr nW ng (ukd q) (unn q) (utr q) (utw q) (tl.getD q 0) how u W ∧ z = wbS σ nr W qs (2 ^ chn σ nr)) := ⟨_, rfl⟩
  rw [← hQ]
  have loop : ∀ (k way : Nat) (I1 : sI), way + k = 2 ^ chn σ nr → FM I I1 → KNM σ ℓ ab nr nW ng I1 → WTA σ ℓ ab nr nW ng (ukd q) (unn q) (utr q) (utw q) (tl.getD q 0) how u W way → Cp g 11 m_X8_sureOf 0 0 Q 6 [(0, vr 139), (1, vi (q : Int)), (2, vi how), (3, vi (u : Int)), (4, vi qs), (5, vi (wbM σ nr W qs way)), (6, vi (way : Int))] [] (TT Ls tl) I1 L (RR tl) := by
    intro k
    induction k with
    | zero =>
      intro way I1 hk f hN1 hd
      have ew : way = 2 ^ chn σ nr := by omega
      have hiw := x_isWay (g := g) (Ls := Ls) (tl := tl) (L := L) hV (MX_fm hX f) (way := (way : Int)) (by omega)
      rw [if_neg (by omega)] at hiw
      refine r_aload_n d_X8_sureOf_6 rfl ?_
      refine r_iload d_X8_sureOf_7 rfl ?_
      refine r_V1i d_X8_sureOf_9 (w_X8_272 _ rfl) (tt_139 _ _) rfl rfl (hiw) (by decide) (Nat.le_of_ble_eq_true rfl) (fun z9 T9 I9 L9 R9 h9 => ?_)
      obtain ⟨rfl, rfl, rfl, rfl, rfl⟩ := h9
      refine r_if_eq d_X8_sureOf_12 (by omega) (fun c12 => ?_) (fun c12 => absurd c12 (by decide))
      refine r_iload d_X8_sureOf_61 rfl ?_
      refine r_iret d_X8_sureOf_63 rfl ?_
      rw [hQ]
      have bd := wbM_bd (W := W) (qs := qs) s3 v4 way
      rw [ew] at hd
      have hch := CH_of hV.1 v2 v3 hd
      refine ⟨_, rfl, rfl, rfl, rfl, f, hN1, by omega, W, hch, ?_⟩
      rw [ew]
      exact wb_of hV.1 hcan v2 v3 hu hch qs
    | succ k ih =>
      intro way I1 hk f hN1 hd
      have hiw := x_isWay (g := g) (Ls := Ls) (tl := tl) (L := L) hV (MX_fm hX f) (way := (way : Int)) (by omega)
      rw [if_pos (by omega)] at hiw
      have es : wbM σ nr W qs (way + 1) = wbM σ nr W qs way + (if W way ≤ qs then wtM σ way nr else 0) := rfl
      have t34 : ∀ (I2 : sI) (x : Int), FM I I2 → KNM σ ℓ ab nr nW ng I2 → (0 ≤ x ∧ x ≤ 44) → x = W way → (∃ od, ODS σ ℓ ab nr nW ng (ukd q) (unn q) od ∧ WT σ ℓ ab nr nW ng (ukd q) od (utr q) (utw q) (tl.getD q 0) how u way x) → Cp g 11 m_X8_sureOf 0 0 Q 37 [(0, vr 139), (1, vi (q : Int)), (2, vi how), (3, vi (u : Int)), (4, vi qs), (5, vi (wbM σ nr W qs way)), (6, vi (way : Int))] [vi x, vi (wbM σ nr W qs way)] (TT Ls tl) I2 L (RR tl) := by
        intro I2 x f2 hN2 hx hxe hod
        have hd2 : WTA σ ℓ ab nr nW ng (ukd q) (unn q) (utr q) (utw q) (tl.getD q 0) how u W (way + 1) := fun w hw => by
          by_cases e : w = way
          · rw [e, ← hxe]; exact hod
          · exact hd w (by omega)
        by_cases hc : x ≤ qs
        · rw [← hxe, if_pos hc] at es
          refine r_iload d_X8_sureOf_37 rfl ?_
          refine r_icmp_gt d_X8_sureOf_39 (by omega) (by omega) (fun c39 => absurd c39 (by omega)) (fun c39 => ?_)
          refine r_aload_n d_X8_sureOf_42 rfl ?_
          refine r_iload d_X8_sureOf_43 rfl ?_
          refine r_V1i d_X8_sureOf_45 (w_X8_366 _ rfl) (tt_139 _ _) rfl rfl (x_weight hV (MX_fm hX f2) (by omega)) (by decide) (Nat.le_of_ble_eq_true rfl) (fun z45 T45 I45 L45 R45 h45 => ?_)
          obtain ⟨rfl, rfl, rfl, rfl, rfl⟩ := h45
          refine r_goto d_X8_sureOf_48 ?_
          refine r_iadd d_X8_sureOf_52 ?_
          refine r_istore d_X8_sureOf_53 (by decide) ?_
          refine r_iinc d_X8_sureOf_55 rfl (by decide) ?_
          refine r_goto d_X8_sureOf_58 ?_
          exact CpL (ih (way + 1) I2 (by omega) f2 hN2 hd2) (by repeat (first | exact trivial | refine ⟨rfl, ?_⟩ | refine ⟨by rw [es]; rfl, ?_⟩))
        · rw [← hxe, if_neg hc] at es
          refine r_iload d_X8_sureOf_37 rfl ?_
          refine r_icmp_gt d_X8_sureOf_39 (by omega) (by omega) (fun c39 => ?_) (fun c39 => absurd c39 (by omega))
          refine r_iconst d_X8_sureOf_51 ?_
          refine r_iadd d_X8_sureOf_52 ?_
          refine r_istore d_X8_sureOf_53 (by decide) ?_
          refine r_iinc d_X8_sureOf_55 rfl (by decide) ?_
          refine r_goto d_X8_sureOf_58 ?_
          exact CpL (ih (way + 1) I2 (by omega) f2 hN2 hd2) (by repeat (first | exact trivial | refine ⟨rfl, ?_⟩ | refine ⟨by rw [es]; rfl, ?_⟩))
      refine r_aload_n d_X8_sureOf_6 rfl ?_
      refine r_iload d_X8_sureOf_7 rfl ?_
      refine r_V1i d_X8_sureOf_9 (w_X8_272 _ rfl) (tt_139 _ _) rfl rfl (hiw) (by decide) (Nat.le_of_ble_eq_true rfl) (fun z9 T9 I9 L9 R9 h9 => ?_)
      obtain ⟨rfl, rfl, rfl, rfl, rfl⟩ := h9
      refine r_if_eq d_X8_sureOf_12 (by omega) (fun c12 => absurd c12 (by decide)) (fun c12 => ?_)
      refine r_aload_n d_X8_sureOf_15 rfl ?_
      refine r_iload_n d_X8_sureOf_16 rfl ?_
      refine r_iload d_X8_sureOf_17 rfl ?_
      refine r_iload_n d_X8_sureOf_19 rfl ?_
      refine r_V3i d_X8_sureOf_20 (w_X8_406 _ rfl) (tt_139 _ _) rfl rfl (x_costBy (MB_fm hM f hN1) hq (by omega) h0 hh) (by decide) (Nat.le_of_ble_eq_true rfl) (fun z20 T20 I20 L20 R20 h20 => ?_)
      obtain ⟨rfl, rfl, rfl, y1, y2, y3, y4, od, y5, y6, y7⟩ := h20
      obtain ⟨x, u1, u2, -, u3⟩ := x_waitsB (g := g) (Ls := Ls) (L := L20) (MB_fm hM (FM_tr f y1) y2) hu y4 y5 y6 y7
      refine r_pop d_X8_sureOf_23 rfl ?_
      refine r_iload d_X8_sureOf_24 rfl ?_
      refine r_aload_n d_X8_sureOf_26 rfl ?_
      refine r_iload_n d_X8_sureOf_27 rfl ?_
      refine r_aload_n d_X8_sureOf_28 rfl ?_
      refine r_getr d_X8_sureOf_29 f_X8_142 (tt_139 _ _) (by decide) rfl (rr_139_63 _) ?_
      refine r_iload_n d_X8_sureOf_32 rfl ?_
      refine r_ialdJ d_X8_sureOf_33 (tt_181 _ _) rfl (by omega) (kk := ?_)
      refine r_V2i d_X8_sureOf_34 (w_X8_339 _ rfl) (tt_139 _ _) rfl rfl (u3) (by decide) (Nat.le_of_ble_eq_true rfl) (fun z34 T34 I34 L34 R34 h34 => ?_)
      obtain ⟨rfl, rfl, rfl, rfl, rfl⟩ := h34
      exact CpL (t34 _ _ (FM_tr f y1) y2 u1 (hW way _ ⟨od, y5, u2⟩) ⟨od, y5, u2⟩) (by repeat (first | exact trivial | refine ⟨rfl, ?_⟩))
  refine r_iconst d_X8_sureOf_0 ?_
  refine r_istore d_X8_sureOf_1 (by decide) ?_
  refine r_iconst d_X8_sureOf_3 ?_
  refine r_istore d_X8_sureOf_4 (by decide) ?_
  exact CpL (loop _ 0 I (Nat.zero_add _) FM_rf hN (fun w hw => absurd hw (by omega))) (by repeat (first | exact trivial | refine ⟨rfl, ?_⟩))
end X97
