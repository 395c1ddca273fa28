section C49
variable {g : sG} {Ls : Nat} {tl : List Nat} {I L : sI} {σ : Sg} {ℓ : Int} {nr nw ng : Nat} {ukd unn : Nat → Int} {utr utw : Nat → Nat → Nat}
/-- a day of a rule costs z by a way -/
def CD (σ : Sg) (ℓ ab : Int) (nr nW ng : Nat) (kd nn : Int) (tr tw : Nat → Nat) (tn way : Nat) (how z : Int) : Prop := ∃ (od : Nat → Nat) (ro : Nat → Int), ODS σ ℓ ab nr nW ng kd nn od ∧ DC σ ℓ ab nr nW ng kd od tr tw tn way how z ro
def aCost (σ : Sg) (ℓ : Int) (nr nw ng : Nat) (tl : List Nat) (ukd unn : Nat → Int) (utr utw : Nat → Nat → Nat) (rule way how z : Int) : Prop := (rfS tl.length nr rule how ≠ 0 → z = rfS tl.length nr rule how) ∧ (rfS tl.length nr rule how = 0 → ¬ (0 ≤ way ∧ way < ((2 ^ chn σ nr : Nat) : Int)) → z = -102) ∧ (rfS tl.length nr rule how = 0 → (0 ≤ way ∧ way < ((2 ^ chn σ nr : Nat) : Int)) → CD σ ℓ (-1) nr nw ng (ukd rule.toNat) (unn rule.toNat) (utr rule.toNat) (utw rule.toNat) (tl.getD rule.toNat 0) way.toNat how z)
theorem c_cost (hX : XS σ ℓ nr nw ng tl ukd unn utr utw I L) {rule way how : Int} (hr : i32 rule) (hw : i32 way) (hh : i32 how) : Mc g 12 m_X7_cost 0 0 [vr 3, vi rule, vi way, vi how] (TT Ls tl) I L (RR tl) (AQ σ ℓ nr nw ng Ls tl ukd unn utr utw I L (aCost σ ℓ nr nw ng tl ukd unn utr utw rule way how)) := by
  refine Mc_of rfl (Nat.le_of_ble_eq_true rfl) ?_
  obtain ⟨hB, hR⟩ := id hX
  obtain ⟨b1, b2, b3, b4, b5, b6, b7, b8⟩ := id hB
  have h8 := b1.1
  have hpw := p2 b1.2.2.2.2.2.2
  have hrg := rfS_rg (nr := nr) (n := tl.length) (rule := rule) (how := how)
  have hrf := c_refusalOf (g := g) (Ls := Ls) (tl := tl) (L := L) hR.1 hR.2.1 b3.1 h8 hr hh
  by_cases hz : rfS tl.length nr rule how = 0
  · obtain ⟨ok1, ok2, ok3⟩ := rfS_ok hz
    obtain ⟨q, rfl⟩ : ∃ q : Nat, rule = (q : Int) := ⟨rule.toNat, by omega⟩
    have hq : q < tl.length := by omega
    have hU := hR.2.2 q hq
    have hql := hU.1
    rw [hz] at hrf
    by_cases hwy : 0 ≤ way ∧ way < ((2 ^ chn σ nr : Nat) : Int)
    · obtain ⟨wy, rfl⟩ : ∃ wy : Nat, way = (wy : Int) := ⟨way.toNat, by omega⟩
      obtain ⟨hn, hnn⟩ : ∃ hn : Nat, unn q = (hn : Int) := ⟨(unn q).toNat, by have := hU.2.2.2.2.2.1; omega⟩
      have hhn : hn < 2 := by have := hU.2.2.2.2.2.1; omega
      have ek : I (186 + 3 * q) 0 = ukd q := hU.2.2.1
      have en : I (186 + 3 * q) 1 = (hn : Int) := by rw [← hnn]; exact hU.2.2.2.1
      have hk := hU.2.2.2.2.1
      refine r_aload_n d_X7_cost_0 rfl ?_
      refine r_iload_n d_X7_cost_1 rfl ?_
      refine r_iload_n d_X7_cost_2 rfl ?_
      refine r_V2i d_X7_cost_3 (w_X7_197 _ rfl) (tt_3 _ _) rfl rfl (hrf) (by decide) (Nat.le_of_ble_eq_true rfl) (fun z3 T3 I3 L3 R3 h3 => ?_)
      obtain ⟨rfl, rfl, rfl, rfl, rfl⟩ := h3
      refine r_istore d_X7_cost_6 (by decide) ?_
      refine r_iload d_X7_cost_8 rfl ?_
      refine r_if_eq d_X7_cost_10 (by omega) (fun c10 => ?_) (fun c10 => absurd c10 (by decide))
      refine r_aload_n d_X7_cost_16 rfl ?_
      refine r_iload_n d_X7_cost_17 rfl ?_
      refine r_V1i d_X7_cost_18 (w_X7_150 _ rfl) (tt_3 _ _) rfl rfl (c_isWay b1 b3 hw) (by decide) (Nat.le_of_ble_eq_true rfl) (fun z18 T18 I18 L18 R18 h18 => ?_)
      obtain ⟨rfl, rfl, rfl, rfl, rfl⟩ := h18
      refine r_if_ne d_X7_cost_21 (by split <;> omega) (fun c21 => ?_) (fun c21 => absurd c21 (by rw [if_pos hwy]; decide))
      refine r_aload_n d_X7_cost_27 rfl ?_
      refine r_getr d_X7_cost_28 f_X7_28 (tt_3 _ _) (by decide) rfl (rr_3_3 _) ?_
      refine r_iload_n d_X7_cost_31 rfl ?_
      refine r_aaldJ d_X7_cost_32 (tt_62 _ _) (by decide) rfl (by have := hR.2.1; omega) (rrr_62 (by exact hq)) (kk := ?_)
      refine r_astore d_X7_cost_33 (by decide) ?_
      refine r_aload_n d_X7_cost_35 rfl ?_
      refine r_aload d_X7_cost_36 rfl ?_
      refine r_aload_n d_X7_cost_38 rfl ?_
      refine r_getr d_X7_cost_39 f_X7_53 (tt_3 _ _) (by decide) rfl (rr_3_7 _) ?_
      refine r_aload d_X7_cost_42 rfl ?_
      refine r_geti d_X7_cost_44 f_X7_160 (ttr_0 hql) (by decide) (by decide) ?_
      refine r_aload d_X7_cost_47 rfl ?_
      refine r_geti d_X7_cost_49 f_X7_163 (ttr_0 hql) (by decide) (by decide) ?_
      rw [ek, en]
      refine r_V2r d_X7_cost_52 (w_X7_166 _ rfl) (tt_122 _ _) rfl rfl (c_orderFor b1 b2 ok2 b3 b4 b5 b7 b6 hk hhn) (by decide) (Nat.le_of_ble_eq_true rfl) (fun z52 T52 I52 L52 R52 h52 => ?_)
      obtain ⟨rfl, rfl, f1, f2, k, c1, c2⟩ := h52
      obtain ⟨hB1, od, hod, hO⟩ := order_post (Ls := Ls) (tl := tl) hB hhn f1 f2 k c1 c2
      obtain ⟨⟨on, t1, -⟩, -⟩ := id hO
      rw [← hnn] at hod
      refine r_iload_n d_X7_cost_55 rfl ?_
      refine r_iload_n d_X7_cost_56 rfl ?_
      refine r_V4i d_X7_cost_57 (w_X7_186 _ rfl) (tt_3 _ _) rfl rfl (c_dayCost (way := wy) (how := how) hB1 ok2 (UX_frb hU f1 (by omega)) hO (by omega) ok3) (by decide) (Nat.le_of_ble_eq_true rfl) (fun z57 T57 I57 L57 R57 h57 => ?_)
      obtain ⟨rfl, rfl, y1, y2, y3, y4⟩ := h57
      refine r_iret d_X7_cost_60 rfl ?_
      have ff : frb 70 138 I I57 := frb_tr (frb_wd f1 (by omega) (by omega)) (frb_wd y1 (by omega) (by omega))
      refine ⟨_, rfl, rfl, rfl, ff, frb_tr f2 y2, ⟨XB_day hB1 (fun a ha => y1 a (by omega)) (KNX_frb k (fun a ha => y1 a (by omega))) y2, RX_frb hR ff (by omega) (by omega)⟩, fun h => absurd hz h, fun _ h => absurd hwy h, fun _ _ => ⟨od, I57 78, ?_, ?_⟩⟩
      · rw [Int.toNat_natCast]; exact hod
      · rw [Int.toNat_natCast, Int.toNat_natCast]; exact y4
    · skip
      refine r_aload_n d_X7_cost_0 rfl ?_
      refine r_iload_n d_X7_cost_1 rfl ?_
      refine r_iload_n d_X7_cost_2 rfl ?_
      refine r_V2i d_X7_cost_3 (w_X7_197 _ rfl) (tt_3 _ _) rfl rfl (hrf) (by decide) (Nat.le_of_ble_eq_true rfl) (fun z3 T3 I3 L3 R3 h3 => ?_)
      obtain ⟨rfl, rfl, rfl, rfl, rfl⟩ := h3
      refine r_istore d_X7_cost_6 (by decide) ?_
      refine r_iload d_X7_cost_8 rfl ?_
      refine r_if_eq d_X7_cost_10 (by omega) (fun c10 => ?_) (fun c10 => absurd c10 (by decide))
      refine r_aload_n d_X7_cost_16 rfl ?_
      refine r_iload_n d_X7_cost_17 rfl ?_
      refine r_V1i d_X7_cost_18 (w_X7_150 _ rfl) (tt_3 _ _) rfl rfl (c_isWay b1 b3 hw) (by decide) (Nat.le_of_ble_eq_true rfl) (fun z18 T18 I18 L18 R18 h18 => ?_)
      obtain ⟨rfl, rfl, rfl, rfl, rfl⟩ := h18
      refine r_if_ne d_X7_cost_21 (by split <;> omega) (fun c21 => absurd c21 (by rw [if_neg hwy]; decide)) (fun c21 => ?_)
      refine r_bipush d_X7_cost_24 (by decide) ?_
      refine r_iret d_X7_cost_26 rfl ?_
      exact XS_same hX ⟨fun h => absurd hz h, fun _ _ => rfl, fun _ h => absurd h hwy⟩
  · skip
    refine r_aload_n d_X7_cost_0 rfl ?_
    refine r_iload_n d_X7_cost_1 rfl ?_
    refine r_iload_n d_X7_cost_2 rfl ?_
    refine r_V2i d_X7_cost_3 (w_X7_197 _ rfl) (tt_3 _ _) rfl rfl (hrf) (by decide) (Nat.le_of_ble_eq_true rfl) (fun z3 T3 I3 L3 R3 h3 => ?_)
    obtain ⟨rfl, rfl, rfl, rfl, rfl⟩ := h3
    refine r_istore d_X7_cost_6 (by decide) ?_
    refine r_iload d_X7_cost_8 rfl ?_
    refine r_if_eq d_X7_cost_10 (by omega) (fun c10 => absurd c10 (by exact hz)) (fun c10 => ?_)
    refine r_iload d_X7_cost_13 rfl ?_
    refine r_iret d_X7_cost_15 rfl ?_
    exact XS_same hX ⟨fun _ => rfl, fun h => absurd h hz, fun h => absurd h hz⟩
theorem rgS_ok {n : Nat} {rule how guest : Int} (h : rgS n nr ng rule how guest = 0) : (0 ≤ rule ∧ rule < n) ∧ 0 < nr ∧ (how = 0 ∨ how = 1) ∧ (0 ≤ guest ∧ guest < ng) := by
  unfold rgS at h
  split at h
  · omega
  · next hn =>
    obtain ⟨h1, h2, h3⟩ := rfS_ok h
    refine ⟨h1, h2, h3, ?_⟩
    apply Classical.byContradiction
    intro h4
    exact hn ⟨h1, h2, h4⟩
theorem rgS_rg {n : Nat} {rule how guest : Int} : -103 ≤ rgS n nr ng rule how guest ∧ rgS n nr ng rule how guest ≤ 0 := by
  unfold rgS
  split
  · omega
  · exact rfS_rg
theorem wbS_bd {W : Nat → Int} {qs : Int} (hV : ∀ r, r < nr → RV σ r) (h3 : chn σ nr ≤ 3) : ∀ n, 0 ≤ wbS σ nr W qs n ∧ wbS σ nr W qs n ≤ n * 1000
  | 0 => by show (0 : Int) ≤ 0 ∧ (0 : Int) ≤ _; omega
  | n + 1 => by
    have ih := wbS_bd (W := W) (qs := qs) hV h3 n
    have hb := wtX_bd (σ := σ) (way := n) nr hV
    have h10 := p10 h3
    show 0 ≤ wbS σ nr W qs n + (if W n ≤ qs then wtX σ n nr else 0) ∧ wbS σ nr W qs n + (if W n ≤ qs then wtX σ n nr else 0) ≤ _
    split <;> omega
/-- the chance to wait no longer than qs -/
def CH (σ : Sg) (ℓ ab : Int) (nr nW ng : Nat) (kd nn : Int) (tr tw : Nat → Nat) (tn : Nat) (how : Int) (u : Nat) (W : Nat → Int) : Prop := ∃ od, ODS σ ℓ ab nr nW ng kd nn od ∧ ∀ way, way < 2 ^ chn σ nr → WT σ ℓ ab nr nW ng kd od tr tw tn how u way (W way)
def aSure (σ : Sg) (ℓ : Int) (nr nw ng : Nat) (tl : List Nat) (ukd unn : Nat → Int) (utr utw : Nat → Nat → Nat) (rule how guest qs part z : Int) : Prop := (rgS tl.length nr ng rule how guest ≠ 0 → z = rgS tl.length nr ng rule how guest) ∧ (rgS tl.length nr ng rule how guest = 0 → ¬ ((0 ≤ qs ∧ qs ≤ 44) ∧ (part = 0 ∨ part = 1)) → z = -102) ∧ (rgS tl.length nr ng rule how guest = 0 → ((0 ≤ qs ∧ qs ≤ 44) ∧ (part = 0 ∨ part = 1)) → ∃ W, CH σ ℓ (-1) nr nw ng (ukd rule.toNat) (unn rule.toNat) (utr rule.toNat) (utw rule.toNat) (tl.getD rule.toNat 0) how guest.toNat W ∧ z = gcS σ nr (wbS σ nr W qs (2 ^ chn σ nr)) part)
theorem c_sure (hX : XS σ ℓ nr nw ng tl ukd unn utr utw I L) {rule how guest qs part : Int} (hr : i32 rule) (hh : i32 how) (hgu : i32 guest) (hqs : i32 qs) (hp : i32 part) : Mc g 13 m_X7_sure 0 0 [vr 3, vi rule, vi how, vi guest, vi qs, vi part] (TT Ls tl) I L (RR tl) (AQ σ ℓ nr nw ng Ls tl ukd unn utr utw I L (aSure σ ℓ nr nw ng tl ukd unn utr utw rule how guest qs part)) := by
  refine Mc_of rfl (Nat.le_of_ble_eq_true rfl) ?_
  obtain ⟨hB, hR⟩ := id hX
  obtain ⟨b1, b2, b3, b4, b5, b6, b7, b8⟩ := id hB
  have h8 := b1.1
  have hpw := p2 b1.2.2.2.2.2.2
  have hrg := rgS_rg (nr := nr) (ng := ng) (n := tl.length) (rule := rule) (how := how) (guest := guest)
  have hrf := c_refusalOf_ (g := g) (Ls := Ls) (tl := tl) (L := L) hR.1 hR.2.1 b3.1 h8 b3.2.2.1 b1.2.2.1 hr hh hgu
  by_cases hz : rgS tl.length nr ng rule how guest = 0
  · obtain ⟨ok1, ok2, ok3, ok4⟩ := rgS_ok hz
    obtain ⟨q, rfl⟩ : ∃ q : Nat, rule = (q : Int) := ⟨rule.toNat, by omega⟩
    obtain ⟨u, rfl⟩ : ∃ u : Nat, guest = (u : Int) := ⟨guest.toNat, by omega⟩
    have hq : q < tl.length := by omega
    have hu : u < ng := by omega
    have hU := hR.2.2 q hq
    have hql := hU.1
    rw [hz] at hrf
    have no : ¬ ((0 ≤ qs ∧ qs ≤ 44) ∧ (part = 0 ∨ part = 1)) → AQ σ ℓ nr nw ng Ls tl ukd unn utr utw I L (aSure σ ℓ nr nw ng tl ukd unn utr utw (q : Int) how (u : Int) qs part) (some (vi (-102))) (TT Ls tl) I L (RR tl) := fun h => XS_same hX ⟨fun h2 => absurd hz h2, fun _ _ => rfl, fun _ h2 => absurd h2 h⟩
    unfold i32 at hqs
    refine r_aload_n d_X7_sure_0 rfl ?_
    refine r_iload_n d_X7_sure_1 rfl ?_
    refine r_iload_n d_X7_sure_2 rfl ?_
    refine r_iload_n d_X7_sure_3 rfl ?_
    refine r_V3i d_X7_sure_4 (w_X7_214 _ rfl) (tt_3 _ _) rfl rfl (hrf) (by decide) (Nat.le_of_ble_eq_true rfl) (fun z4 T4 I4 L4 R4 h4 => ?_)
    obtain ⟨rfl, rfl, rfl, rfl, rfl⟩ := h4
    refine r_istore d_X7_sure_7 (by decide) ?_
    refine r_iload d_X7_sure_9 rfl ?_
    refine r_if_eq d_X7_sure_11 (by omega) (fun c11 => ?_) (fun c11 => absurd c11 (by decide))
    refine r_iload d_X7_sure_17 rfl ?_
    refine r_if_lt d_X7_sure_19 (by omega) (fun c19 => ?_) (fun c19 => ?_)
    · have hno := no (by omega)
      refine r_bipush d_X7_sure_37 (by decide) ?_
      refine r_iret d_X7_sure_39 rfl ?_
      exact hno
    · refine r_iload d_X7_sure_22 rfl ?_
      refine r_bipush d_X7_sure_24 (by decide) ?_
      refine r_icmp_gt d_X7_sure_26 (by omega) (by omega) (fun c26 => ?_) (fun c26 => ?_)
      · have hno := no (by omega)
        refine r_bipush d_X7_sure_37 (by decide) ?_
        refine r_iret d_X7_sure_39 rfl ?_
        exact hno
      · refine r_iload d_X7_sure_29 rfl ?_
        refine r_S1i d_X7_sure_31 (w_X7_200 _ rfl) (c_isPart hp) (by decide) (Nat.le_of_ble_eq_true rfl) (fun z31 T31 I31 L31 R31 h31 => ?_)
        obtain ⟨rfl, rfl, rfl, rfl, rfl⟩ := h31
        refine r_if_ne d_X7_sure_34 (by split <;> omega) (fun c34 => ?_) (fun c34 => ?_)
        · have hpt : part = 0 ∨ part = 1 := Classical.byContradiction (fun h => by rw [if_neg h] at c34; omega)
          refine r_aload_n d_X7_sure_40 rfl ?_
          refine r_aload_n d_X7_sure_41 rfl ?_
          refine r_getr d_X7_sure_42 f_X7_28 (tt_3 _ _) (by decide) rfl (rr_3_3 _) ?_
          refine r_iload_n d_X7_sure_45 rfl ?_
          refine r_aaldJ d_X7_sure_46 (tt_62 _ _) (by decide) rfl (by have := hR.2.1; omega) (rrr_62 (by exact hq)) (kk := ?_)
          refine r_iload_n d_X7_sure_47 rfl ?_
          refine r_iload_n d_X7_sure_48 rfl ?_
          refine r_V3v d_X7_sure_49 (w_X7_217 _ rfl) (tt_3 _ _) rfl rfl (c_waitByWays hB ok2 hU ok3 hu) (by decide) (Nat.le_of_ble_eq_true rfl) (fun T49 I49 L49 R49 h49 => ?_)
          obtain ⟨rfl, rfl, f1, f2, hB1, od, hod, hW⟩ := h49
          refine r_aload_n d_X7_sure_52 rfl ?_
          refine r_aload_n d_X7_sure_53 rfl ?_
          refine r_iload d_X7_sure_54 rfl ?_
          refine r_V1i d_X7_sure_56 (w_X7_221 _ rfl) (tt_3 _ _) rfl rfl (c_chanceWithin (qs := qs) b1 hB1.2.2.1 (by omega) (fun way h => by obtain ⟨_, _, _, _, h1, h2⟩ := hW way h; exact ⟨h1, h2⟩)) (by decide) (Nat.le_of_ble_eq_true rfl) (fun z56 T56 I56 L56 R56 h56 => ?_)
          obtain ⟨rfl, rfl, rfl, rfl, rfl⟩ := h56
          have hwb := wbS_bd (W := I49 137) (qs := qs) b1.2.2.2.1 b1.2.2.2.2.2.2 (2 ^ chn σ nr)
          refine r_iload d_X7_sure_59 rfl ?_
          refine r_V2i d_X7_sure_61 (w_X7_207 _ rfl) (tt_3 _ _) rfl rfl (c_termOf b1 hB1.2.2.1 (by omega) hpt) (by decide) (Nat.le_of_ble_eq_true rfl) (fun z61 T61 I61 L61 R61 h61 => ?_)
          obtain ⟨e, rfl, rfl, rfl, rfl⟩ := h61
          refine r_iret d_X7_sure_64 rfl ?_
          refine ⟨_, rfl, rfl, rfl, f1, f2, ⟨hB1, RX_frb hR f1 (by omega) (by omega)⟩, fun h => absurd hz h, fun _ h => absurd ⟨by omega, hpt⟩ h, fun _ _ => ⟨_, ⟨od, ?_, ?_⟩, e⟩⟩
          · rw [Int.toNat_natCast]; exact hod
          · rw [Int.toNat_natCast, Int.toNat_natCast]; exact hW
        · have hno := no (fun h => by rw [if_pos h.2] at c34; omega)
          refine r_bipush d_X7_sure_37 (by decide) ?_
          refine r_iret d_X7_sure_39 rfl ?_
          exact hno
  · skip
    refine r_aload_n d_X7_sure_0 rfl ?_
    refine r_iload_n d_X7_sure_1 rfl ?_
    refine r_iload_n d_X7_sure_2 rfl ?_
    refine r_iload_n d_X7_sure_3 rfl ?_
    refine r_V3i d_X7_sure_4 (w_X7_214 _ rfl) (tt_3 _ _) rfl rfl (hrf) (by decide) (Nat.le_of_ble_eq_true rfl) (fun z4 T4 I4 L4 R4 h4 => ?_)
    obtain ⟨rfl, rfl, rfl, rfl, rfl⟩ := h4
    refine r_istore d_X7_sure_7 (by decide) ?_
    refine r_iload d_X7_sure_9 rfl ?_
    refine r_if_eq d_X7_sure_11 (by omega) (fun c11 => absurd c11 (by exact hz)) (fun c11 => ?_)
    refine r_iload d_X7_sure_14 rfl ?_
    refine r_iret d_X7_sure_16 rfl ?_
    exact XS_same hX ⟨fun _ => rfl, fun h => absurd h hz, fun h => absurd h hz⟩
end C49
