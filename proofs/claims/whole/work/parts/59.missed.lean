def mfS (n nr : Nat) (rule how q : Int) : Int := if rfS n nr rule how = 0 then (if q < 16 then 0 else -103) else rfS n nr rule how
def aMissed (σ : Sg) (ℓ : Int) (nr nw ng : Nat) (tl : List Nat) (ukd unn : Nat → Int) (utr utw : Nat → Nat → Nat) (rule how q z q' : Int) : Prop := (mfS tl.length nr rule how q ≠ 0 → z = mfS tl.length nr rule how q ∧ q' = q) ∧ (mfS tl.length nr rule how q = 0 → q' = q + 1 ∧ ∃ S, (∀ w : Nat, w < nw → CW σ ℓ (w : Int) nr nw ng (ukd rule.toNat) (unn rule.toNat) (utr rule.toNat) (utw rule.toNat) (tl.getD rule.toNat 0) how (S w)) ∧ z = ((wsX S nw).1 : Int))
def ofS (n nr : Nat) (rule how part q : Int) : Int := if 0 ≤ rule ∧ rule < n then (if 0 < nr then (if (how = 0 ∨ how = 1) ∧ (part = 0 ∨ part = 1) then (if q < 16 then 0 else -10000003) else -10000002) else -10000003) else -10000001
def aMore (σ : Sg) (ℓ : Int) (nr nw ng : Nat) (tl : List Nat) (ukd unn : Nat → Int) (utr utw : Nat → Nat → Nat) (rule how part q z q' : Int) : Prop := (ofS tl.length nr rule how part q ≠ 0 → z = ofS tl.length nr rule how part q ∧ q' = q) ∧ (ofS tl.length nr rule how part q = 0 → q' = q + 1 ∧ ∃ s t, CW σ ℓ (-1) nr nw ng (ukd rule.toNat) (unn rule.toNat) (utr rule.toNat) (utw rule.toNat) (tl.getD rule.toNat 0) how s ∧ CW (adS σ nw) ℓ (-1) nr (nw + 1) ng (ukd rule.toNat) (unn rule.toNat) (utr rule.toNat) (utw rule.toNat) (tl.getD rule.toNat 0) how t ∧ z = gcS σ nr (s - t) part)
theorem HS_63 {σ : Sg} {nr ng : Nat} {I I' : sI} (h : HS 8 σ nr ng I) (hf : ∀ a, a < 63 → I' a = I a) : HS 8 σ nr ng I' := by
  obtain ⟨q1, q2, q3, q4⟩ := h
  exact ⟨fun q hq => by rw [hf (8 + 24) (by omega)]; exact q1 q hq, by rw [hf (8 + 25) (by omega)]; exact q2, fun r hr => by rw [hf (8 + 26) (by omega)]; exact q3 r hr, by rw [hf 8 (by omega)]; exact q4⟩
theorem KNX_none {σ : Sg} {ℓ ab : Int} {nr nW ng : Nat} {I : sI} (k0 : I 136 0 = 0) (k1 : I 136 1 = 0) : KNX σ ℓ ab nr nW ng I := by
  intro hw hh
  rcases (show hw = 0 ∨ hw = 1 by omega) with rfl | rfl
  · exact Or.inl k0
  · exact Or.inl k1
theorem XB_crew {σ : Sg} {ℓ ab ab' : Int} {nr nw nW nW' ng : Nat} {I L I' L' : sI} (h : XB σ ℓ ab nr nw nW ng I L) (f : ∀ a, a ≠ 3 → a < 63 → I' a = I a) (hK : KX σ ℓ ab' nr nW' I') (hS : SV σ ℓ nr nW') (hN : KNX σ ℓ ab' nr nW' ng I') (fL : L' 2 = L 2) : XB σ ℓ ab' nr nw nW' ng I' L' := by
  obtain ⟨b1, b2, b3, b4, b5, b6, b7, b8⟩ := h
  obtain ⟨v1, v2, v3, v4, v5, v6, v7⟩ := id b1
  refine ⟨b1, hS, ?_, ?_, hK, hN, fun j hj => by rw [fL]; exact b7 j hj, fun j hj => by rw [f 1 (by omega) (by omega)]; exact b8 j hj⟩
  · obtain ⟨q1, q2, q3, q4, q5, q6, q7, q8⟩ := b3
    have e8 := f 8 (by omega) (by omega)
    refine ⟨by rw [e8]; exact q1, by rw [e8]; exact q2, by rw [e8]; exact q3, by rw [e8]; exact q4, fun r hr k hk => ?_, fun w hw k hk => ?_, fun q hq k hk => ?_, fun r hr h4 => ?_⟩
    · rw [f (8 + 2 + r) (by omega) (by omega)]; exact q5 r hr k hk
    · rw [f (8 + 11 + w) (by omega) (by omega)]; exact q6 w hw k hk
    · rw [f (8 + 15 + q) (by omega) (by omega)]; exact q7 q hq k hk
    · rw [f (8 + 23) (by omega) (by omega)]; exact q8 r hr h4
  · obtain ⟨q1, q2, q3, q4⟩ := b4
    exact ⟨fun q hq => by rw [f (8 + 24) (by omega) (by omega)]; exact q1 q hq, by rw [f (8 + 25) (by omega) (by omega)]; exact q2, fun r hr => by rw [f (8 + 26) (by omega) (by omega)]; exact q3 r hr, by rw [f 8 (by omega) (by omega)]; exact q4⟩
theorem ad_o {σ : Sg} {nw k i : Nat} (h : ¬ ((k = 7 ∨ k = 8 ∨ k = 9) ∧ i = nw)) : adS σ nw k i = σ k i := by unfold adS; rw [if_neg h]
/-- one woman more, like the first -/
theorem ad_chn {σ : Sg} {nw : Nat} : ∀ n, chn (adS σ nw) n = chn σ n
  | 0 => rfl
  | n + 1 => by
    show chn (adS σ nw) n + (if adS σ nw 4 n = -1 then 0 else 1) = chn σ n + (if σ 4 n = -1 then 0 else 1)
    rw [ad_chn n, ad_o (by omega)]
theorem ad_fit {σ : Sg} {nw r q : Nat} : fitS (adS σ nw) r q = fitS σ r q := by
  unfold fitS
  rw [ad_o (by omega), ad_o (by omega), ad_o (by omega), ad_o (by omega)]
theorem ad_fm {σ : Sg} {nw q : Nat} : ∀ n, fmS (adS σ nw) q n = fmS σ q n
  | 0 => rfl
  | n + 1 => by
    unfold fmS
    rw [ad_fit, ad_fm n]
theorem ad_pm {σ : Sg} {nw r : Nat} : ∀ n, pmS (adS σ nw) r n = pmS σ r n
  | 0 => rfl
  | n + 1 => by
    unfold pmS
    rw [ad_fit, ad_pm n, ad_o (by omega)]
theorem ad_bare {σ : Sg} {nw : Nat} (n : Nat) : bareS (adS σ nw) n = bareS σ n := by
  unfold bareS
  refine sumN_eq n (fun i _ => ?_)
  rw [ad_o (by omega), ad_o (by omega)]
theorem XB_ad {σ : Sg} {ℓ ab : Int} {nr nw nW ng : Nat} {I L I' L' : sI} (hw : 0 < nw) (h : XB σ ℓ ab nr nw nW ng I L) (f : ∀ a, a ≠ 3 → a < 63 → I' a = I a) (hK : KX (adS σ nw) ℓ (-1) nr (nw + 1) I') (k0 : I' 136 0 = 0) (k1 : I' 136 1 = 0) (fL : L' 2 = L 2) : XB (adS σ nw) ℓ (-1) nr nw (nw + 1) ng I' L' := by
  obtain ⟨b1, b2, b3, b4, b5, b6, b7, b8⟩ := h
  obtain ⟨v1, v2, v3, v4, v5, v6, v7⟩ := id b1
  have hR : ∀ r, r < nr → RV (adS σ nw) r := fun r hr => by
    have := v4 r hr
    unfold RV at this ⊢
    rw [ad_o (by omega), ad_o (by omega), ad_o (by omega), ad_o (by omega), ad_o (by omega), ad_o (by omega), ad_o (by omega)]
    exact this
  have hW : ∀ w, w < nw + 1 → WV (adS σ nw) w := fun w hw2 => by
    by_cases e : w = nw
    · have := v5 0 hw
      unfold WV at this ⊢
      unfold adS
      rw [if_pos (by omega), if_pos (by omega), if_pos (by omega)]
      exact this
    · have := v5 w (by omega)
      unfold WV at this ⊢
      rw [ad_o (by omega), ad_o (by omega), ad_o (by omega)]
      exact this
  refine ⟨⟨v1, v2, v3, hR, fun w hw2 => hW w (by omega), fun q hq => ?_, by rw [ad_chn]; exact v7⟩, ⟨v1, by omega, hR, hW, b2.2.2.2.2⟩, ?_, ?_, hK, KNX_none k0 k1, fun j hj => by rw [fL]; exact b7 j hj, fun j hj => by rw [f 1 (by omega) (by omega)]; exact b8 j hj⟩
  · have := v6 q hq
    unfold GV at this ⊢
    rw [ad_o (by omega), ad_o (by omega), ad_o (by omega), ad_o (by omega)]
    exact this
  · obtain ⟨q1, q2, q3, q4, q5, q6, q7, q8⟩ := b3
    have e8 := f 8 (by omega) (by omega)
    refine ⟨by rw [e8]; exact q1, by rw [e8]; exact q2, by rw [e8]; exact q3, by rw [e8, ad_chn]; exact q4, fun r hr k hk => ?_, fun w hw k hk => ?_, fun q hq k hk => ?_, fun r hr h4 => ?_⟩
    · rw [f (8 + 2 + r) (by omega) (by omega), ad_o (by omega)]; exact q5 r hr k hk
    · rw [f (8 + 11 + w) (by omega) (by omega), ad_o (by omega)]; exact q6 w hw k hk
    · rw [f (8 + 15 + q) (by omega) (by omega), ad_o (by omega)]; exact q7 q hq k hk
    · rw [ad_o (by omega)] at h4
      rw [f (8 + 23) (by omega) (by omega), ad_chn]; exact q8 r hr h4
  · obtain ⟨q1, q2, q3, q4⟩ := b4
    refine ⟨fun q hq => by rw [f (8 + 24) (by omega) (by omega), ad_fm]; exact q1 q hq, ?_, fun r hr => by rw [f (8 + 26) (by omega) (by omega), ad_pm]; exact q3 r hr, by rw [f 8 (by omega) (by omega), ad_bare]; exact q4⟩
    rw [f (8 + 25) (by omega) (by omega)]
    obtain ⟨ar, h1, h2⟩ := q2
    refine ⟨ar, h1, fun i j hi hj => ?_⟩
    have := h2 i j hi hj
    unfold bef at this ⊢
    rw [ad_o (by omega), ad_o (by omega)]
    exact this
section C59
variable {g : sG} {Ls : Nat} {tl : List Nat} {I L : sI} {σ : Sg} {ℓ : Int} {nr nw ng : Nat} {ukd unn : Nat → Int} {utr utw : Nat → Nat → Nat}
theorem c_missed (hX : XS σ ℓ nr nw ng tl ukd unn utr utw I L) {rule how q : Int} (hr : i32 rule) (hh : i32 how) (hq : I 3 12 = q) (hq2 : 0 ≤ q ∧ q ≤ 16) : Mc g 13 m_X7_missed 0 0 [vr 3, vi rule, vi how] (TT Ls tl) I L (RR tl) (AK σ ℓ nr nw ng Ls tl ukd unn utr utw I L (aMissed σ ℓ nr nw ng tl ukd unn utr utw rule how q)) := by
  refine Mc_of rfl (Nat.le_of_ble_eq_true rfl) ?_
  obtain ⟨hB, hR⟩ := id hX
  obtain ⟨b1, b2, b3, b4, b5, b6, b7, b8⟩ := id hB
  obtain ⟨v1, v2, v3, v4, v5, v6, v7⟩ := id b1
  have hrg := rfS_rg (nr := nr) (n := tl.length) (rule := rule) (how := how)
  have hrf := c_refusalOf (g := g) (Ls := Ls) (tl := tl) (L := L) hR.1 hR.2.1 b3.1 v1 hr hh
  obtain ⟨D, hD⟩ : ∃ D, D = mfS tl.length nr rule how q := ⟨_, rfl⟩
  have no : ∀ z : Int, z = D → z ≠ 0 → AK σ ℓ nr nw ng Ls tl ukd unn utr utw I L (aMissed σ ℓ nr nw ng tl ukd unn utr utw rule how q) (some (vi z)) (TT Ls tl) I L (RR tl) := fun z h1 h2 => AK_no hX hq ⟨fun _ => ⟨by rw [h1, hD], rfl⟩, fun h => absurd (by rw [h1, hD]; exact h) h2⟩
  unfold mfS at hD
  by_cases hz : rfS tl.length nr rule how = 0
  · obtain ⟨ok1, ok2, ok3⟩ := rfS_ok hz
    obtain ⟨u, rfl⟩ : ∃ u : Nat, rule = (u : Int) := ⟨rule.toNat, by omega⟩
    have hu : u < tl.length := by omega
    have hl8 := hR.2.1
    rw [if_pos hz] at hD
    by_cases k5 : q < 16
    · have hz2 : mfS tl.length nr (u : Int) how q = 0 := by unfold mfS; rw [if_pos hz, if_pos k5]
      rw [hz] at hrf
      have hX1 := XS_ask (v := q + 1) hX
      obtain ⟨J, hJ⟩ : ∃ J, J = up2 I 3 12 (q + 1) := ⟨_, rfl⟩
      rw [← hJ] at hX1
      have loop : ∀ (k b : Nat) (S : Nat → Int) (I1 L1 : sI), b + k = nw → frb 63 138 J I1 → frb 81 120 L L1 → I1 63 0 = ℓ → (∀ w : Nat, w < b → CW σ ℓ (w : Int) nr nw ng (ukd u) (unn u) (utr u) (utw u) (tl.getD u 0) how (S w)) → (-100000000 ≤ (wsX S b).2 ∧ (wsX S b).2 ≤ 100000000) → Cp g 13 m_X7_missed 0 0 (AK σ ℓ nr nw ng Ls tl ukd unn utr utw I L (aMissed σ ℓ nr nw ng tl ukd unn utr utw (u : Int) how q)) 44 [(0, vr 3), (1, vi (u : Int)), (2, vi how), (4, vi ((wsX S b).1 : Int)), (5, vi (wsX S b).2), (6, vi (b : Int))] [] (TT Ls tl) I1 L1 (RR tl) := by
        intro k
        induction k with
        | zero =>
          intro b S I1 L1 hbk f1 f2 hl hS hbd
          have hX2 : HX 8 σ nr nw ng I1 := HX_frb b1 hX1.1.2.2.1 f1 (by omega)
          have e4 : I1 8 4 = (nw : Int) := hX2.2.1
          have hb : b = nw := by omega
          refine r_iload d_X7_missed_44 rfl ?_
          refine r_aload_n d_X7_missed_46 rfl ?_
          refine r_getr d_X7_missed_47 f_X7_19 (tt_3 _ _) (by decide) rfl (rr_3_1 _) ?_
          refine r_geti d_X7_missed_50 f_X7_132 (tt_8 _ _) (by decide) (by decide) ?_
          refine r_icmp_ge d_X7_missed_53 (by omega) (by omega) (fun c53 => ?_) (fun c53 => absurd c53 (by omega))
          refine r_aload_n d_X7_missed_103 rfl ?_
          refine r_V0v d_X7_missed_104 (w_X7_91 _ rfl) (tt_3 _ _) rfl rfl (c_hireAllX b1 hX2 hl) (by decide) (Nat.le_of_ble_eq_true rfl) (fun T104 I104 L104 R104 h104 => ?_)
          obtain ⟨rfl, rfl, rfl, y1, y2, y3, y4⟩ := h104
          refine r_iload d_X7_missed_107 rfl ?_
          refine r_iret d_X7_missed_109 rfl ?_
          refine ⟨_, rfl, rfl, rfl, fun a h1 h2 => ?_, fun k hk => ?_, f2, ⟨XB_crew hX1.1 (fun a h1 h2 => ?_) y2 b2 (KNX_none y3 y4) (f2 2 (by omega)), ?_⟩, fun h => absurd hz2 h, fun _ => ⟨?_, S, by rw [Int.toNat_natCast]; exact fun w hw => hS w (by omega), by rw [hb]⟩⟩
          · rw [y1 a (by omega) (by omega), f1 a (by omega), hJ]; exact up2_ne _ _ h1
          · rw [y1 3 (by omega) (by omega), f1 3 (by omega), hJ]; exact up2_nj _ _ hk
          · rw [y1 a (by omega) (by omega), f1 a (by omega)]
          · refine RX_frb (lo := 63) (hi := 138) hX1.2 (fun a ha => ?_) (by omega) (by omega)
            rw [y1 a (by omega) (by omega), f1 a (by omega)]
          · rw [y1 3 (by omega) (by omega), f1 3 (by omega), hJ]; exact up2_at _ _ _ _
        | succ k ih =>
          intro b S I1 L1 hbk f1 f2 hl hS hbd
          have hX2 : HX 8 σ nr nw ng I1 := HX_frb b1 hX1.1.2.2.1 f1 (by omega)
          have e4 : I1 8 4 = (nw : Int) := hX2.2.1
          have hb : b < nw := by omega
          have hU0 := (RX_frb hX1.2 f1 (by omega) (by omega)).2.2 u hu
          have hql := hU0.1
          refine r_iload d_X7_missed_44 rfl ?_
          refine r_aload_n d_X7_missed_46 rfl ?_
          refine r_getr d_X7_missed_47 f_X7_19 (tt_3 _ _) (by decide) rfl (rr_3_1 _) ?_
          refine r_geti d_X7_missed_50 f_X7_132 (tt_8 _ _) (by decide) (by decide) ?_
          refine r_icmp_ge d_X7_missed_53 (by omega) (by omega) (fun c53 => absurd c53 (by omega)) (fun c53 => ?_)
          refine r_aload_n d_X7_missed_56 rfl ?_
          refine r_V0v d_X7_missed_57 (w_X7_91 _ rfl) (tt_3 _ _) rfl rfl (c_hireAllX b1 hX2 hl) (by decide) (Nat.le_of_ble_eq_true rfl) (fun T57 I57 L57 R57 h57 => ?_)
          obtain ⟨rfl, rfl, rfl, y1, y2, y3, y4⟩ := h57
          refine r_aload_n d_X7_missed_60 rfl ?_
          refine r_getr d_X7_missed_61 f_X7_37 (tt_3 _ _) (by decide) rfl (rr_3_5 _) ?_
          refine r_iload d_X7_missed_64 rfl ?_
          refine r_V1v d_X7_missed_66 (w_X7_260 _ rfl) (tt_63 _ _) rfl rfl (c_sendAway (w := b) (nW := nw) hb (by omega) y2.2.2.2.1) (by decide) (Nat.le_of_ble_eq_true rfl) (fun T66 I66 L66 R66 h66 => ?_)
          obtain ⟨rfl, rfl, rfl, rfl⟩ := h66
          have fa : ∀ a, a < 63 ∨ 138 ≤ a → up2 I57 69 b 0 a = J a := fun a ha => by
            rw [up2_ne _ _ (by omega), y1 a (by omega) (by omega), f1 a (by omega)]
          have hB2 : XB σ ℓ (b : Int) nr nw nw ng (up2 I57 69 b 0) L57 := by
            refine XB_crew hX1.1 (fun a h1 h2 => fa a (Or.inl h2)) ?_ b2 (KNX_none (by rw [up2_ne _ _ (by omega)]; exact y3) (by rw [up2_ne _ _ (by omega)]; exact y4)) (f2 2 (by omega))
            obtain ⟨q1, q2, q3, q4, q5, q6⟩ := y2
            refine ⟨by rw [up2_ne _ _ (by omega)]; exact q1, fun r hr k hk => by rw [up2_ne _ _ (by omega)]; exact q2 r hr k hk, by rw [up2_ne _ _ (by omega)]; exact q3, by rw [up2_ne _ _ (by omega)]; exact q4, fun w hw k hk => by rw [up2_ne _ _ (by omega)]; exact q5 w hw k hk, fun w hw => ?_⟩
            by_cases e2 : w = b
            · rw [e2, up2_at, if_pos rfl]
            · rw [up2_nj _ _ e2, q6 w hw, if_neg (by omega), if_neg (by omega)]
          have hU := UX_frb (lo := 63) (hi := 138) (hX1.2.2.2 u hu) fa (by omega)
          refine r_aload_n d_X7_missed_69 rfl ?_
          refine r_aload_n d_X7_missed_70 rfl ?_
          refine r_getr d_X7_missed_71 f_X7_28 (tt_3 _ _) (by decide) rfl (rr_3_3 _) ?_
          refine r_iload_n d_X7_missed_74 rfl ?_
          refine r_aaldJ d_X7_missed_75 (tt_62 _ _) (by decide) rfl (by omega) (rrr_62 (by exact hu)) (kk := ?_)
          refine r_iload_n d_X7_missed_76 rfl ?_
          refine r_V2i d_X7_missed_77 (w_X7_203 _ rfl) (tt_3 _ _) rfl rfl (c_costOverWays hB2 ok2 hU ok3) (by decide) (Nat.le_of_ble_eq_true rfl) (fun z77 T77 I77 L77 R77 h77 => ?_)
          obtain ⟨rfl, rfl, w1, w2, hB3, hcw⟩ := h77
          have hcw' : CW σ ℓ (b : Int) nr nw ng (ukd u) (unn u) (utr u) (utw u) (tl.getD u 0) how z77 := hcw
          have hbz := CW_bd b1 b2 hcw'
          obtain ⟨S', sb, sn⟩ : ∃ S' : Nat → Int, S' b = z77 ∧ ∀ i, i ≠ b → S' i = S i := ⟨fun i => if i = b then z77 else S i, if_pos rfl, fun i hi => if_neg hi⟩
          have hS' : ∀ w : Nat, w < b + 1 → CW σ ℓ (w : Int) nr nw ng (ukd u) (unn u) (utr u) (utw u) (tl.getD u 0) how (S' w) := by
            intro i hi
            by_cases e2 : i = b
            · rw [e2, sb]; exact hcw'
            · rw [sn _ e2]; exact hS i (by omega)
          have es : wsX S' (b + 1) = (if (wsX S b).2 < z77 then (b, z77) else wsX S b) := by
            have e0 : wsX S' b = wsX S b := wsX_congr b (fun i hi => sn i (by omega))
            show (if (wsX S' b).2 < S' b then (b, S' b) else wsX S' b) = _
            rw [e0, sb]
          have f3 : frb 63 138 J I77 := fun a ha => by rw [w1 a (by omega)]; exact fa a ha
          have f4 : frb 81 120 L L77 := frb_tr f2 w2
          have hl2 : I77 63 0 = ℓ := hB3.2.2.2.2.1.2.2.1
          refine r_istore d_X7_missed_80 (by decide) ?_
          refine r_iload d_X7_missed_82 rfl ?_
          refine r_iload d_X7_missed_84 rfl ?_
          refine r_icmp_le d_X7_missed_86 (by omega) (by omega) (fun c86 => ?_) (fun c86 => ?_)
          · refine r_iinc d_X7_missed_97 rfl (by decide) ?_
            refine r_goto d_X7_missed_100 ?_
            first
            | have e9 : wsX S' (b + 1) = (b, z77) := by rw [es, if_pos (by omega)]
              exact CpL (ih (b + 1) S' I77 L77 (by omega) f3 f4 hl2 hS' (by rw [e9]; show _ ≤ z77 ∧ z77 ≤ _; omega)) (by repeat (first | exact trivial | refine ⟨rfl, ?_⟩ | refine ⟨by rw [e9]; rfl, ?_⟩))
            | have e9 : wsX S' (b + 1) = wsX S b := by rw [es, if_neg (by omega)]
              exact CpL (ih (b + 1) S' I77 L77 (by omega) f3 f4 hl2 hS' (by rw [e9]; exact hbd)) (by repeat (first | exact trivial | refine ⟨rfl, ?_⟩ | refine ⟨by rw [e9]; rfl, ?_⟩))
          · refine r_iload d_X7_missed_89 rfl ?_
            refine r_istore d_X7_missed_91 (by decide) ?_
            refine r_iload d_X7_missed_93 rfl ?_
            refine r_istore d_X7_missed_95 (by decide) ?_
            refine r_iinc d_X7_missed_97 rfl (by decide) ?_
            refine r_goto d_X7_missed_100 ?_
            first
            | have e9 : wsX S' (b + 1) = (b, z77) := by rw [es, if_pos (by omega)]
              exact CpL (ih (b + 1) S' I77 L77 (by omega) f3 f4 hl2 hS' (by rw [e9]; show _ ≤ z77 ∧ z77 ≤ _; omega)) (by repeat (first | exact trivial | refine ⟨rfl, ?_⟩ | refine ⟨by rw [e9]; rfl, ?_⟩))
            | have e9 : wsX S' (b + 1) = wsX S b := by rw [es, if_neg (by omega)]
              exact CpL (ih (b + 1) S' I77 L77 (by omega) f3 f4 hl2 hS' (by rw [e9]; exact hbd)) (by repeat (first | exact trivial | refine ⟨rfl, ?_⟩ | refine ⟨by rw [e9]; rfl, ?_⟩))
      refine r_aload_n d_X7_missed_0 rfl ?_
      refine r_iload_n d_X7_missed_1 rfl ?_
      refine r_iload_n d_X7_missed_2 rfl ?_
      refine r_V2i d_X7_missed_3 (w_X7_197 _ rfl) (tt_3 _ _) rfl rfl (hrf) (by decide) (Nat.le_of_ble_eq_true rfl) (fun z3 T3 I3 L3 R3 h3 => ?_)
      obtain ⟨rfl, rfl, rfl, rfl, rfl⟩ := h3
      refine r_istore_n d_X7_missed_6 (by decide) ?_
      refine r_iload_n d_X7_missed_7 rfl ?_
      refine r_if_eq d_X7_missed_8 (by omega) (fun c8 => ?_) (fun c8 => absurd c8 (by decide))
      refine r_aload_n d_X7_missed_13 rfl ?_
      refine r_geti d_X7_missed_14 f_X7_244 (tt_3 _ _) (by decide) (by decide) ?_
      rw [hq]
      refine r_bipush d_X7_missed_17 (by decide) ?_
      refine r_icmp_lt d_X7_missed_19 (by omega) (by omega) (fun c19 => ?_) (fun c19 => absurd c19 (by omega))
      refine r_aload_n d_X7_missed_25 rfl ?_
      refine r_dup d_X7_missed_26 rfl ?_
      refine r_geti d_X7_missed_27 f_X7_244 (tt_3 _ _) (by decide) (by decide) ?_
      refine r_iconst d_X7_missed_30 ?_
      refine r_iadd d_X7_missed_31 ?_
      rw [hq]
      refine r_puti d_X7_missed_32 f_X7_244 (tt_3 _ _) (by decide) (Or.inl rfl) ?_
      rw [← hJ]
      refine r_iconst d_X7_missed_35 ?_
      refine r_istore d_X7_missed_36 (by decide) ?_
      refine r_iconst d_X7_missed_38 ?_
      refine r_istore d_X7_missed_39 (by decide) ?_
      refine r_iconst d_X7_missed_41 ?_
      refine r_istore d_X7_missed_42 (by decide) ?_
      exact CpL (loop nw 0 (fun _ => 0) J L (by omega) frb_rf frb_rf hX1.1.2.2.2.2.1.2.2.1 (fun w h => absurd h (by omega)) (by show (-100000000 : Int) ≤ -1 ∧ (-1 : Int) ≤ 100000000; omega)) (by repeat (first | exact trivial | refine ⟨rfl, ?_⟩))
    · rw [if_neg k5] at hD
      rw [hz] at hrf
      have e := no (-103) hD.symm (by decide)
      refine r_aload_n d_X7_missed_0 rfl ?_
      refine r_iload_n d_X7_missed_1 rfl ?_
      refine r_iload_n d_X7_missed_2 rfl ?_
      refine r_V2i d_X7_missed_3 (w_X7_197 _ rfl) (tt_3 _ _) rfl rfl (hrf) (by decide) (Nat.le_of_ble_eq_true rfl) (fun z3 T3 I3 L3 R3 h3 => ?_)
      obtain ⟨rfl, rfl, rfl, rfl, rfl⟩ := h3
      refine r_istore_n d_X7_missed_6 (by decide) ?_
      refine r_iload_n d_X7_missed_7 rfl ?_
      refine r_if_eq d_X7_missed_8 (by omega) (fun c8 => ?_) (fun c8 => absurd c8 (by decide))
      refine r_aload_n d_X7_missed_13 rfl ?_
      refine r_geti d_X7_missed_14 f_X7_244 (tt_3 _ _) (by decide) (by decide) ?_
      rw [hq]
      refine r_bipush d_X7_missed_17 (by decide) ?_
      refine r_icmp_lt d_X7_missed_19 (by omega) (by omega) (fun c19 => absurd c19 (by omega)) (fun c19 => ?_)
      refine r_bipush d_X7_missed_22 (by decide) ?_
      refine r_iret d_X7_missed_24 rfl ?_
      exact e
  · rw [if_neg hz] at hD
    have e := no _ hD.symm hz
    refine r_aload_n d_X7_missed_0 rfl ?_
    refine r_iload_n d_X7_missed_1 rfl ?_
    refine r_iload_n d_X7_missed_2 rfl ?_
    refine r_V2i d_X7_missed_3 (w_X7_197 _ rfl) (tt_3 _ _) rfl rfl (hrf) (by decide) (Nat.le_of_ble_eq_true rfl) (fun z3 T3 I3 L3 R3 h3 => ?_)
    obtain ⟨rfl, rfl, rfl, rfl, rfl⟩ := h3
    refine r_istore_n d_X7_missed_6 (by decide) ?_
    refine r_iload_n d_X7_missed_7 rfl ?_
    refine r_if_eq d_X7_missed_8 (by omega) (fun c8 => absurd c8 (by exact hz)) (fun c8 => ?_)
    refine r_iload_n d_X7_missed_11 rfl ?_
    refine r_iret d_X7_missed_12 rfl ?_
    exact e
theorem c_more (hX : XS σ ℓ nr nw ng tl ukd unn utr utw I L) (h0w : 0 < nr → 0 < nw) {rule how part q : Int} (hr : i32 rule) (hh : i32 how) (hp : i32 part) (hq : I 3 12 = q) (hq2 : 0 ≤ q ∧ q ≤ 16) : Mc g 13 m_X7_more 0 0 [vr 3, vi rule, vi how, vi part] (TT Ls tl) I L (RR tl) (AK σ ℓ nr nw ng Ls tl ukd unn utr utw I L (aMore σ ℓ nr nw ng tl ukd unn utr utw rule how part q)) := by
  refine Mc_of rfl (Nat.le_of_ble_eq_true rfl) ?_
  obtain ⟨hB, hR⟩ := id hX
  obtain ⟨b1, b2, b3, b4, b5, b6, b7, b8⟩ := id hB
  obtain ⟨v1, v2, v3, v4, v5, v6, v7⟩ := id b1
  have e3 : I 8 3 = (nr : Int) := b3.1
  have hc1 := c_isRule (g := g) (Ls := Ls) (tl := tl) (I := I) (L := L) hR.1 hR.2.1 hr
  have hc2 := c_isHoused (g := g) (Ls := Ls) (tl := tl) (I := I) (L := L) (by omega)
  rw [e3] at hc2
  obtain ⟨D, hD⟩ : ∃ D, D = ofS tl.length nr rule how part q := ⟨_, rfl⟩
  have no : ∀ z : Int, z = D → z ≠ 0 → AK σ ℓ nr nw ng Ls tl ukd unn utr utw I L (aMore σ ℓ nr nw ng tl ukd unn utr utw rule how part q) (some (vi z)) (TT Ls tl) I L (RR tl) := fun z h1 h2 => AK_no hX hq ⟨fun _ => ⟨by rw [h1, hD], rfl⟩, fun h => absurd (by rw [h1, hD]; exact h) h2⟩
  unfold ofS at hD
  by_cases k1 : 0 ≤ rule ∧ rule < tl.length
  · rw [if_pos k1] at hc1 hD
    by_cases k2 : 0 < nr
    · rw [if_pos (by omega)] at hc2
      rw [if_pos k2] at hD
      by_cases k4 : (how = 0 ∨ how = 1) ∧ (part = 0 ∨ part = 1)
      · rw [if_pos k4] at hD
        by_cases k5 : q < 16
        · have hz : ofS tl.length nr rule how part q = 0 := by unfold ofS; rw [if_pos k1, if_pos k2, if_pos k4, if_pos k5]
          obtain ⟨u, rfl⟩ : ∃ u : Nat, rule = (u : Int) := ⟨rule.toNat, by omega⟩
          have hu : u < tl.length := by omega
          have hl8 := hR.2.1
          have hX1 := XS_ask (v := q + 1) hX
          obtain ⟨J, hJ⟩ : ∃ J, J = up2 I 3 12 (q + 1) := ⟨_, rfl⟩
          rw [← hJ] at hX1
          have hU := hX1.2.2.2 u hu
          have hql := hU.1
          have hw0 := h0w k2
          refine r_aload_n d_X7_more_0 rfl ?_
          refine r_iload_n d_X7_more_1 rfl ?_
          refine r_V1i d_X7_more_2 (w_X7_114 _ rfl) (tt_3 _ _) rfl rfl (hc1) (by decide) (Nat.le_of_ble_eq_true rfl) (fun z2 T2 I2 L2 R2 h2 => ?_)
          obtain ⟨rfl, rfl, rfl, rfl, rfl⟩ := h2
          refine r_if_ne d_X7_more_5 (by omega) (fun c5 => ?_) (fun c5 => absurd c5 (by decide))
          refine r_aload_n d_X7_more_12 rfl ?_
          refine r_V0i d_X7_more_13 (w_X7_157 _ rfl) (tt_3 _ _) rfl rfl (hc2) (by decide) (Nat.le_of_ble_eq_true rfl) (fun z13 T13 I13 L13 R13 h13 => ?_)
          obtain ⟨rfl, rfl, rfl, rfl, rfl⟩ := h13
          refine r_if_ne d_X7_more_16 (by omega) (fun c16 => ?_) (fun c16 => absurd c16 (by decide))
          refine r_iload_n d_X7_more_23 rfl ?_
          refine r_S1i d_X7_more_24 (w_X7_183 _ rfl) (c_isGiving hh) (by decide) (Nat.le_of_ble_eq_true rfl) (fun z24 T24 I24 L24 R24 h24 => ?_)
          obtain ⟨rfl, rfl, rfl, rfl, rfl⟩ := h24
          refine r_if_eq d_X7_more_27 (by split <;> omega) (fun c27 => absurd c27 (by rw [if_pos k4.1]; decide)) (fun c27 => ?_)
          refine r_iload_n d_X7_more_30 rfl ?_
          refine r_S1i d_X7_more_31 (w_X7_200 _ rfl) (c_isPart hp) (by decide) (Nat.le_of_ble_eq_true rfl) (fun z31 T31 I31 L31 R31 h31 => ?_)
          obtain ⟨rfl, rfl, rfl, rfl, rfl⟩ := h31
          refine r_if_ne d_X7_more_34 (by split <;> omega) (fun c34 => ?_) (fun c34 => absurd c34 (by rw [if_pos k4.2]; decide))
          refine r_aload_n d_X7_more_41 rfl ?_
          refine r_geti d_X7_more_42 f_X7_244 (tt_3 _ _) (by decide) (by decide) ?_
          rw [hq]
          refine r_bipush d_X7_more_45 (by decide) ?_
          refine r_icmp_lt d_X7_more_47 (by omega) (by omega) (fun c47 => ?_) (fun c47 => absurd c47 (by omega))
          refine r_aload_n d_X7_more_54 rfl ?_
          refine r_dup d_X7_more_55 rfl ?_
          refine r_geti d_X7_more_56 f_X7_244 (tt_3 _ _) (by decide) (by decide) ?_
          refine r_iconst d_X7_more_59 ?_
          refine r_iadd d_X7_more_60 ?_
          rw [hq]
          refine r_puti d_X7_more_61 f_X7_244 (tt_3 _ _) (by decide) (Or.inl rfl) ?_
          rw [← hJ]
          refine r_aload_n d_X7_more_64 rfl ?_
          refine r_aload_n d_X7_more_65 rfl ?_
          refine r_getr d_X7_more_66 f_X7_28 (tt_3 _ _) (by decide) rfl (rr_3_3 _) ?_
          refine r_iload_n d_X7_more_69 rfl ?_
          refine r_aaldJ d_X7_more_70 (tt_62 _ _) (by decide) rfl (by omega) (rrr_62 (by exact hu)) (kk := ?_)
          refine r_iload_n d_X7_more_71 rfl ?_
          refine r_V2i d_X7_more_72 (w_X7_203 _ rfl) (tt_3 _ _) rfl rfl (c_costOverWays hX1.1 k2 hU k4.1) (by decide) (Nat.le_of_ble_eq_true rfl) (fun z72 T72 I72 L72 R72 h72 => ?_)
          obtain ⟨rfl, rfl, x1, x2, hB2, hcw⟩ := h72
          have hcw1 : CW σ ℓ (-1) nr nw ng (ukd u) (unn u) (utr u) (utw u) (tl.getD u 0) how z72 := hcw
          have hbz := CW_bd b1 b2 hcw1
          refine r_istore d_X7_more_75 (by decide) ?_
          refine r_aload_n d_X7_more_77 rfl ?_
          refine r_V0v d_X7_more_78 (w_X7_91 _ rfl) (tt_3 _ _) rfl rfl (c_hireAllX b1 hB2.2.2.1 hB2.2.2.2.2.1.2.2.1) (by decide) (Nat.le_of_ble_eq_true rfl) (fun T78 I78 L78 R78 h78 => ?_)
          obtain ⟨rfl, rfl, rfl, y1, y2, y3, y4⟩ := h78
          refine r_aload_n d_X7_more_81 rfl ?_
          refine r_getr d_X7_more_82 f_X7_37 (tt_3 _ _) (by decide) rfl (rr_3_5 _) ?_
          refine r_aload_n d_X7_more_85 rfl ?_
          refine r_getr d_X7_more_86 f_X7_19 (tt_3 _ _) (by decide) rfl (rr_3_1 _) ?_
          refine r_getr d_X7_more_89 f_X7_135 (tt_8 _ _) (by decide) rfl (rr_8_1 _) ?_
          refine r_iconst d_X7_more_92 ?_
          refine r_aaldJ (j := 0) d_X7_more_93 (tt_18 _ _) (by decide) rfl (by omega) (rr2_18 _ (by omega)) (kk := ?_)
          refine r_V1v d_X7_more_94 (w_X7_266 _ rfl) (tt_63 _ _) rfl rfl (c_hireLike (s := nw) (w := 0) (by omega) (by omega) y2.2.2.2.1) (by decide) (Nat.le_of_ble_eq_true rfl) (fun T94 I94 L94 R94 h94 => ?_)
          obtain ⟨rfl, rfl, rfl, rfl⟩ := h94
          obtain ⟨K, hK⟩ : ∃ K, K = up2 (up2 (up2 (up2 (up2 I78 (65 + nw) 0 (I78 (19 + 0) 0)) (65 + nw) 1 (I78 (19 + 0) 1)) (65 + nw) 2 (I78 (19 + 0) 2)) 69 nw 1) 63 3 ((nw : Int) + 1) := ⟨_, rfl⟩
          have fK : ∀ a, (a < 63 ∨ 70 ≤ a) → K a = I78 a := fun a ha => by
            rw [hK, up2_ne _ _ (by omega), up2_ne _ _ (by omega), up2_ne _ _ (by omega), up2_ne _ _ (by omega), up2_ne _ _ (by omega)]
          have fJ : ∀ a, (a < 63 ∨ 138 ≤ a) → K a = J a := fun a ha => by
            rw [fK a (by omega), y1 a (by omega) (by omega), x1 a (by omega)]
          have hX3 := hX1.1.2.2.1
          have hKK : KX (adS σ nw) ℓ (-1) nr (nw + 1) K := by
            obtain ⟨q1, q2, q3, q4, q5, q6⟩ := y2
            refine ⟨by rw [fK 8 (by omega)]; exact q1, fun r hr k hk => by rw [fK (10 + r) (by omega), ad_o (by omega)]; exact q2 r hr k hk, ?_, ?_, fun w hw k hk => ?_, fun w hw => ?_⟩
            · rw [hK, up2_nj _ _ (by omega), up2_ne _ _ (by omega), up2_ne _ _ (by omega), up2_ne _ _ (by omega), up2_ne _ _ (by omega)]; exact q3
            · rw [hK, up2_at]; omega
            · by_cases e2 : w = nw
              · subst e2
                have e19 : ∀ k, k < 3 → I78 (19 + 0) k = σ (7 + k) 0 := fun k hk => by
                  rw [y1 (19 + 0) (by omega) (by omega), x1 (19 + 0) (by omega)]; exact HXw hX3 hw0 hk
                have ead : adS σ w (7 + k) w = σ (7 + k) 0 := by unfold adS; rw [if_pos (by omega)]
                rw [ead, ← e19 k hk, hK, up2_ne _ _ (by omega), up2_ne _ _ (by omega)]
                rcases (show k = 0 ∨ k = 1 ∨ k = 2 by omega) with rfl | rfl | rfl
                · rw [up2_nj _ _ (by omega), up2_nj _ _ (by omega), up2_at]
                · rw [up2_nj _ _ (by omega), up2_at]
                · rw [up2_at]
              · rw [ad_o (by omega), hK, up2_ne _ _ (by omega), up2_ne _ _ (by omega), up2_ne _ _ (by omega), up2_ne _ _ (by omega), up2_ne _ _ (by omega)]
                exact q5 w (by omega) k hk
            · by_cases e2 : w = nw
              · rw [e2, hK, up2_ne _ _ (by omega), up2_at, if_neg (by omega)]
              · rw [hK, up2_ne _ _ (by omega), up2_nj _ _ e2, up2_ne _ _ (by omega), up2_ne _ _ (by omega), up2_ne _ _ (by omega)]
                exact q6 w (by omega)
          have hB3 : XB (adS σ nw) ℓ (-1) nr nw (nw + 1) ng K L78 := XB_ad hw0 hX1.1 (fun a h1 h2 => fJ a (Or.inl h2)) hKK (by rw [fK 136 (by omega)]; exact y3) (by rw [fK 136 (by omega)]; exact y4) (x2 2 (by omega))
          have hU3 := UX_frb (lo := 63) (hi := 138) hU fJ (by omega)
          rw [← hK]
          refine r_aload_n d_X7_more_97 rfl ?_
          refine r_aload_n d_X7_more_98 rfl ?_
          refine r_getr d_X7_more_99 f_X7_28 (tt_3 _ _) (by decide) rfl (rr_3_3 _) ?_
          refine r_iload_n d_X7_more_102 rfl ?_
          refine r_aaldJ d_X7_more_103 (tt_62 _ _) (by decide) rfl (by omega) (rrr_62 (by exact hu)) (kk := ?_)
          refine r_iload_n d_X7_more_104 rfl ?_
          refine r_V2i d_X7_more_105 (w_X7_203 _ rfl) (tt_3 _ _) rfl rfl (c_costOverWays hB3 k2 hU3 k4.1) (by decide) (Nat.le_of_ble_eq_true rfl) (fun z105 T105 I105 L105 R105 h105 => ?_)
          obtain ⟨rfl, rfl, w1, w2, hB4, hcv⟩ := h105
          have hcw2 : CW (adS σ nw) ℓ (-1) nr (nw + 1) ng (ukd u) (unn u) (utr u) (utw u) (tl.getD u 0) how z105 := hcv
          have hbw := CW_bd hB3.1 hB3.2.1 hcw2
          have fL2 : frb 81 120 L L105 := frb_tr x2 w2
          have f5 : frb 63 138 J I105 := fun a ha => by rw [w1 a (by omega)]; exact fJ a ha
          have hX5 : HX 8 σ nr nw ng I105 := HX_frb b1 hX1.1.2.2.1 f5 (by omega)
          refine r_istore d_X7_more_108 (by decide) ?_
          refine r_aload_n d_X7_more_110 rfl ?_
          refine r_V0v d_X7_more_111 (w_X7_91 _ rfl) (tt_3 _ _) rfl rfl (c_hireAllX b1 hX5 hB4.2.2.2.2.1.2.2.1) (by decide) (Nat.le_of_ble_eq_true rfl) (fun T111 I111 L111 R111 h111 => ?_)
          obtain ⟨rfl, rfl, rfl, p1, p2, p3, p4⟩ := h111
          have hB6 : XB σ ℓ (-1) nr nw nw ng I111 L111 := by
            refine XB_crew hX1.1 (fun a h1 h2 => ?_) p2 b2 (KNX_none p3 p4) (fL2 2 (by omega))
            rw [p1 a (by omega) (by omega), f5 a (by omega)]
          refine r_aload_n d_X7_more_114 rfl ?_
          refine r_iload d_X7_more_115 rfl ?_
          refine r_iload d_X7_more_117 rfl ?_
          refine r_isub d_X7_more_119 ?_
          refine r_iload_n d_X7_more_120 rfl ?_
          refine r_V2i d_X7_more_121 (w_X7_207 _ rfl) (tt_3 _ _) rfl rfl (c_termOf b1 hB6.2.2.1 (by omega) k4.2) (by decide) (Nat.le_of_ble_eq_true rfl) (fun z121 T121 I121 L121 R121 h121 => ?_)
          obtain ⟨e, rfl, rfl, rfl, rfl⟩ := h121
          refine r_iret d_X7_more_124 rfl ?_
          refine ⟨_, rfl, rfl, rfl, fun a h1 h2 => ?_, fun k hk => ?_, fL2, ⟨hB6, ?_⟩, fun h => absurd hz h, fun _ => ⟨?_, z72, z105, ?_, ?_, e⟩⟩
          · rw [p1 a (by omega) (by omega), f5 a (by omega), hJ]; exact up2_ne _ _ h1
          · rw [p1 3 (by omega) (by omega), f5 3 (by omega), hJ]; exact up2_nj _ _ hk
          · refine RX_frb (lo := 63) (hi := 138) hX1.2 (fun a ha => ?_) (by omega) (by omega)
            rw [p1 a (by omega) (by omega), f5 a (by omega)]
          · rw [p1 3 (by omega) (by omega), f5 3 (by omega), hJ]; exact up2_at _ _ _ _
          · rw [Int.toNat_natCast]; exact hcw1
          · rw [Int.toNat_natCast]; exact hcw2
        · rw [if_neg k5] at hD
          have e := no (-10000003) hD.symm (by decide)
          refine r_aload_n d_X7_more_0 rfl ?_
          refine r_iload_n d_X7_more_1 rfl ?_
          refine r_V1i d_X7_more_2 (w_X7_114 _ rfl) (tt_3 _ _) rfl rfl (hc1) (by decide) (Nat.le_of_ble_eq_true rfl) (fun z2 T2 I2 L2 R2 h2 => ?_)
          obtain ⟨rfl, rfl, rfl, rfl, rfl⟩ := h2
          refine r_if_ne d_X7_more_5 (by omega) (fun c5 => ?_) (fun c5 => absurd c5 (by decide))
          refine r_aload_n d_X7_more_12 rfl ?_
          refine r_V0i d_X7_more_13 (w_X7_157 _ rfl) (tt_3 _ _) rfl rfl (hc2) (by decide) (Nat.le_of_ble_eq_true rfl) (fun z13 T13 I13 L13 R13 h13 => ?_)
          obtain ⟨rfl, rfl, rfl, rfl, rfl⟩ := h13
          refine r_if_ne d_X7_more_16 (by omega) (fun c16 => ?_) (fun c16 => absurd c16 (by decide))
          refine r_iload_n d_X7_more_23 rfl ?_
          refine r_S1i d_X7_more_24 (w_X7_183 _ rfl) (c_isGiving hh) (by decide) (Nat.le_of_ble_eq_true rfl) (fun z24 T24 I24 L24 R24 h24 => ?_)
          obtain ⟨rfl, rfl, rfl, rfl, rfl⟩ := h24
          refine r_if_eq d_X7_more_27 (by split <;> omega) (fun c27 => absurd c27 (by rw [if_pos k4.1]; decide)) (fun c27 => ?_)
          refine r_iload_n d_X7_more_30 rfl ?_
          refine r_S1i d_X7_more_31 (w_X7_200 _ rfl) (c_isPart hp) (by decide) (Nat.le_of_ble_eq_true rfl) (fun z31 T31 I31 L31 R31 h31 => ?_)
          obtain ⟨rfl, rfl, rfl, rfl, rfl⟩ := h31
          refine r_if_ne d_X7_more_34 (by split <;> omega) (fun c34 => ?_) (fun c34 => absurd c34 (by rw [if_pos k4.2]; decide))
          refine r_aload_n d_X7_more_41 rfl ?_
          refine r_geti d_X7_more_42 f_X7_244 (tt_3 _ _) (by decide) (by decide) ?_
          rw [hq]
          refine r_bipush d_X7_more_45 (by decide) ?_
          refine r_icmp_lt d_X7_more_47 (by omega) (by omega) (fun c47 => absurd c47 (by omega)) (fun c47 => ?_)
          refine r_ldcw d_X7_more_50 (k_X7_264 _ rfl) ?_
          refine r_iret d_X7_more_53 rfl ?_
          exact e
      · rw [if_neg k4] at hD
        have e := no (-10000002) hD.symm (by decide)
        refine r_aload_n d_X7_more_0 rfl ?_
        refine r_iload_n d_X7_more_1 rfl ?_
        refine r_V1i d_X7_more_2 (w_X7_114 _ rfl) (tt_3 _ _) rfl rfl (hc1) (by decide) (Nat.le_of_ble_eq_true rfl) (fun z2 T2 I2 L2 R2 h2 => ?_)
        obtain ⟨rfl, rfl, rfl, rfl, rfl⟩ := h2
        refine r_if_ne d_X7_more_5 (by omega) (fun c5 => ?_) (fun c5 => absurd c5 (by decide))
        refine r_aload_n d_X7_more_12 rfl ?_
        refine r_V0i d_X7_more_13 (w_X7_157 _ rfl) (tt_3 _ _) rfl rfl (hc2) (by decide) (Nat.le_of_ble_eq_true rfl) (fun z13 T13 I13 L13 R13 h13 => ?_)
        obtain ⟨rfl, rfl, rfl, rfl, rfl⟩ := h13
        refine r_if_ne d_X7_more_16 (by omega) (fun c16 => ?_) (fun c16 => absurd c16 (by decide))
        refine r_iload_n d_X7_more_23 rfl ?_
        refine r_S1i d_X7_more_24 (w_X7_183 _ rfl) (c_isGiving hh) (by decide) (Nat.le_of_ble_eq_true rfl) (fun z24 T24 I24 L24 R24 h24 => ?_)
        obtain ⟨rfl, rfl, rfl, rfl, rfl⟩ := h24
        refine r_if_eq d_X7_more_27 (by split <;> omega) (fun c27 => ?_) (fun c27 => ?_)
        · refine r_ldcw d_X7_more_37 (k_X7_265 _ rfl) ?_
          refine r_iret d_X7_more_40 rfl ?_
          exact e
        · have q1 : how = 0 ∨ how = 1 := Classical.byContradiction (fun q => by rw [if_neg q] at c27; omega)
          refine r_iload_n d_X7_more_30 rfl ?_
          refine r_S1i d_X7_more_31 (w_X7_200 _ rfl) (c_isPart hp) (by decide) (Nat.le_of_ble_eq_true rfl) (fun z31 T31 I31 L31 R31 h31 => ?_)
          obtain ⟨rfl, rfl, rfl, rfl, rfl⟩ := h31
          refine r_if_ne d_X7_more_34 (by split <;> omega) (fun c34 => absurd c34 (by rw [if_neg (fun q => k4 ⟨q1, q⟩)]; decide)) (fun c34 => ?_)
          refine r_ldcw d_X7_more_37 (k_X7_265 _ rfl) ?_
          refine r_iret d_X7_more_40 rfl ?_
          exact e
    · rw [if_neg (by omega)] at hc2
      rw [if_neg k2] at hD
      have e := no (-10000003) hD.symm (by decide)
      refine r_aload_n d_X7_more_0 rfl ?_
      refine r_iload_n d_X7_more_1 rfl ?_
      refine r_V1i d_X7_more_2 (w_X7_114 _ rfl) (tt_3 _ _) rfl rfl (hc1) (by decide) (Nat.le_of_ble_eq_true rfl) (fun z2 T2 I2 L2 R2 h2 => ?_)
      obtain ⟨rfl, rfl, rfl, rfl, rfl⟩ := h2
      refine r_if_ne d_X7_more_5 (by omega) (fun c5 => ?_) (fun c5 => absurd c5 (by decide))
      refine r_aload_n d_X7_more_12 rfl ?_
      refine r_V0i d_X7_more_13 (w_X7_157 _ rfl) (tt_3 _ _) rfl rfl (hc2) (by decide) (Nat.le_of_ble_eq_true rfl) (fun z13 T13 I13 L13 R13 h13 => ?_)
      obtain ⟨rfl, rfl, rfl, rfl, rfl⟩ := h13
      refine r_if_ne d_X7_more_16 (by omega) (fun c16 => absurd c16 (by decide)) (fun c16 => ?_)
      refine r_ldcw d_X7_more_19 (k_X7_264 _ rfl) ?_
      refine r_iret d_X7_more_22 rfl ?_
      exact e
  · rw [if_neg k1] at hc1 hD
    have e := no (-10000001) hD.symm (by decide)
    refine r_aload_n d_X7_more_0 rfl ?_
    refine r_iload_n d_X7_more_1 rfl ?_
    refine r_V1i d_X7_more_2 (w_X7_114 _ rfl) (tt_3 _ _) rfl rfl (hc1) (by decide) (Nat.le_of_ble_eq_true rfl) (fun z2 T2 I2 L2 R2 h2 => ?_)
    obtain ⟨rfl, rfl, rfl, rfl, rfl⟩ := h2
    refine r_if_ne d_X7_more_5 (by omega) (fun c5 => absurd c5 (by decide)) (fun c5 => ?_)
    refine r_ldcw d_X7_more_8 (k_X7_263 _ rfl) ?_
    refine r_iret d_X7_more_11 rfl ?_
    exact e
end C59
