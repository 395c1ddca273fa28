def frb (lo hi : Nat) (I I' : sI) : Prop := ∀ a, (a < lo ∨ hi ≤ a) → I' a = I a
theorem frb_rf {lo hi : Nat} {I : sI} : frb lo hi I I := fun _ _ => rfl
theorem frb_tr {lo hi : Nat} {I I' I'' : sI} (h1 : frb lo hi I I') (h2 : frb lo hi I' I'') : frb lo hi I I'' := fun a ha => (h2 a ha).trans (h1 a ha)
theorem frb_up {lo hi a j : Nat} {x : Int} {I I' : sI} (h : frb lo hi I I') (ha : lo ≤ a ∧ a < hi) : frb lo hi I (up2 I' a j x) := fun b hb => by rw [up2_ne _ _ (by omega)]; exact h b hb
theorem frb_wd {lo hi lo' hi' : Nat} {I I' : sI} (h : frb lo hi I I') (h1 : lo' ≤ lo) (h2 : hi ≤ hi') : frb lo' hi' I I' := fun a ha => h a (by omega)
def rideS (ℓ fl f : Int) : Int := ((if 0 ≤ fl - f then fl - f else -(fl - f)) + ℓ - 1).tdiv ℓ
theorem rideS_bd {ℓ fl f : Int} (hl : 1 ≤ ℓ ∧ ℓ ≤ 6) (h : 1 ≤ fl ∧ fl ≤ 6) (h2 : 1 ≤ f ∧ f ≤ 6) : 0 ≤ rideS ℓ fl f ∧ rideS ℓ fl f ≤ 5 := by
  unfold rideS
  generalize hx : (if 0 ≤ fl - f then fl - f else -(fl - f)) = x
  have hx5 : 0 ≤ x ∧ x ≤ 5 := by rw [← hx]; split <;> omega
  rw [Int.tdiv_eq_ediv_of_nonneg (by omega)]
  have : ℓ = 1 ∨ ℓ = 2 ∨ ℓ = 3 ∨ ℓ = 4 ∨ ℓ = 5 ∨ ℓ = 6 := by omega
  rcases this with rfl | rfl | rfl | rfl | rfl | rfl <;> omega
/-! a day: δ 0 r gone, 1 r by whom, 2 r begun, 3 r ready; 4 w free at, 5 w on which floor -/
def begS (σ : Sg) (ℓ : Int) (δ : Sg) (w r : Nat) : Int := if δ 4 w + rideS ℓ (δ 5 w) (σ 0 r) < δ 0 r then δ 0 r else δ 4 w + rideS ℓ (δ 5 w) (σ 0 r)
def rdyS (σ : Sg) (ℓ : Int) (δ : Sg) (w r : Nat) : Int := begS σ ℓ δ w r + σ 2 r
def mayS (σ : Sg) (ℓ ab : Int) (δ : Sg) (w r : Nat) : Bool := decide (¬ (w : Int) = ab ∧ rdyS σ ℓ δ w r ≤ σ 9 w)
def doS (σ : Sg) (ℓ : Int) (δ : Sg) (w r : Nat) : Sg := up2 (up2 (up2 (up2 (up2 δ 1 r (w : Int)) 3 r (rdyS σ ℓ δ w r)) 2 r (begS σ ℓ δ w r)) 4 w (rdyS σ ℓ δ w r)) 5 w (σ 0 r)
def stepS (σ : Sg) (ℓ ab : Int) (δ : Sg) (w r : Nat) : Sg := if mayS σ ℓ ab δ w r = true then doS σ ℓ δ w r else δ
def SV (σ : Sg) (ℓ : Int) (nr nW : Nat) : Prop := nr ≤ 8 ∧ nW ≤ 4 ∧ (∀ r, r < nr → RV σ r) ∧ (∀ w, w < nW → WV σ w) ∧ 1 ≤ ℓ ∧ ℓ ≤ 6
def DV (δ : Sg) (nr nW : Nat) : Prop := (∀ r, r < nr → (0 ≤ δ 0 r ∧ δ 0 r ≤ 44) ∧ (-1 ≤ δ 1 r ∧ δ 1 r ≤ 3) ∧ (-1 ≤ δ 2 r ∧ δ 2 r ≤ 44) ∧ (-1 ≤ δ 3 r ∧ δ 3 r ≤ 44)) ∧ (∀ w, w < nW → (0 ≤ δ 4 w ∧ δ 4 w ≤ 268435456) ∧ (1 ≤ δ 5 w ∧ δ 5 w ≤ 6))
theorem begS_bd {σ : Sg} {ℓ : Int} {nr nW : Nat} {δ : Sg} (hS : SV σ ℓ nr nW) (hD : DV δ nr nW) {w r : Nat} (hw : w < nW) (hr : r < nr) : δ 4 w ≤ begS σ ℓ δ w r ∧ 0 ≤ begS σ ℓ δ w r ∧ begS σ ℓ δ w r ≤ 268435461 ∧ rdyS σ ℓ δ w r = begS σ ℓ δ w r + σ 2 r ∧ 1 ≤ σ 2 r ∧ σ 2 r ≤ 9 ∧ 0 ≤ rideS ℓ (δ 5 w) (σ 0 r) ∧ rideS ℓ (δ 5 w) (σ 0 r) ≤ 5 := by
  obtain ⟨s1, s2, s3, s4, s5⟩ := hS
  have h1 := s3 r hr
  have h2 := hD.1 r hr
  have h3 := hD.2 w hw
  unfold RV at h1
  have h4 := rideS_bd s5 h3.2 h1.1
  have h5 : rdyS σ ℓ δ w r = begS σ ℓ δ w r + σ 2 r := rfl
  refine ⟨?_, ?_, ?_, h5, h1.2.2.1.1, h1.2.2.1.2, h4⟩ <;> (unfold begS; split <;> omega)
theorem DV_step {σ : Sg} {ℓ ab : Int} {nr nW : Nat} {δ : Sg} (hS : SV σ ℓ nr nW) (hD : DV δ nr nW) {w r : Nat} (hw : w < nW) (hr : r < nr) : DV (stepS σ ℓ ab δ w r) nr nW := by
  unfold stepS
  split
  · rename_i hm
    have hb := begS_bd hS hD hw hr
    unfold mayS at hm
    have hm := (of_decide_eq_true hm).2
    have hwv := hS.2.2.2.1 w hw
    unfold WV at hwv
    have hrv := hS.2.2.1 r hr
    unfold RV at hrv
    have hw4 := hS.2.1
    refine ⟨fun r' hr' => ?_, fun w' hw' => ?_⟩
    · have h0 := hD.1 r' hr'
      by_cases e : r' = r
      · subst e
        simp only [doS, up2, Nat.reduceEqDiff, if_true, if_false]
        omega
      · simp only [doS, up2, Nat.reduceEqDiff, if_true, if_false, e]
        exact h0
    · have h0 := hD.2 w' hw'
      by_cases e : w' = w
      · subst e
        simp only [doS, up2, Nat.reduceEqDiff, if_true, if_false]
        omega
      · simp only [doS, up2, Nat.reduceEqDiff, if_true, if_false, e]
        exact h0
  · exact hD
/-- what the crew stands on: rooms, the lift, the women -/
def KX (σ : Sg) (ℓ ab : Int) (nr nW : Nat) (I : sI) : Prop := I 8 3 = (nr : Int) ∧ (∀ r, r < nr → ∀ k, k < 7 → I (10 + r) k = σ k r) ∧ I 63 0 = ℓ ∧ I 63 3 = (nW : Int) ∧ (∀ w, w < nW → ∀ k, k < 3 → I (65 + w) k = σ (7 + k) w) ∧ (∀ w : Nat, w < nW → I 69 w = if (w : Int) = ab then 0 else 1)
def DX (δ : Sg) (nr nW : Nat) (I : sI) : Prop := (∀ r, r < nr → I 73 r = δ 0 r ∧ I 74 r = δ 1 r ∧ I 75 r = δ 2 r ∧ I 76 r = δ 3 r) ∧ (∀ w, w < nW → I 70 w = δ 4 w ∧ I 71 w = δ 5 w)
theorem KX_frb {σ : Sg} {ℓ ab : Int} {nr nW : Nat} {I I' : sI} {hi : Nat} (h8 : nr ≤ 8) (h4 : nW ≤ 4) (h : KX σ ℓ ab nr nW I) (hf : frb 70 hi I I') : KX σ ℓ ab nr nW I' := by
  obtain ⟨h1, h2, h3, h5, h6, h7⟩ := h
  refine ⟨by rw [hf 8 (by omega)]; exact h1, fun r hr k hk => by rw [hf (10 + r) (by omega)]; exact h2 r hr k hk, by rw [hf 63 (by omega)]; exact h3, by rw [hf 63 (by omega)]; exact h5, fun w hw k hk => by rw [hf (65 + w) (by omega)]; exact h6 w hw k hk, fun w hw => by rw [hf 69 (by omega)]; exact h7 w hw⟩
theorem HX_frb {σ : Sg} {nr nw ng : Nat} {I I' : sI} {lo hi : Nat} (hV : HV σ nr nw ng) (h : HX 8 σ nr nw ng I) (hf : frb lo hi I I') (hlo : 32 ≤ lo) : HX 8 σ nr nw ng I' := by
  obtain ⟨h1, h2, h3, h4, h5, h6, h7, h8⟩ := h
  obtain ⟨v1, v2, v3, -⟩ := hV
  have e8 := hf 8 (by omega)
  refine ⟨by rw [e8]; exact h1, by rw [e8]; exact h2, by rw [e8]; exact h3, by rw [e8]; exact h4, fun r hr k hk => by rw [hf (8 + 2 + r) (by omega)]; exact h5 r hr k hk, fun w hw k hk => by rw [hf (8 + 11 + w) (by omega)]; exact h6 w hw k hk, fun q hq k hk => by rw [hf (8 + 15 + q) (by omega)]; exact h7 q hq k hk, fun r hr h => by rw [hf (8 + 23) (by omega)]; exact h8 r hr h⟩
section C4
variable {g : sG} {Ls : Nat} {tl : List Nat} {I L : sI} {σ δ : Sg} {ℓ ab : Int} {nr nW : Nat}
theorem c_readyBy (hS : SV σ ℓ nr nW) (hK : KX σ ℓ ab nr nW I) (hV : DV δ nr nW) (hD : DX δ nr nW I) {w r : Nat} (hw : w < nW) (hr : r < nr) : Mc g 1 m_X0_readyBy 0 0 [vr 63, vi (w : Int), vi (r : Int)] (TT Ls tl) I L (RR tl) (qI fun z T' I' L' R' => z = (if mayS σ ℓ ab δ w r = true then rdyS σ ℓ δ w r else -1) ∧ same (TT Ls tl) I L (RR tl) T' I' L' R') := by
  refine Mc_of rfl (Nat.le_of_ble_eq_true rfl) ?_
  have hb := begS_bd hS hV hw hr
  obtain ⟨s1, s2, s3, s4, s5⟩ := hS
  have q1 := s3 r hr
  have q2 := s4 w hw
  unfold RV at q1
  unfold WV at q2
  have q3 := hV.1 r hr
  have q4 := hV.2 w hw
  have e1 := hK.2.1 r hr 0 (by omega)
  have e2 := hK.2.1 r hr 2 (by omega)
  have e3 := hK.2.2.1
  have e4 : I (65 + w) 2 = σ 9 w := hK.2.2.2.2.1 w hw 2 (by omega)
  have e5 := hK.2.2.2.2.2 w hw
  have e6 := (hD.1 r hr).1
  have e7 := (hD.2 w hw).1
  have e8 := (hD.2 w hw).2
  have hbr : rdyS σ ℓ δ w r = (if I 70 w + ((if 0 ≤ I 71 w - I (10 + r) 0 then I 71 w - I (10 + r) 0 else -(I 71 w - I (10 + r) 0)) + I 63 0 - 1).tdiv (I 63 0) < I 73 r then I 73 r else I 70 w + ((if 0 ≤ I 71 w - I (10 + r) 0 then I 71 w - I (10 + r) 0 else -(I 71 w - I (10 + r) 0)) + I 63 0 - 1).tdiv (I 63 0)) + I (10 + r) 2 := by
    rw [e1, e2, e3, e6, e7, e8]
    rfl
  have hri : rideS ℓ (δ 5 w) (σ 0 r) = ((if 0 ≤ I 71 w - I (10 + r) 0 then I 71 w - I (10 + r) 0 else -(I 71 w - I (10 + r) 0)) + I 63 0 - 1).tdiv (I 63 0) := by
    rw [e1, e3, e8]
    rfl
  refine r_aload_n d_X0_readyBy_0 rfl ?_
  refine r_getr d_X0_readyBy_1 f_X0_20 (tt_63 _ _) (by decide) rfl (rr_63_2 _) ?_
  refine r_iload_n d_X0_readyBy_4 rfl ?_
  refine r_zaldJ d_X0_readyBy_5 (tt_69 _ _) rfl (by omega) (kk := ?_)
  refine r_if_eq d_X0_readyBy_6 (by rw [e5]; split <;> omega) (fun c6 => ?_) (fun c6 => ?_)
  · have hn : ¬ mayS σ ℓ ab δ w r = true := fun h => by
      have h1 := (of_decide_eq_true h).1
      rw [e5, if_neg h1] at c6
      omega
    refine r_iconst d_X0_readyBy_17 ?_
    refine r_iret d_X0_readyBy_18 rfl ?_
    first | exact ⟨_, rfl, by rw [if_neg hn], same_rf⟩ | exact ⟨_, rfl, by rw [if_pos hp], same_rf⟩
  · refine r_aload_n d_X0_readyBy_9 rfl ?_
    refine r_geti d_X0_readyBy_10 f_X0_9 (tt_63 _ _) (by decide) (by decide) ?_
    refine r_iconst d_X0_readyBy_13 ?_
    refine r_icmp_ge d_X0_readyBy_14 (by omega) (by omega) (fun c14 => ?_) (fun c14 => absurd c14 (by omega))
    refine r_aload_n d_X0_readyBy_19 rfl ?_
    refine r_getr d_X0_readyBy_20 f_X0_46 (tt_63 _ _) (by decide) rfl (rr_63_7 _) ?_
    refine r_getr d_X0_readyBy_23 f_X0_107 (tt_8 _ _) (by decide) rfl (rr_8_0 _) ?_
    refine r_iload_n d_X0_readyBy_26 rfl ?_
    refine r_aaldJ d_X0_readyBy_27 (tt_9 _ _) (by decide) rfl (by omega) (rr2_9 _ (by omega)) (kk := ?_)
    refine r_astore_n d_X0_readyBy_28 (by decide) ?_
    refine r_aload_n d_X0_readyBy_29 rfl ?_
    refine r_getr d_X0_readyBy_30 f_X0_28 (tt_63 _ _) (by decide) rfl (rr_63_5 _) ?_
    refine r_iload_n d_X0_readyBy_33 rfl ?_
    refine r_ialdJ d_X0_readyBy_34 (tt_71 _ _) rfl (by omega) (kk := ?_)
    refine r_aload_n d_X0_readyBy_35 rfl ?_
    refine r_iconst d_X0_readyBy_36 ?_
    refine r_ialdJ (j := 0) d_X0_readyBy_37 (tt2_9 _ _ (by omega)) rfl (by omega) (kk := ?_)
    refine r_isub d_X0_readyBy_38 ?_
    refine r_mabs d_X0_readyBy_39 (w_X0_110 _ rfl) (by decide) (Nat.le_of_ble_eq_true rfl) (by omega) ?_
    refine r_aload_n d_X0_readyBy_42 rfl ?_
    refine r_geti d_X0_readyBy_43 f_X0_9 (tt_63 _ _) (by decide) (by decide) ?_
    refine r_iadd d_X0_readyBy_46 ?_
    refine r_iconst d_X0_readyBy_47 ?_
    refine r_isub d_X0_readyBy_48 ?_
    refine r_aload_n d_X0_readyBy_49 rfl ?_
    refine r_geti d_X0_readyBy_50 f_X0_9 (tt_63 _ _) (by decide) (by decide) ?_
    refine r_idiv d_X0_readyBy_53 (by split <;> omega) (by omega) ?_
    refine r_istore d_X0_readyBy_54 (by decide) ?_
    refine r_aload_n d_X0_readyBy_56 rfl ?_
    refine r_getr d_X0_readyBy_57 f_X0_24 (tt_63 _ _) (by decide) rfl (rr_63_4 _) ?_
    refine r_iload_n d_X0_readyBy_60 rfl ?_
    refine r_ialdJ d_X0_readyBy_61 (tt_70 _ _) rfl (by omega) (kk := ?_)
    refine r_iload d_X0_readyBy_62 rfl ?_
    refine r_iadd d_X0_readyBy_64 ?_
    refine r_aload_n d_X0_readyBy_65 rfl ?_
    refine r_getr d_X0_readyBy_66 f_X0_34 (tt_63 _ _) (by decide) rfl (rr_63_8 _) ?_
    refine r_iload_n d_X0_readyBy_69 rfl ?_
    refine r_ialdJ d_X0_readyBy_70 (tt_73 _ _) rfl (by omega) (kk := ?_)
    refine r_mmax d_X0_readyBy_71 (w_X0_115 _ rfl) (by decide) (Nat.le_of_ble_eq_true rfl) (by rw [← hri]; omega) (by omega) ?_
    refine r_aload_n d_X0_readyBy_74 rfl ?_
    refine r_iconst d_X0_readyBy_75 ?_
    refine r_ialdJ (j := 2) d_X0_readyBy_76 (tt2_9 _ _ (by omega)) rfl (by omega) (kk := ?_)
    refine r_iadd d_X0_readyBy_77 ?_
    refine r_istore d_X0_readyBy_78 (by decide) ?_
    rw [← hbr]
    refine r_iload d_X0_readyBy_80 rfl ?_
    refine r_aload_n d_X0_readyBy_82 rfl ?_
    refine r_getr d_X0_readyBy_83 f_X0_17 (tt_63 _ _) (by decide) rfl (rr_63_1 _) ?_
    refine r_iload_n d_X0_readyBy_86 rfl ?_
    refine r_aaldJ d_X0_readyBy_87 (tt_64 _ _) (by decide) rfl (by omega) (rr2_64 _ (by omega)) (kk := ?_)
    refine r_iconst d_X0_readyBy_88 ?_
    refine r_ialdJ (j := 2) d_X0_readyBy_89 (tt2_64 _ _ (by omega)) rfl (by omega) (kk := ?_)
    refine r_icmp_gt d_X0_readyBy_90 (by omega) (by omega) (fun c90 => ?_) (fun c90 => ?_)
    · have hn : ¬ mayS σ ℓ ab δ w r = true := fun h => by
        have h1 := (of_decide_eq_true h).2
        omega
      refine r_iconst d_X0_readyBy_98 ?_
      refine r_iret d_X0_readyBy_99 rfl ?_
      first | exact ⟨_, rfl, by rw [if_neg hn], same_rf⟩ | exact ⟨_, rfl, by rw [if_pos hp], same_rf⟩
    · have hp : mayS σ ℓ ab δ w r = true := by
        refine decide_eq_true ⟨fun h => ?_, by omega⟩
        rw [e5, if_pos h] at c6
        omega
      refine r_iload d_X0_readyBy_93 rfl ?_
      refine r_goto d_X0_readyBy_95 ?_
      refine r_iret d_X0_readyBy_99 rfl ?_
      first | exact ⟨_, rfl, by rw [if_neg hn], same_rf⟩ | exact ⟨_, rfl, by rw [if_pos hp], same_rf⟩
theorem c_soonestFor (hS : SV σ ℓ nr nW) (hK : KX σ ℓ ab nr nW I) (hV : DV δ nr nW) (hD : DX δ nr nW I) {r : Nat} (hr : r < nr) : Mc g 2 m_X0_soonestFor 0 0 [vr 63, vi (r : Int)] (TT Ls tl) I L (RR tl) (qI fun z T' I' L' R' => z = amin (fun w => mayS σ ℓ ab δ w r) (fun w => rdyS σ ℓ δ w r) nW ∧ same (TT Ls tl) I L (RR tl) T' I' L' R') := by
  refine Mc_of rfl (Nat.le_of_ble_eq_true rfl) ?_
  have hn := hK.2.2.2.1
  have h4 := hS.2.1
  have h8 := hS.1
  obtain ⟨A, hA0⟩ : ∃ A : Nat → Int, A = amin (fun w => mayS σ ℓ ab δ w r) (fun w => rdyS σ ℓ δ w r) := ⟨_, rfl⟩
  rw [← hA0]
  have loop : ∀ (k b : Nat) (x : Int), b + k = nW → (0 ≤ x ∧ x ≤ 268435470) → (A b = -1 ∨ x = rdyS σ ℓ δ (A b).toNat r) → Cp g 2 m_X0_soonestFor 0 0 (qI fun z T' I' L' R' => z = A nW ∧ same (TT Ls tl) I L (RR tl) T' I' L' R') 7 [(0, vr 63), (1, vi (r : Int)), (2, vi (A b)), (3, vi x), (4, vi (b : Int))] [] (TT Ls tl) I L (RR tl) := by
    intro k
    induction k with
    | zero =>
      intro b x hbk _ _
      refine r_iload d_X0_soonestFor_7 rfl ?_
      refine r_aload_n d_X0_soonestFor_9 rfl ?_
      refine r_geti d_X0_soonestFor_10 f_X0_50 (tt_63 _ _) (by decide) (by decide) ?_
      refine r_icmp_ge d_X0_soonestFor_13 (by omega) (by omega) (fun c13 => ?_) (fun c13 => absurd c13 (by omega))
      refine r_iload_n d_X0_soonestFor_54 rfl ?_
      refine r_iret d_X0_soonestFor_55 rfl ?_
      exact ⟨_, rfl, by rw [show b = nW by omega], same_rf⟩
    | succ k ih =>
      intro b x hbk hxr hx
      have hb : b < nW := by omega
      have hbd := begS_bd hS hV hb hr
      have hrg := amin_rng (fun w => mayS σ ℓ ab δ w r) (fun w => rdyS σ ℓ δ w r) b
      rw [← hA0] at hrg
      refine r_iload d_X0_soonestFor_7 rfl ?_
      refine r_aload_n d_X0_soonestFor_9 rfl ?_
      refine r_geti d_X0_soonestFor_10 f_X0_50 (tt_63 _ _) (by decide) (by decide) ?_
      refine r_icmp_ge d_X0_soonestFor_13 (by omega) (by omega) (fun c13 => absurd c13 (by omega)) (fun c13 => ?_)
      refine r_aload_n d_X0_soonestFor_16 rfl ?_
      refine r_iload d_X0_soonestFor_17 rfl ?_
      refine r_iload_n d_X0_soonestFor_19 rfl ?_
      refine r_V2i d_X0_soonestFor_20 (w_X0_104 _ rfl) (tt_63 _ _) rfl rfl (c_readyBy hS hK hV hD hb hr) (by decide) (Nat.le_of_ble_eq_true rfl) (fun z20 T20 I20 L20 R20 h20 => ?_)
      obtain ⟨rfl, rfl, rfl, rfl, rfl⟩ := h20
      refine r_istore d_X0_soonestFor_23 (by decide) ?_
      refine r_iload d_X0_soonestFor_25 rfl ?_
      refine r_iconst d_X0_soonestFor_27 ?_
      refine r_icmp_eq d_X0_soonestFor_28 (by split <;> omega) (by omega) (fun c28 => ?_) (fun c28 => ?_)
      · have hn : mayS σ ℓ ab δ b r = false := by
          cases hm : mayS σ ℓ ab δ b r with
          | false => rfl
          | true => rw [if_pos hm] at c28; omega
        have hA : A (b + 1) = A b := by rw [hA0]; exact amin_no (Or.inl hn)
        have hx' : A (b + 1) = -1 ∨ x = rdyS σ ℓ δ (A (b + 1)).toNat r := by rw [hA]; exact hx
        have hr' := hxr
        refine r_iinc d_X0_soonestFor_48 rfl (by decide) ?_
        refine r_goto d_X0_soonestFor_51 ?_
        exact CpL (ih (b + 1) _ (by omega) hr' hx') (by repeat (first | exact trivial | refine ⟨rfl, ?_⟩ | refine ⟨by rw [hA]; rfl, ?_⟩))
      · have hm : mayS σ ℓ ab δ b r = true := by
          cases hm : mayS σ ℓ ab δ b r with
          | true => rfl
          | false => rw [if_neg (by rw [hm]; decide)] at c28; omega
        rw [if_pos hm]
        refine r_iload_n d_X0_soonestFor_31 rfl ?_
        refine r_iconst d_X0_soonestFor_32 ?_
        refine r_icmp_eq d_X0_soonestFor_33 (by omega) (by omega) (fun c33 => ?_) (fun c33 => ?_)
        · have hor : A b = -1 ∨ rdyS σ ℓ δ b r < rdyS σ ℓ δ (A b).toNat r := Or.inl c33
          have hA : A (b + 1) = (b : Int) := by rw [hA0] at hor ⊢; exact amin_yes hm hor
          have hx' : A (b + 1) = -1 ∨ rdyS σ ℓ δ b r = rdyS σ ℓ δ (A (b + 1)).toNat r := by rw [hA]; exact Or.inr rfl
          have hr' : 0 ≤ rdyS σ ℓ δ b r ∧ rdyS σ ℓ δ b r ≤ 268435470 := by omega
          refine r_iload d_X0_soonestFor_42 rfl ?_
          refine r_istore_n d_X0_soonestFor_44 (by decide) ?_
          refine r_iload d_X0_soonestFor_45 rfl ?_
          refine r_istore_n d_X0_soonestFor_47 (by decide) ?_
          refine r_iinc d_X0_soonestFor_48 rfl (by decide) ?_
          refine r_goto d_X0_soonestFor_51 ?_
          exact CpL (ih (b + 1) _ (by omega) hr' hx') (by repeat (first | exact trivial | refine ⟨rfl, ?_⟩ | refine ⟨by rw [hA]; rfl, ?_⟩))
        · refine r_iload d_X0_soonestFor_36 rfl ?_
          refine r_iload_n d_X0_soonestFor_38 rfl ?_
          refine r_icmp_ge d_X0_soonestFor_39 (by omega) (by omega) (fun c39 => ?_) (fun c39 => ?_)
          · have hA : A (b + 1) = A b := by
              rw [hA0]
              rw [hA0] at hx c33
              exact amin_no (Or.inr ⟨c33, by rcases hx with h | h; exact absurd h c33; show rdyS σ ℓ δ _ r ≤ _; omega⟩)
            have hx' : A (b + 1) = -1 ∨ x = rdyS σ ℓ δ (A (b + 1)).toNat r := by rw [hA]; exact hx
            have hr' := hxr
            refine r_iinc d_X0_soonestFor_48 rfl (by decide) ?_
            refine r_goto d_X0_soonestFor_51 ?_
            exact CpL (ih (b + 1) _ (by omega) hr' hx') (by repeat (first | exact trivial | refine ⟨rfl, ?_⟩ | refine ⟨by rw [hA]; rfl, ?_⟩))
          · have hor : A b = -1 ∨ rdyS σ ℓ δ b r < rdyS σ ℓ δ (A b).toNat r := Or.inr (by rcases hx with h | h; exact absurd h c33; omega)
            have hA : A (b + 1) = (b : Int) := by rw [hA0] at hor ⊢; exact amin_yes hm hor
            have hx' : A (b + 1) = -1 ∨ rdyS σ ℓ δ b r = rdyS σ ℓ δ (A (b + 1)).toNat r := by rw [hA]; exact Or.inr rfl
            have hr' : 0 ≤ rdyS σ ℓ δ b r ∧ rdyS σ ℓ δ b r ≤ 268435470 := by omega
            refine r_iload d_X0_soonestFor_42 rfl ?_
            refine r_istore_n d_X0_soonestFor_44 (by decide) ?_
            refine r_iload d_X0_soonestFor_45 rfl ?_
            refine r_istore_n d_X0_soonestFor_47 (by decide) ?_
            refine r_iinc d_X0_soonestFor_48 rfl (by decide) ?_
            refine r_goto d_X0_soonestFor_51 ?_
            exact CpL (ih (b + 1) _ (by omega) hr' hx') (by repeat (first | exact trivial | refine ⟨rfl, ?_⟩ | refine ⟨by rw [hA]; rfl, ?_⟩))
  refine r_iconst d_X0_soonestFor_0 ?_
  refine r_istore_n d_X0_soonestFor_1 (by decide) ?_
  refine r_iconst d_X0_soonestFor_2 ?_
  refine r_istore_n d_X0_soonestFor_3 (by decide) ?_
  refine r_iconst d_X0_soonestFor_4 ?_
  refine r_istore d_X0_soonestFor_5 (by decide) ?_
  exact CpL (loop nW 0 0 (by omega) (by omega) (Or.inl (by rw [hA0]; rfl))) (by repeat (first | exact trivial | refine ⟨rfl, ?_⟩ | refine ⟨by rw [hA0]; rfl, ?_⟩))
def pst (lo hi : Nat) (T : sT) (I L : sI) (R : sR) : sT → sI → sI → sR → Prop := fun T' I' L' R' => T = T' ∧ frb lo hi I I' ∧ L = L' ∧ R = R'
theorem c_assign (hS : SV σ ℓ nr nW) (hK : KX σ ℓ ab nr nW I) (hV : DV δ nr nW) (hD : DX δ nr nW I) {w r : Nat} (hw : w < nW) (hr : r < nr) : Mc g 2 m_X0_assign 0 0 [vr 63, vi (w : Int), vi (r : Int)] (TT Ls tl) I L (RR tl) (qV fun T' I' L' R' => pst 70 77 (TT Ls tl) I L (RR tl) T' I' L' R' ∧ DX (stepS σ ℓ ab δ w r) nr nW I' ∧ I' 72 = I 72) := by
  refine Mc_of rfl (Nat.le_of_ble_eq_true rfl) ?_
  have hb := begS_bd hS hV hw hr
  have h8 := hS.1
  have h4 := hS.2.1
  have e1 := hK.2.1 r hr 0 (by omega)
  have e2 := hK.2.1 r hr 2 (by omega)
  refine r_aload_n d_X0_assign_0 rfl ?_
  refine r_iload_n d_X0_assign_1 rfl ?_
  refine r_iload_n d_X0_assign_2 rfl ?_
  refine r_V2i d_X0_assign_3 (w_X0_104 _ rfl) (tt_63 _ _) rfl rfl (c_readyBy hS hK hV hD hw hr) (by decide) (Nat.le_of_ble_eq_true rfl) (fun z3 T3 I3 L3 R3 h3 => ?_)
  obtain ⟨rfl, rfl, rfl, rfl, rfl⟩ := h3
  refine r_istore_n d_X0_assign_6 (by decide) ?_
  refine r_iload_n d_X0_assign_7 rfl ?_
  refine r_iconst d_X0_assign_8 ?_
  refine r_icmp_eq d_X0_assign_9 (by split <;> omega) (by omega) (fun c9 => ?_) (fun c9 => ?_)
  · have hn : ¬ mayS σ ℓ ab δ w r = true := fun h => by rw [if_pos h] at c9; omega
    refine r_vret d_X0_assign_69 rfl ?_
    first
      | exact ⟨rfl, ⟨rfl, frb_rf, rfl, rfl⟩, by unfold stepS; rw [if_neg hn]; exact hD, rfl⟩
      | refine ⟨rfl, ⟨rfl, frb_up (frb_up (frb_up (frb_up (frb_up frb_rf (by omega)) (by omega)) (by omega)) (by omega)) (by omega), rfl, rfl⟩, ?_, by rw [up2_ne _ _ (by omega), up2_ne _ _ (by omega), up2_ne _ _ (by omega), up2_ne _ _ (by omega), up2_ne _ _ (by omega)]⟩
        unfold stepS
        rw [if_pos hm]
        refine ⟨fun r' hr' => ?_, fun w' hw' => ?_⟩
        · have h0 := hD.1 r' hr'
          have n1 : 10 + r ≠ 74 := by omega
          have n2 : 10 + r ≠ 76 := by omega
          by_cases e : r' = r
          · subst e
            simp only [doS, up2, Nat.reduceEqDiff, if_true, if_false, n1, n2]
            exact ⟨h0.1, trivial, by omega, trivial⟩
          · simp only [doS, up2, Nat.reduceEqDiff, if_true, if_false, e]
            exact h0
        · have h0 := hD.2 w' hw'
          have n1 : 10 + r ≠ 74 := by omega
          have n2 : 10 + r ≠ 76 := by omega
          have n3 : 10 + r ≠ 75 := by omega
          have n4 : 10 + r ≠ 70 := by omega
          by_cases e : w' = w
          · subst e
            simp only [doS, up2, Nat.reduceEqDiff, if_true, if_false, n1, n2, n3, n4]
            exact ⟨trivial, e1⟩
          · simp only [doS, up2, Nat.reduceEqDiff, if_true, if_false, e]
            exact h0
  · have hm : mayS σ ℓ ab δ w r = true := by
      cases hm : mayS σ ℓ ab δ w r with
      | true => rfl
      | false => rw [if_neg (by rw [hm]; decide)] at c9; omega
    rw [if_pos hm]
    refine r_aload_n d_X0_assign_12 rfl ?_
    refine r_getr d_X0_assign_13 f_X0_37 (tt_63 _ _) (by decide) rfl (rr_63_9 _) ?_
    refine r_iload_n d_X0_assign_16 rfl ?_
    refine r_iload_n d_X0_assign_17 rfl ?_
    refine r_iastJ d_X0_assign_18 (tt_74 _ _) (by omega) rfl (by omega) (kk := ?_)
    refine r_aload_n d_X0_assign_19 rfl ?_
    refine r_getr d_X0_assign_20 f_X0_43 (tt_63 _ _) (by decide) rfl (rr_63_11 _) ?_
    refine r_iload_n d_X0_assign_23 rfl ?_
    refine r_iload_n d_X0_assign_24 rfl ?_
    refine r_iastJ d_X0_assign_25 (tt_76 _ _) (by omega) rfl (by omega) (kk := ?_)
    refine r_aload_n d_X0_assign_26 rfl ?_
    refine r_getr d_X0_assign_27 f_X0_40 (tt_63 _ _) (by decide) rfl (rr_63_10 _) ?_
    refine r_iload_n d_X0_assign_30 rfl ?_
    refine r_iload_n d_X0_assign_31 rfl ?_
    refine r_aload_n d_X0_assign_32 rfl ?_
    refine r_getr d_X0_assign_33 f_X0_46 (tt_63 _ _) (by decide) rfl (rr_63_7 _) ?_
    refine r_getr d_X0_assign_36 f_X0_107 (tt_8 _ _) (by decide) rfl (rr_8_0 _) ?_
    refine r_iload_n d_X0_assign_39 rfl ?_
    refine r_aaldJ d_X0_assign_40 (tt_9 _ _) (by decide) rfl (by omega) (rr2_9 _ (by omega)) (kk := ?_)
    refine r_iconst d_X0_assign_41 ?_
    refine r_ialdJ (j := 2) d_X0_assign_42 (tt2_9 _ _ (by omega)) rfl (by omega) (kk := ?_)
    refine r_isub d_X0_assign_43 ?_
    refine r_iastJ d_X0_assign_44 (tt_75 _ _) (by omega) rfl (by omega) (kk := ?_)
    refine r_aload_n d_X0_assign_45 rfl ?_
    refine r_getr d_X0_assign_46 f_X0_24 (tt_63 _ _) (by decide) rfl (rr_63_4 _) ?_
    refine r_iload_n d_X0_assign_49 rfl ?_
    refine r_iload_n d_X0_assign_50 rfl ?_
    refine r_iastJ d_X0_assign_51 (tt_70 _ _) (by omega) rfl (by omega) (kk := ?_)
    refine r_aload_n d_X0_assign_52 rfl ?_
    refine r_getr d_X0_assign_53 f_X0_28 (tt_63 _ _) (by decide) rfl (rr_63_5 _) ?_
    refine r_iload_n d_X0_assign_56 rfl ?_
    refine r_aload_n d_X0_assign_57 rfl ?_
    refine r_getr d_X0_assign_58 f_X0_46 (tt_63 _ _) (by decide) rfl (rr_63_7 _) ?_
    refine r_getr d_X0_assign_61 f_X0_107 (tt_8 _ _) (by decide) rfl (rr_8_0 _) ?_
    refine r_iload_n d_X0_assign_64 rfl ?_
    refine r_aaldJ d_X0_assign_65 (tt_9 _ _) (by decide) rfl (by omega) (rr2_9 _ (by omega)) (kk := ?_)
    refine r_iconst d_X0_assign_66 ?_
    refine r_ialdJ (j := 0) d_X0_assign_67 (tt2_9 _ _ (by omega)) rfl (by omega) (kk := ?_)
    refine r_iastJ d_X0_assign_68 (tt_71 _ _) (by omega) rfl (by omega) (kk := ?_)
    refine r_vret d_X0_assign_69 rfl ?_
    first
      | exact ⟨rfl, ⟨rfl, frb_rf, rfl, rfl⟩, by unfold stepS; rw [if_neg hn]; exact hD, rfl⟩
      | refine ⟨rfl, ⟨rfl, frb_up (frb_up (frb_up (frb_up (frb_up frb_rf (by omega)) (by omega)) (by omega)) (by omega)) (by omega), rfl, rfl⟩, ?_, by rw [up2_ne _ _ (by omega), up2_ne _ _ (by omega), up2_ne _ _ (by omega), up2_ne _ _ (by omega), up2_ne _ _ (by omega)]⟩
        unfold stepS
        rw [if_pos hm]
        refine ⟨fun r' hr' => ?_, fun w' hw' => ?_⟩
        · have h0 := hD.1 r' hr'
          have n1 : 10 + r ≠ 74 := by omega
          have n2 : 10 + r ≠ 76 := by omega
          by_cases e : r' = r
          · subst e
            simp only [doS, up2, Nat.reduceEqDiff, if_true, if_false, n1, n2]
            exact ⟨h0.1, trivial, by omega, trivial⟩
          · simp only [doS, up2, Nat.reduceEqDiff, if_true, if_false, e]
            exact h0
        · have h0 := hD.2 w' hw'
          have n1 : 10 + r ≠ 74 := by omega
          have n2 : 10 + r ≠ 76 := by omega
          have n3 : 10 + r ≠ 75 := by omega
          have n4 : 10 + r ≠ 70 := by omega
          by_cases e : w' = w
          · subst e
            simp only [doS, up2, Nat.reduceEqDiff, if_true, if_false, n1, n2, n3, n4]
            exact ⟨trivial, e1⟩
          · simp only [doS, up2, Nat.reduceEqDiff, if_true, if_false, e]
            exact h0
theorem c_takeBack {w r : Nat} {a b : Int} (hw : w < 4) (hr : r < 8) : Mc g 0 m_X0_takeBack 0 0 [vr 63, vi (w : Int), vi (r : Int), vi a, vi b] (TT Ls tl) I L (RR tl) (qV fun T' I' L' R' => (TT Ls tl) = T' ∧ I' = up2 (up2 (up2 (up2 (up2 I 74 r (-1)) 76 r (-1)) 75 r (-1)) 70 w a) 71 w b ∧ L = L' ∧ (RR tl) = R') := by
  refine Mc_of rfl (Nat.le_of_ble_eq_true rfl) ?_
  refine r_aload_n d_X0_takeBack_0 rfl ?_
  refine r_getr d_X0_takeBack_1 f_X0_37 (tt_63 _ _) (by decide) rfl (rr_63_9 _) ?_
  refine r_iload_n d_X0_takeBack_4 rfl ?_
  refine r_iconst d_X0_takeBack_5 ?_
  refine r_iastJ d_X0_takeBack_6 (tt_74 _ _) (by omega) rfl (by omega) (kk := ?_)
  refine r_aload_n d_X0_takeBack_7 rfl ?_
  refine r_getr d_X0_takeBack_8 f_X0_43 (tt_63 _ _) (by decide) rfl (rr_63_11 _) ?_
  refine r_iload_n d_X0_takeBack_11 rfl ?_
  refine r_iconst d_X0_takeBack_12 ?_
  refine r_iastJ d_X0_takeBack_13 (tt_76 _ _) (by omega) rfl (by omega) (kk := ?_)
  refine r_aload_n d_X0_takeBack_14 rfl ?_
  refine r_getr d_X0_takeBack_15 f_X0_40 (tt_63 _ _) (by decide) rfl (rr_63_10 _) ?_
  refine r_iload_n d_X0_takeBack_18 rfl ?_
  refine r_iconst d_X0_takeBack_19 ?_
  refine r_iastJ d_X0_takeBack_20 (tt_75 _ _) (by omega) rfl (by omega) (kk := ?_)
  refine r_aload_n d_X0_takeBack_21 rfl ?_
  refine r_getr d_X0_takeBack_22 f_X0_24 (tt_63 _ _) (by decide) rfl (rr_63_4 _) ?_
  refine r_iload_n d_X0_takeBack_25 rfl ?_
  refine r_iload_n d_X0_takeBack_26 rfl ?_
  refine r_iastJ d_X0_takeBack_27 (tt_70 _ _) (by omega) rfl (by omega) (kk := ?_)
  refine r_aload_n d_X0_takeBack_28 rfl ?_
  refine r_getr d_X0_takeBack_29 f_X0_28 (tt_63 _ _) (by decide) rfl (rr_63_5 _) ?_
  refine r_iload_n d_X0_takeBack_32 rfl ?_
  refine r_iload d_X0_takeBack_33 rfl ?_
  refine r_iastJ d_X0_takeBack_35 (tt_71 _ _) (by omega) rfl (by omega) (kk := ?_)
  refine r_vret d_X0_takeBack_36 rfl ?_
  exact ⟨rfl, rfl, rfl, rfl, rfl⟩
/-- the day begins -/
def opS (σ : Sg) (way : Nat) : Sg := fun k i => match k with
  | 0 => goneS σ way i
  | 4 => σ 8 i
  | 5 => σ 7 i
  | _ => -1
theorem goneS_bd {way r : Nat} (h : RV σ r) : 0 ≤ goneS σ way r ∧ goneS σ way r ≤ 44 := by
  unfold RV at h
  unfold goneS
  split
  · split <;> omega
  · omega
theorem DV_op (hS : SV σ ℓ nr nW) {way : Nat} : DV (opS σ way) nr nW := by
  refine ⟨fun r hr => ⟨goneS_bd (hS.2.2.1 r hr), ?_⟩, fun w hw => ?_⟩
  · simp [opS]
  · have := hS.2.2.2.1 w hw
    unfold WV at this
    simp only [opS]
    omega
theorem c_open {ng nw : Nat} (hS : SV σ ℓ nr nW) (hHV : HV σ nr nw ng) (hX : HX 8 σ nr nw ng I) (hK : KX σ ℓ ab nr nW I) {way : Nat} (hway : way < 8) : Mc g 2 m_X0_open 0 0 [vr 63, vi (way : Int)] (TT Ls tl) I L (RR tl) (qV fun T' I' L' R' => pst 70 77 (TT Ls tl) I L (RR tl) T' I' L' R' ∧ DX (opS σ way) nr nW I' ∧ (∀ w : Nat, w < nW → I' 72 w = if (w : Int) = ab then 1 else 0)) := by
  refine Mc_of rfl (Nat.le_of_ble_eq_true rfl) ?_
  have h8 := hS.1
  have h4 := hS.2.1
  have loop2 : ∀ (k b : Nat) (I1 : sI), b + k = nW → frb 70 77 I I1 → (∀ r, r < nr → I1 73 r = goneS σ way r ∧ I1 74 r = -1 ∧ I1 75 r = -1 ∧ I1 76 r = -1) → (∀ w : Nat, w < b → I1 70 w = σ 8 w ∧ I1 71 w = σ 7 w ∧ I1 72 w = if (w : Int) = ab then 1 else 0) → Cp g 2 m_X0_open 0 0 (qV fun T' I' L' R' => pst 70 77 (TT Ls tl) I L (RR tl) T' I' L' R' ∧ DX (opS σ way) nr nW I' ∧ (∀ w : Nat, w < nW → I' 72 w = if (w : Int) = ab then 1 else 0)) 57 [(0, vr 63), (2, vi (b : Int))] [] (TT Ls tl) I1 L (RR tl) := by
    intro k
    induction k with
    | zero =>
      intro b I1 hbk hf h1 h2
      have hn := (KX_frb h8 h4 hK hf).2.2.2.1
      refine r_iload_n d_X0_open_57 rfl ?_
      refine r_aload_n d_X0_open_58 rfl ?_
      refine r_geti d_X0_open_59 f_X0_50 (tt_63 _ _) (by decide) (by decide) ?_
      refine r_icmp_ge d_X0_open_62 (by omega) (by omega) (fun c62 => ?_) (fun c62 => absurd c62 (by omega))
      refine r_vret d_X0_open_119 rfl ?_
      exact ⟨rfl, ⟨rfl, hf, rfl, rfl⟩, ⟨fun r hr => h1 r hr, fun w hw => ⟨(h2 w (by omega)).1, (h2 w (by omega)).2.1⟩⟩, fun w hw => (h2 w (by omega)).2.2⟩
    | succ k ih =>
      intro b I1 hbk hf h1 h2
      have hK1 := KX_frb h8 h4 hK hf
      have hn := hK1.2.2.2.1
      have hb : b < nW := by omega
      have e1 : I1 (65 + b) 1 = σ 8 b := hK1.2.2.2.2.1 b hb 1 (by omega)
      have e0 : I1 (65 + b) 0 = σ 7 b := hK1.2.2.2.2.1 b hb 0 (by omega)
      have e5 := hK1.2.2.2.2.2 b hb
      have fin : ∀ x : Int, x = (if (b : Int) = ab then 1 else 0) → Cp g 2 m_X0_open 0 0 (qV fun T' I' L' R' => pst 70 77 (TT Ls tl) I L (RR tl) T' I' L' R' ∧ DX (opS σ way) nr nW I' ∧ (∀ w : Nat, w < nW → I' 72 w = if (w : Int) = ab then 1 else 0)) 57 [(0, vr 63), (2, vi ((b + 1 : Nat) : Int))] [] (TT Ls tl) (up2 (up2 (up2 I1 70 b (I1 (65 + b) 1)) 71 b (up2 I1 70 b (I1 (65 + b) 1) (65 + b) 0)) 72 b x) L (RR tl) := by
        intro x hx
        refine ih (b + 1) _ (by omega) (frb_up (frb_up (frb_up hf (by omega)) (by omega)) (by omega)) (fun r hr => ?_) (fun w hw => ?_)
        · simp only [up2, Nat.reduceEqDiff, if_false]; exact h1 r hr
        · have n1 : 65 + b ≠ 70 := by omega
          by_cases e : w = b
          · subst e
            simp only [up2, Nat.reduceEqDiff, if_false, if_true, n1]
            exact ⟨e1, e0, hx⟩
          · simp only [up2, Nat.reduceEqDiff, if_false, if_true, e]
            exact h2 w (by omega)
      have n9 : 69 ≠ 71 ∧ 69 ≠ 70 := by omega
      refine r_iload_n d_X0_open_57 rfl ?_
      refine r_aload_n d_X0_open_58 rfl ?_
      refine r_geti d_X0_open_59 f_X0_50 (tt_63 _ _) (by decide) (by decide) ?_
      refine r_icmp_ge d_X0_open_62 (by omega) (by omega) (fun c62 => absurd c62 (by omega)) (fun c62 => ?_)
      refine r_aload_n d_X0_open_65 rfl ?_
      refine r_getr d_X0_open_66 f_X0_24 (tt_63 _ _) (by decide) rfl (rr_63_4 _) ?_
      refine r_iload_n d_X0_open_69 rfl ?_
      refine r_aload_n d_X0_open_70 rfl ?_
      refine r_getr d_X0_open_71 f_X0_17 (tt_63 _ _) (by decide) rfl (rr_63_1 _) ?_
      refine r_iload_n d_X0_open_74 rfl ?_
      refine r_aaldJ d_X0_open_75 (tt_64 _ _) (by decide) rfl (by omega) (rr2_64 _ (by omega)) (kk := ?_)
      refine r_iconst d_X0_open_76 ?_
      refine r_ialdJ (j := 1) d_X0_open_77 (tt2_64 _ _ (by omega)) rfl (by omega) (kk := ?_)
      refine r_iastJ d_X0_open_78 (tt_70 _ _) (by omega) rfl (by omega) (kk := ?_)
      refine r_aload_n d_X0_open_79 rfl ?_
      refine r_getr d_X0_open_80 f_X0_28 (tt_63 _ _) (by decide) rfl (rr_63_5 _) ?_
      refine r_iload_n d_X0_open_83 rfl ?_
      refine r_aload_n d_X0_open_84 rfl ?_
      refine r_getr d_X0_open_85 f_X0_17 (tt_63 _ _) (by decide) rfl (rr_63_1 _) ?_
      refine r_iload_n d_X0_open_88 rfl ?_
      refine r_aaldJ d_X0_open_89 (tt_64 _ _) (by decide) rfl (by omega) (rr2_64 _ (by omega)) (kk := ?_)
      refine r_iconst d_X0_open_90 ?_
      refine r_ialdJ (j := 0) d_X0_open_91 (tt2_64 _ _ (by omega)) rfl (by omega) (kk := ?_)
      refine r_iastJ d_X0_open_92 (tt_71 _ _) (by omega) rfl (by omega) (kk := ?_)
      refine r_aload_n d_X0_open_93 rfl ?_
      refine r_getr d_X0_open_94 f_X0_31 (tt_63 _ _) (by decide) rfl (rr_63_6 _) ?_
      refine r_iload_n d_X0_open_97 rfl ?_
      refine r_aload_n d_X0_open_98 rfl ?_
      refine r_getr d_X0_open_99 f_X0_20 (tt_63 _ _) (by decide) rfl (rr_63_2 _) ?_
      refine r_iload_n d_X0_open_102 rfl ?_
      refine r_zaldJ d_X0_open_103 (tt_69 _ _) rfl (by omega) (kk := ?_)
      simp only [up2, Nat.reduceEqDiff, if_false]
      rw [e5]
      refine r_if_ne d_X0_open_104 (by split <;> omega) (fun c104 => ?_) (fun c104 => ?_)
      · refine r_iconst d_X0_open_111 ?_
        refine r_zastJ d_X0_open_112 (tt_72 _ _) (by omega) rfl (by omega) (by omega) (kk := ?_)
        refine r_iinc d_X0_open_113 rfl (by decide) ?_
        refine r_goto d_X0_open_116 ?_
        exact CpL (fin _ (by first | (rw [if_neg (by intro h; rw [if_pos h] at c104; omega)]) | (rw [if_pos (by by_cases h : (b : Int) = ab; exact h; rw [if_neg h] at c104; omega)]))) (by repeat (first | exact trivial | refine ⟨rfl, ?_⟩))
      · refine r_iconst d_X0_open_107 ?_
        refine r_goto d_X0_open_108 ?_
        refine r_zastJ d_X0_open_112 (tt_72 _ _) (by omega) rfl (by omega) (by omega) (kk := ?_)
        refine r_iinc d_X0_open_113 rfl (by decide) ?_
        refine r_goto d_X0_open_116 ?_
        exact CpL (fin _ (by first | (rw [if_neg (by intro h; rw [if_pos h] at c104; omega)]) | (rw [if_pos (by by_cases h : (b : Int) = ab; exact h; rw [if_neg h] at c104; omega)]))) (by repeat (first | exact trivial | refine ⟨rfl, ?_⟩))
  have loop1 : ∀ (k b : Nat) (I1 : sI), b + k = nr → frb 70 77 I I1 → (∀ r, r < b → I1 73 r = goneS σ way r ∧ I1 74 r = -1 ∧ I1 75 r = -1 ∧ I1 76 r = -1) → Cp g 2 m_X0_open 0 0 (qV fun T' I' L' R' => pst 70 77 (TT Ls tl) I L (RR tl) T' I' L' R' ∧ DX (opS σ way) nr nW I' ∧ (∀ w : Nat, w < nW → I' 72 w = if (w : Int) = ab then 1 else 0)) 2 [(0, vr 63), (1, vi (way : Int)), (2, vi (b : Int))] [] (TT Ls tl) I1 L (RR tl) := by
    intro k
    induction k with
    | zero =>
      intro b I1 hbk hf h1
      have hn := (KX_frb h8 h4 hK hf).1
      refine r_iload_n d_X0_open_2 rfl ?_
      refine r_aload_n d_X0_open_3 rfl ?_
      refine r_getr d_X0_open_4 f_X0_46 (tt_63 _ _) (by decide) rfl (rr_63_7 _) ?_
      refine r_geti d_X0_open_7 f_X0_67 (tt_8 _ _) (by decide) (by decide) ?_
      refine r_icmp_ge d_X0_open_10 (by omega) (by omega) (fun c10 => ?_) (fun c10 => absurd c10 (by omega))
      refine r_iconst d_X0_open_55 ?_
      refine r_istore_n d_X0_open_56 (by decide) ?_
      exact CpL (loop2 nW 0 I1 (by omega) hf (fun r hr => h1 r (by omega)) (fun w hw => absurd hw (by omega))) (by repeat (first | exact trivial | refine ⟨rfl, ?_⟩))
    | succ k ih =>
      intro b I1 hbk hf h1
      have hn := (KX_frb h8 h4 hK hf).1
      have hb : b < nr := by omega
      have hX1 := HX_frb hHV hX hf (by omega)
      refine r_iload_n d_X0_open_2 rfl ?_
      refine r_aload_n d_X0_open_3 rfl ?_
      refine r_getr d_X0_open_4 f_X0_46 (tt_63 _ _) (by decide) rfl (rr_63_7 _) ?_
      refine r_geti d_X0_open_7 f_X0_67 (tt_8 _ _) (by decide) (by decide) ?_
      refine r_icmp_ge d_X0_open_10 (by omega) (by omega) (fun c10 => absurd c10 (by omega)) (fun c10 => ?_)
      refine r_aload_n d_X0_open_13 rfl ?_
      refine r_getr d_X0_open_14 f_X0_34 (tt_63 _ _) (by decide) rfl (rr_63_8 _) ?_
      refine r_iload_n d_X0_open_17 rfl ?_
      refine r_aload_n d_X0_open_18 rfl ?_
      refine r_getr d_X0_open_19 f_X0_46 (tt_63 _ _) (by decide) rfl (rr_63_7 _) ?_
      refine r_iload_n d_X0_open_22 rfl ?_
      refine r_iload_n d_X0_open_23 rfl ?_
      refine r_V2i d_X0_open_24 (w_X0_70 _ rfl) (tt_8 _ _) rfl rfl (c_goneBy hHV hX1 hb hway) (by decide) (Nat.le_of_ble_eq_true rfl) (fun z24 T24 I24 L24 R24 h24 => ?_)
      obtain ⟨rfl, rfl, rfl, rfl, rfl⟩ := h24
      refine r_iastJ d_X0_open_27 (tt_73 _ _) (by omega) rfl (by omega) (kk := ?_)
      refine r_aload_n d_X0_open_28 rfl ?_
      refine r_getr d_X0_open_29 f_X0_37 (tt_63 _ _) (by decide) rfl (rr_63_9 _) ?_
      refine r_iload_n d_X0_open_32 rfl ?_
      refine r_iconst d_X0_open_33 ?_
      refine r_iastJ d_X0_open_34 (tt_74 _ _) (by omega) rfl (by omega) (kk := ?_)
      refine r_aload_n d_X0_open_35 rfl ?_
      refine r_getr d_X0_open_36 f_X0_40 (tt_63 _ _) (by decide) rfl (rr_63_10 _) ?_
      refine r_iload_n d_X0_open_39 rfl ?_
      refine r_iconst d_X0_open_40 ?_
      refine r_iastJ d_X0_open_41 (tt_75 _ _) (by omega) rfl (by omega) (kk := ?_)
      refine r_aload_n d_X0_open_42 rfl ?_
      refine r_getr d_X0_open_43 f_X0_43 (tt_63 _ _) (by decide) rfl (rr_63_11 _) ?_
      refine r_iload_n d_X0_open_46 rfl ?_
      refine r_iconst d_X0_open_47 ?_
      refine r_iastJ d_X0_open_48 (tt_76 _ _) (by omega) rfl (by omega) (kk := ?_)
      refine r_iinc d_X0_open_49 rfl (by decide) ?_
      refine r_goto d_X0_open_52 ?_
      refine CpL (ih (b + 1) _ (by omega) (frb_up (frb_up (frb_up (frb_up hf (by omega)) (by omega)) (by omega)) (by omega)) (fun r hr => ?_)) (by repeat (first | exact trivial | refine ⟨rfl, ?_⟩))
      by_cases e : r = b
      · subst e
        simp only [up2, Nat.reduceEqDiff, if_false, if_true, true_and, and_true]
      · simp only [up2, Nat.reduceEqDiff, if_false, if_true, e]
        exact h1 r (by omega)
  refine r_iconst d_X0_open_0 ?_
  refine r_istore_n d_X0_open_1 (by decide) ?_
  exact CpL (loop1 nr 0 I (by omega) frb_rf (fun r hr => absurd hr (by omega))) (by repeat (first | exact trivial | refine ⟨rfl, ?_⟩))
end C4
