theorem wkS_bd {σ : Sg} {nr ng q : Nat} {rd : Nat → Int} {p : Int} (hg : GV σ q) (hrd : ∀ r, r < nr → -1 ≤ rd r ∧ rd r ≤ 44) (hp : -1 ≤ p ∧ p < nr) : 0 ≤ wkS σ rd q p ∧ wkS σ rd q p ≤ 44 := by
  unfold GV at hg
  unfold wkS
  split
  · omega
  · next h =>
    have := hrd p.toNat (by omega)
    unfold wtR
    split <;> omega
theorem pkS_rg {σ : Sg} {nr : Nat} {rd : Nat → Int} {ar : Nat → Nat} {i : Nat} : -1 ≤ pkS σ nr rd ar i ∧ pkS σ nr rd ar i < nr := amin_rng _ _ _
theorem bare_bd {σ : Sg} {ng : Nat} (hg : ∀ q, q < ng → GV σ q) : ∀ n, n ≤ ng → 0 ≤ bareS σ n ∧ bareS σ n ≤ n * 396
  | 0, _ => by show (0 : Int) ≤ 0 ∧ (0 : Int) ≤ _; omega
  | n + 1, h => by
    have ih := bare_bd hg n (by omega)
    have hv := hg n (by omega)
    unfold GV at hv
    have h2 := mul_bd (show 0 ≤ 44 - σ 10 n ∧ 44 - σ 10 n ≤ 44 by omega) (show 0 ≤ σ 13 n ∧ σ 13 n ≤ 9 by omega)
    show 0 ≤ bareS σ n + (44 - σ 10 n) * σ 13 n ∧ bareS σ n + (44 - σ 10 n) * σ 13 n ≤ _
    omega
theorem asS_bd {σ : Sg} {nr ng : Nat} {rd : Nat → Int} {ar : Nat → Nat} (hg : ∀ q, q < ng → GV σ q) (hrd : ∀ r, r < nr → -1 ≤ rd r ∧ rd r ≤ 44) (ha : ∀ i, i < ng → ar i < ng) : ∀ n, n ≤ ng → 0 ≤ asS σ nr rd ar n ∧ asS σ nr rd ar n ≤ n * 396
  | 0, _ => by show (0 : Int) ≤ 0 ∧ (0 : Int) ≤ _; omega
  | n + 1, h => by
    have ih := asS_bd (nr := nr) hg hrd ha n (by omega)
    have hv := hg (ar n) (ha n (by omega))
    have h1 := wkS_bd (nr := nr) (ng := ng) hv hrd (pkS_rg (σ := σ) (rd := rd) (ar := ar) (i := n))
    unfold GV at hv
    have h2 := mul_bd h1 (show 0 ≤ σ 13 (ar n) ∧ σ 13 (ar n) ≤ 9 by omega)
    show 0 ≤ asS σ nr rd ar n + wkS σ rd (ar n) (pkS σ nr rd ar n) * σ 13 (ar n) ∧ asS σ nr rd ar n + wkS σ rd (ar n) (pkS σ nr rd ar n) * σ 13 (ar n) ≤ _
    omega
theorem GVX_bd {σ : Sg} {nr ng : Nat} {rd : Nat → Int} {how z : Int} {ro : Nat → Int} (hg : ∀ q, q < ng → GV σ q) (hn : nr ≤ 8 ∧ ng ≤ 8) (hrd : ∀ r, r < nr → -1 ≤ rd r ∧ rd r ≤ 44) (h : GVX σ nr ng rd how z ro) : -4000 ≤ z ∧ z ≤ 4000 := by
  rcases h with ⟨-, ar, h1, -, rfl, -⟩ | ⟨-, a, h1, rfl, -⟩
  · have := asS_bd (nr := nr) hg hrd h1 ng (Nat.le_refl _)
    omega
  · have h2 := bare_bd hg ng (Nat.le_refl _)
    have h3 := gain_bd (P := max ng nr) (G := gnF σ nr ng rd) (a := a) (fun j hj => by
      rcases h1.1.1 j hj with q | ⟨ρ, q1, q2, -⟩
      · exact Or.inl q
      · exact Or.inr ⟨ρ, q1, q2⟩) (gnF_bd hg hrd (by omega)) (max ng nr) (Nat.le_refl _)
    omega
/-- the best order -/
def BST (σ : Sg) (ℓ ab : Int) (nr nW ng : Nat) (how : Int) (lf : List Nat) : Prop := ∃ I0 : sI, WX σ ℓ ab nr nW ng how (2 ^ chn σ nr) I0 ∧ (ODR nr)[(lsS I0 0 0 (2 ^ chn σ nr) (ODR nr).length).toNat]? = some lf
def LFX (nr : Nat) (lf : List Nat) (A : Nat → Int) : Prop := ∀ j, j < nr → ∃ x : Nat, lf[j]? = some x ∧ x < nr ∧ A j = (x : Int)
def KNX (σ : Sg) (ℓ ab : Int) (nr nW ng : Nat) (I : sI) : Prop := ∀ hw : Nat, hw < 2 → I 136 hw = 0 ∨ (I 136 hw = 1 ∧ ∃ lf, BST σ ℓ ab nr nW ng (hw : Int) lf ∧ LFX nr lf (I (134 + hw)))
theorem DV_lof {σ : Sg} {ℓ ab : Int} {nr nW : Nat} (hS : SV σ ℓ nr nW) : ∀ (l : List Nat) (δ : Sg), DV δ nr nW → (∀ x ∈ l, x < nr) → DV (lofS σ ℓ ab nW l δ) nr nW
  | [], _, h, _ => h
  | r :: l, δ, h, hx => DV_lof hS l (loneS σ ℓ ab nW δ r) (DV_lone hS h (hx r (by simp))) (fun x hx' => hx x (by simp [hx']))
theorem WX_CBD {σ : Sg} {ℓ ab : Int} {nr nw nW ng : Nat} {how : Int} {I : sI} (hV : HV σ nr nw ng) (hS : SV σ ℓ nr nW) (h : WX σ ℓ ab nr nW ng how (2 ^ chn σ nr) I) : CBD (2 ^ chn σ nr) (ODR nr).length I := by
  obtain ⟨v1, v2, v3, v4, v5, v6, v7⟩ := id hV
  intro way hw
  obtain ⟨h1, h2⟩ := h way hw
  have hbd := wtX_bd (σ := σ) (way := way) nr v4
  have h10 := p10 v7
  rw [h1]
  refine ⟨by omega, fun hp i hi => ?_⟩
  have hl := List.getElem?_eq_getElem hi
  obtain ⟨ro, hro⟩ := h2 hp i _ hl
  have hDV := DV_lof (ab := ab) hS ((ODR nr)[i]) (opS σ way) (DV_op hS) (fun x hx => dfs_mem nr _ _ (List.getElem_mem hi) x hx)
  exact GVX_bd v6 ⟨v1, v3⟩ (fun r hr => (hDV.1 r hr).2.2.2) hro
section C41
variable {g : sG} {Ls : Nat} {tl : List Nat} {I L : sI} {σ : Sg} {ℓ ab : Int} {nr nw nW ng : Nat}
theorem c_orderFor (hV : HV σ nr nw ng) (hS : SV σ ℓ nr nW) (h0 : 0 < nr) (hX : HX 8 σ nr nw ng I) (hH : HS 8 σ nr ng I) (hK : KX σ ℓ ab nr nW I) (hR : RKX L) (hN : KNX σ ℓ ab nr nW ng I) {kd : Int} (hkd : 0 ≤ kd ∧ kd ≤ 6) {hw : Nat} (hhw : hw < 2) : Mc g 11 m_X4_orderFor 0 0 [vr 122, vi kd, vi (hw : Int)] (TT Ls tl) I L (RR tl) (qR fun z T' I' L' R' => T' = TT Ls tl ∧ R' = RR tl ∧ frb 70 137 I I' ∧ frb 81 120 L L' ∧ KNX σ ℓ ab nr nW ng I' ∧ (¬ (kd = 5 ∧ nr ≤ 6) → z = 1) ∧ (kd = 5 ∧ nr ≤ 6 → z = 134 + hw ∧ ∃ lf, BST σ ℓ ab nr nW ng (hw : Int) lf ∧ LFX nr lf (I' (134 + hw)))) := by
  refine Mc_of rfl (Nat.le_of_ble_eq_true rfl) ?_
  obtain ⟨v1, v2, v3, v4, v5, v6, v7⟩ := id hV
  have h4 := hS.2.1
  have e3 : I 8 3 = (nr : Int) := hX.1
  by_cases hc : kd = 5 ∧ nr ≤ 6
  · have hlen := ODR_len nr (by omega)
    rcases hN hw hhw with hk | ⟨hk, lf, hb, hlf⟩
    · skip
      refine r_iload_n d_X4_orderFor_0 rfl ?_
      refine r_iconst d_X4_orderFor_1 ?_
      refine r_icmp_ne d_X4_orderFor_2 (by omega) (by omega) (fun c2 => absurd c2 (by omega)) (fun c2 => ?_)
      refine r_aload_n d_X4_orderFor_5 rfl ?_
      refine r_getr d_X4_orderFor_6 f_X4_27 (tt_122 _ _) (by decide) rfl (rr_122_0 _) ?_
      refine r_geti d_X4_orderFor_9 f_X4_39 (tt_8 _ _) (by decide) (by decide) ?_
      refine r_bipush d_X4_orderFor_12 (by decide) ?_
      refine r_icmp_gt d_X4_orderFor_14 (by omega) (by omega) (fun c14 => absurd c14 (by omega)) (fun c14 => ?_)
      refine r_iload_n d_X4_orderFor_17 rfl ?_
      refine r_SN1i d_X4_orderFor_18 (w_X4_45 _ rfl) (c_isGiving (by omega)) (by decide) (Nat.le_of_ble_eq_true rfl) (fun z18 T18 I18 L18 R18 h18 => ?_)
      obtain ⟨rfl, rfl, rfl, rfl, rfl⟩ := h18
      refine r_if_ne d_X4_orderFor_21 (by split <;> omega) (fun c21 => ?_) (fun c21 => absurd c21 (by rw [if_pos (by omega)]; decide))
      refine r_aload_n d_X4_orderFor_28 rfl ?_
      refine r_getr d_X4_orderFor_29 f_X4_23 (tt_122 _ _) (by decide) rfl (rr_122_8 _) ?_
      refine r_iload_n d_X4_orderFor_32 rfl ?_
      refine r_zaldJ d_X4_orderFor_33 (tt_136 _ _) rfl (by omega) (kk := ?_)
      refine r_if_ne d_X4_orderFor_34 (by omega) (fun c34 => absurd c34 (by omega)) (fun c34 => ?_)
      refine r_aload_n d_X4_orderFor_37 rfl ?_
      refine r_iload_n d_X4_orderFor_38 rfl ?_
      refine r_V1v d_X4_orderFor_39 (w_X4_52 _ rfl) (tt_122 _ _) rfl rfl (c_weighAll (how := (hw : Int)) hV hS h0 hc.2 (by omega) hX hH hK hR) (by decide) (Nat.le_of_ble_eq_true rfl) (fun T39 I39 L39 R39 h39 => ?_)
      obtain ⟨rfl, rfl, f1, f2, hWX, hcnt⟩ := h39
      have hX1 := HX_low hV hX (fun a ha => f1 a (by omega))
      have hB := WX_CBD hV hS hWX
      obtain ⟨num, a1, a2⟩ := lsS_rg (I := I39) (mask := 0) (bits := 0) (n := 2 ^ chn σ nr) (N := (ODR nr).length) (by omega)
      obtain ⟨lf, hlf⟩ : ∃ lf, (ODR nr)[num]? = some lf := ⟨_, List.getElem?_eq_getElem a2⟩
      have hbst : BST σ ℓ ab nr nW ng (hw : Int) lf := ⟨I39, hWX, by rw [a1, Int.toNat_natCast]; exact hlf⟩
      have e3' : I39 8 3 = (nr : Int) := hX1.1
      refine r_aload_n d_X4_orderFor_42 rfl ?_
      refine r_iconst d_X4_orderFor_43 ?_
      refine r_iconst d_X4_orderFor_44 ?_
      refine r_V2i d_X4_orderFor_45 (w_X4_56 _ rfl) (tt_122 _ _) rfl rfl (c_leastOf (mask := 0) (bits := 0) hV hX1 ⟨by omega, hlen.2⟩ hcnt hB (by omega)) (by decide) (Nat.le_of_ble_eq_true rfl) (fun z45 T45 I45 L45 R45 h45 => ?_)
      obtain ⟨rfl, rfl, rfl, rfl, rfl⟩ := h45
      rw [a1]
      refine r_aload_n d_X4_orderFor_48 rfl ?_
      refine r_getr d_X4_orderFor_49 f_X4_20 (tt_122 _ _) (by decide) rfl (rr_122_7 _) ?_
      refine r_iload_n d_X4_orderFor_52 rfl ?_
      refine r_aaldJ d_X4_orderFor_53 (tt_133 _ _) (by decide) rfl (by omega) (rr2_133 _ (by omega)) (kk := ?_)
      refine r_aload_n d_X4_orderFor_54 rfl ?_
      refine r_getr d_X4_orderFor_55 f_X4_27 (tt_122 _ _) (by decide) rfl (rr_122_0 _) ?_
      refine r_geti d_X4_orderFor_58 f_X4_39 (tt_8 _ _) (by decide) (by decide) ?_
      rw [e3']
      refine r_S3v d_X4_orderFor_61 (w_X4_60 _ rfl) (c_spellOut hc.2 (oa := 134 + hw) (tt2_133 _ _ hhw) (by omega) hlf) (by decide) (Nat.le_of_ble_eq_true rfl) (fun T61 I61 L61 R61 h61 => ?_)
      obtain ⟨rfl, rfl, rfl, s1, s2⟩ := h61
      refine r_aload_n d_X4_orderFor_64 rfl ?_
      refine r_getr d_X4_orderFor_65 f_X4_23 (tt_122 _ _) (by decide) rfl (rr_122_8 _) ?_
      refine r_iload_n d_X4_orderFor_68 rfl ?_
      refine r_iconst d_X4_orderFor_69 ?_
      refine r_zastJ d_X4_orderFor_70 (tt_136 _ _) (by omega) rfl (by omega) (by omega) (kk := ?_)
      refine r_aload_n d_X4_orderFor_71 rfl ?_
      refine r_getr d_X4_orderFor_72 f_X4_20 (tt_122 _ _) (by decide) rfl (rr_122_7 _) ?_
      refine r_iload_n d_X4_orderFor_75 rfl ?_
      refine r_aaldJ d_X4_orderFor_76 (tt_133 _ _) (by decide) rfl (by omega) (rr2_133 _ (by omega)) (kk := ?_)
      refine r_aret d_X4_orderFor_77 rfl ?_
      refine ⟨_, rfl, rfl, rfl, fun a ha => ?_, f2, fun h2 hh2 => ?_, fun h => absurd hc h, fun _ => ⟨rfl, lf, hbst, ?_⟩⟩
      · rw [up2_ne _ _ (by omega), s1 a (by omega)]; exact f1 a (by omega)
      · by_cases e : h2 = hw
        · subst e
          exact Or.inr ⟨up2_at _ _ _ _, lf, hbst, by rw [up2_ne _ _ (by omega)]; exact s2⟩
        · rw [up2_nj _ _ e, up2_ne _ _ (show 134 + h2 ≠ 136 by omega), s1 136 (by omega), s1 (134 + h2) (by omega), f1 136 (by omega), f1 (134 + h2) (by omega)]
          exact hN h2 hh2
      · rw [up2_ne _ _ (by omega)]; exact s2
    · skip
      refine r_iload_n d_X4_orderFor_0 rfl ?_
      refine r_iconst d_X4_orderFor_1 ?_
      refine r_icmp_ne d_X4_orderFor_2 (by omega) (by omega) (fun c2 => absurd c2 (by omega)) (fun c2 => ?_)
      refine r_aload_n d_X4_orderFor_5 rfl ?_
      refine r_getr d_X4_orderFor_6 f_X4_27 (tt_122 _ _) (by decide) rfl (rr_122_0 _) ?_
      refine r_geti d_X4_orderFor_9 f_X4_39 (tt_8 _ _) (by decide) (by decide) ?_
      refine r_bipush d_X4_orderFor_12 (by decide) ?_
      refine r_icmp_gt d_X4_orderFor_14 (by omega) (by omega) (fun c14 => absurd c14 (by omega)) (fun c14 => ?_)
      refine r_iload_n d_X4_orderFor_17 rfl ?_
      refine r_SN1i d_X4_orderFor_18 (w_X4_45 _ rfl) (c_isGiving (by omega)) (by decide) (Nat.le_of_ble_eq_true rfl) (fun z18 T18 I18 L18 R18 h18 => ?_)
      obtain ⟨rfl, rfl, rfl, rfl, rfl⟩ := h18
      refine r_if_ne d_X4_orderFor_21 (by split <;> omega) (fun c21 => ?_) (fun c21 => absurd c21 (by rw [if_pos (by omega)]; decide))
      refine r_aload_n d_X4_orderFor_28 rfl ?_
      refine r_getr d_X4_orderFor_29 f_X4_23 (tt_122 _ _) (by decide) rfl (rr_122_8 _) ?_
      refine r_iload_n d_X4_orderFor_32 rfl ?_
      refine r_zaldJ d_X4_orderFor_33 (tt_136 _ _) rfl (by omega) (kk := ?_)
      refine r_if_ne d_X4_orderFor_34 (by omega) (fun c34 => ?_) (fun c34 => absurd c34 (by omega))
      refine r_aload_n d_X4_orderFor_71 rfl ?_
      refine r_getr d_X4_orderFor_72 f_X4_20 (tt_122 _ _) (by decide) rfl (rr_122_7 _) ?_
      refine r_iload_n d_X4_orderFor_75 rfl ?_
      refine r_aaldJ d_X4_orderFor_76 (tt_133 _ _) (by decide) rfl (by omega) (rr2_133 _ (by omega)) (kk := ?_)
      refine r_aret d_X4_orderFor_77 rfl ?_
      exact ⟨_, rfl, rfl, rfl, frb_rf, frb_rf, hN, fun h => absurd hc h, fun _ => ⟨rfl, lf, hb, hlf⟩⟩
  · skip
    refine r_iload_n d_X4_orderFor_0 rfl ?_
    refine r_iconst d_X4_orderFor_1 ?_
    refine r_icmp_ne d_X4_orderFor_2 (by omega) (by omega) (fun c2 => ?_) (fun c2 => ?_)
    · refine r_getsA d_X4_orderFor_24 (s_X4_49 _ rfl) ?_
      refine r_aret d_X4_orderFor_27 rfl ?_
      exact ⟨_, rfl, rfl, rfl, frb_rf, frb_rf, hN, fun _ => rfl, fun h => absurd h hc⟩
    · refine r_aload_n d_X4_orderFor_5 rfl ?_
      refine r_getr d_X4_orderFor_6 f_X4_27 (tt_122 _ _) (by decide) rfl (rr_122_0 _) ?_
      refine r_geti d_X4_orderFor_9 f_X4_39 (tt_8 _ _) (by decide) (by decide) ?_
      refine r_bipush d_X4_orderFor_12 (by decide) ?_
      refine r_icmp_gt d_X4_orderFor_14 (by omega) (by omega) (fun c14 => ?_) (fun c14 => absurd c14 (by omega))
      refine r_getsA d_X4_orderFor_24 (s_X4_49 _ rfl) ?_
      refine r_aret d_X4_orderFor_27 rfl ?_
      exact ⟨_, rfl, rfl, rfl, frb_rf, frb_rf, hN, fun _ => rfl, fun h => absurd h hc⟩
end C41
