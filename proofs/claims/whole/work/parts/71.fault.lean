theorem HX_63 {σ : Sg} {nr nw ng : Nat} {I I' : sI} (hV : HV σ nr nw ng) (h : HX 8 σ nr nw ng I) (f : ∀ a, 8 ≤ a → a ≤ 34 → I' a = I a) : HX 8 σ nr nw ng I' := by
  obtain ⟨v1, v2, v3, v4, v5, v6, v7⟩ := hV
  obtain ⟨q1, q2, q3, q4, q5, q6, q7, q8⟩ := h
  have e8 := f 8 (by omega) (by omega)
  refine ⟨by rw [e8]; exact q1, by rw [e8]; exact q2, by rw [e8]; exact q3, by rw [e8]; exact q4, fun r hr k hk => ?_, fun w hw k hk => ?_, fun q hq k hk => ?_, fun r hr h4 => ?_⟩
  · rw [f (8 + 2 + r) (by omega) (by omega)]; exact q5 r hr k hk
  · rw [f (8 + 11 + w) (by omega) (by omega)]; exact q6 w hw k hk
  · rw [f (8 + 15 + q) (by omega) (by omega)]; exact q7 q hq k hk
  · rw [f (8 + 23) (by omega) (by omega)]; exact q8 r hr h4
theorem HS_834 {σ : Sg} {nr ng : Nat} {I I' : sI} (h : HS 8 σ nr ng I) (hf : ∀ a, 8 ≤ a → a ≤ 34 → I' a = I a) : HS 8 σ nr ng I' := by
  obtain ⟨q1, q2, q3, q4⟩ := h
  exact ⟨fun q hq => by rw [hf (8 + 24) (by omega) (by omega)]; exact q1 q hq, by rw [hf (8 + 25) (by omega) (by omega)]; exact q2, fun r hr => by rw [hf (8 + 26) (by omega) (by omega)]; exact q3 r hr, by rw [hf 8 (by omega) (by omega)]; exact q4⟩
section C71
variable {g : sG} {Ls : Nat} {tl : List Nat} {I L : sI} {pg : Nat → Int} {len : Nat} {D0 : Sg} {σ : Sg} {ℓ : Int} {nr nw ng : Nat} {ukd unn : Nat → Int} {utr utw : Nat → Nat → Nat}
def aFault (pg : Nat → Int) (len : Nat) (D0 : Sg) (sort z : Int) : Prop := (¬ (sort = 0 ∨ sort = 1) → z = -102) ∧ (sort = 0 → ∃ p' D', stpA pg len D0 p' D' ∧ z = (p' : Int)) ∧ (sort = 1 → ∃ p' s, stpT pg len p' s ∧ z = (p' : Int))
theorem c_fault (hP : PGL pg len I) (h0 : iniA D0) {sort : Int} (hs : i32 sort) : Mc g 6 m_X7_fault 0 0 [vr 3, vi sort] (TT Ls tl) I L (RR tl) (qI fun z T' I' L' R' => T' = TT Ls tl ∧ R' = RR tl ∧ L' = L ∧ (∀ a, ¬ (a = 4 ∨ a = 6 ∨ a = 7 ∨ (35 ≤ a ∧ a < 62)) → I' a = I a) ∧ (∀ k, k ≠ 2 → k ≠ 3 → k ≠ 6 → I' 4 k = I 4 k) ∧ aFault pg len D0 sort z) := by
  refine Mc_of rfl (Nat.le_of_ble_eq_true rfl) ?_
  have hs2 : -2147483648 ≤ sort ∧ sort ≤ 2147483647 := hs
  by_cases k0 : sort = 0
  · subst k0
    refine r_iload_n d_X7_fault_0 rfl ?_
    refine r_if_eq d_X7_fault_1 (by omega) (fun c1 => ?_) (fun c1 => absurd c1 (by decide))
    refine r_iload_n d_X7_fault_12 rfl ?_
    refine r_if_ne d_X7_fault_13 (by omega) (fun c13 => absurd c13 (by decide)) (fun c13 => ?_)
    refine r_aload_n d_X7_fault_16 rfl ?_
    refine r_getr d_X7_fault_17 f_X7_10 (tt_3 _ _) (by decide) rfl (rr_3_0 _) ?_
    refine r_aload_n d_X7_fault_20 rfl ?_
    refine r_getr d_X7_fault_21 f_X7_23 (tt_3 _ _) (by decide) rfl (rr_3_2 _) ?_
    refine r_V1i d_X7_fault_24 (w_X7_76 _ rfl) (tt_4 _ _) rfl rfl (c_readHouse (hb := 35) (D0 := D0) (Or.inr rfl) hP h0) (by decide) (Nat.le_of_ble_eq_true rfl) (fun z24 T24 I24 L24 R24 h24 => ?_)
    obtain ⟨rfl, rfl, rfl, y1, p', D', y2, y3, y4⟩ := h24
    refine r_pop d_X7_fault_27 rfl ?_
    refine r_goto d_X7_fault_28 ?_
    refine r_aload_n d_X7_fault_39 rfl ?_
    refine r_getr d_X7_fault_40 f_X7_10 (tt_3 _ _) (by decide) rfl (rr_3_0 _) ?_
    refine r_geti d_X7_fault_43 f_X7_84 (tt_4 _ _) (by decide) (by decide) ?_
    refine r_iret d_X7_fault_46 rfl ?_
    exact ⟨_, rfl, rfl, rfl, rfl, fun a ha => y1.1 a (by omega) (by omega), fun k h2 h3 _ => y1.2 k h2 h3, fun h => absurd (Or.inl rfl) h, fun _ => ⟨p', D', y2, y3⟩, fun h => absurd h (by decide)⟩
  · by_cases k1 : sort = 1
    · subst k1
      refine r_iload_n d_X7_fault_0 rfl ?_
      refine r_if_eq d_X7_fault_1 (by omega) (fun c1 => absurd c1 (by decide)) (fun c1 => ?_)
      refine r_iload_n d_X7_fault_4 rfl ?_
      refine r_iconst d_X7_fault_5 ?_
      refine r_icmp_eq d_X7_fault_6 (by omega) (by omega) (fun c6 => ?_) (fun c6 => absurd c6 (by decide))
      refine r_iload_n d_X7_fault_12 rfl ?_
      refine r_if_ne d_X7_fault_13 (by omega) (fun c13 => ?_) (fun c13 => absurd c13 (by decide))
      refine r_aload_n d_X7_fault_31 rfl ?_
      refine r_getr d_X7_fault_32 f_X7_10 (tt_3 _ _) (by decide) rfl (rr_3_0 _) ?_
      refine r_V0i d_X7_fault_35 (w_X7_80 _ rfl) (tt_4 _ _) rfl rfl (c_readTold hP) (by decide) (Nat.le_of_ble_eq_true rfl) (fun z35 T35 I35 L35 R35 h35 => ?_)
      obtain ⟨rfl, rfl, rfl, y1, y2, p', s, y3, y4, y5⟩ := h35
      refine r_pop d_X7_fault_38 rfl ?_
      refine r_aload_n d_X7_fault_39 rfl ?_
      refine r_getr d_X7_fault_40 f_X7_10 (tt_3 _ _) (by decide) rfl (rr_3_0 _) ?_
      refine r_geti d_X7_fault_43 f_X7_84 (tt_4 _ _) (by decide) (by decide) ?_
      refine r_iret d_X7_fault_46 rfl ?_
      exact ⟨_, rfl, rfl, rfl, rfl, fun a ha => y1 a (by omega) (by omega) (by omega), fun k h2 _ h6 => y2 k h2 h6, fun h => absurd (Or.inr rfl) h, fun h => absurd h (by decide), fun _ => ⟨p', s, y3, y4⟩⟩
    · skip
      refine r_iload_n d_X7_fault_0 rfl ?_
      refine r_if_eq d_X7_fault_1 (by omega) (fun c1 => absurd c1 (by omega)) (fun c1 => ?_)
      refine r_iload_n d_X7_fault_4 rfl ?_
      refine r_iconst d_X7_fault_5 ?_
      refine r_icmp_eq d_X7_fault_6 (by omega) (by omega) (fun c6 => absurd c6 (by omega)) (fun c6 => ?_)
      refine r_bipush d_X7_fault_9 (by decide) ?_
      refine r_iret d_X7_fault_11 rfl ?_
      exact ⟨_, rfl, rfl, rfl, rfl, fun _ _ => rfl, fun _ _ _ _ => rfl, fun _ => rfl, fun h => absurd h k0, fun h => absurd h k1⟩
theorem c_house (hX : XS σ ℓ nr nw ng tl ukd unn utr utw I L) (hP : PGL pg len I) (h0 : iniA D0) : Mc g 6 m_X7_house 0 0 [vr 3] (TT Ls tl) I L (RR tl) (qI fun z T' I' L' R' => T' = TT Ls tl ∧ R' = RR tl ∧ L' = L ∧ ∃ p' D', stpA pg len D0 p' D' ∧ (¬ (p' = len ∧ D' 20 7 = 23) → z = -103 ∧ (∀ a, ¬ (a = 4 ∨ (35 ≤ a ∧ a < 62)) → I' a = I a) ∧ (∀ k, k ≠ 2 → k ≠ 3 → I' 4 k = I 4 k)) ∧ ((p' = len ∧ D' 20 7 = 23) → ∃ nr' nw' ng' : Nat, z = (nr' : Int) ∧ D' 20 0 = (nr' : Int) ∧ D' 20 1 = (nw' : Int) ∧ D' 20 2 = (ng' : Int) ∧ 0 < nr' ∧ 0 < nw' ∧ 0 < ng' ∧ XS (sgA D') ℓ nr' nw' ng' tl ukd unn utr utw I' L' ∧ I' 4 1 = 0 ∧ I' 3 11 = 0 ∧ (∀ k, k ≠ 11 → I' 3 k = I 3 k) ∧ (∀ a, 137 ≤ a → I' a = I a) ∧ (∀ a, a < 3 → I' a = I a))) := by
  refine Mc_of rfl (Nat.le_of_ble_eq_true rfl) ?_
  obtain ⟨hB, hR⟩ := id hX
  obtain ⟨b1, b2, b3, b4, b5, b6, b7, b8⟩ := id hB
  have hl0 : I 63 0 = ℓ := b5.2.2.1
  refine r_aload_n d_X7_house_0 rfl ?_
  refine r_getr d_X7_house_1 f_X7_10 (tt_3 _ _) (by decide) rfl (rr_3_0 _) ?_
  refine r_aload_n d_X7_house_4 rfl ?_
  refine r_getr d_X7_house_5 f_X7_23 (tt_3 _ _) (by decide) rfl (rr_3_2 _) ?_
  refine r_V1i d_X7_house_8 (w_X7_76 _ rfl) (tt_4 _ _) rfl rfl (c_readHouse (hb := 35) (D0 := D0) (Or.inr rfl) hP h0) (by decide) (Nat.le_of_ble_eq_true rfl) (fun z8 T8 I8 L8 R8 h8 => ?_)
  obtain ⟨rfl, rfl, rfl, y1, p', D', y2, y3, y4, y5⟩ := h8
  by_cases kw : p' = len ∧ D' 20 7 = 23
  · obtain ⟨ez, -⟩ := y5 kw
    rw [ez]
    refine r_if_ne d_X7_house_11 (by decide) (fun c11 => ?_) (fun c11 => absurd c11 (by decide))
    have hP2 : PGL pg len I8 := ⟨by rw [y1.2 1 (by decide) (by decide)]; exact hP.1, hP.2.1, fun j hj => by rw [y1.1 5 (by decide) (by decide)]; exact hP.2.2 j hj⟩
    refine r_aload_n d_X7_house_17 rfl ?_
    refine r_getr d_X7_house_18 f_X7_10 (tt_3 _ _) (by decide) rfl (rr_3_0 _) ?_
    refine r_aload_n d_X7_house_21 rfl ?_
    refine r_getr d_X7_house_22 f_X7_19 (tt_3 _ _) (by decide) rfl (rr_3_1 _) ?_
    refine r_V1i d_X7_house_25 (w_X7_76 _ rfl) (tt_4 _ _) rfl rfl (c_readHouse (hb := 8) (D0 := D0) (Or.inl rfl) hP2 h0) (by decide) (Nat.le_of_ble_eq_true rfl) (fun z25 T25 I25 L25 R25 h25 => ?_)
    obtain ⟨rfl, rfl, rfl, w1, p2, D2, w2, w3, w4, w5⟩ := h25
    obtain ⟨rfl, rfl⟩ := stp_uq y2 w2
    obtain ⟨-, nr', nw', ng', hV, hX8, hS8, e0, e1, e2, n1, n2, n3⟩ := w5 kw
    obtain ⟨J, hJ⟩ : ∃ J, J = up2 (up2 I25 4 1 0) 3 11 0 := ⟨_, rfl⟩
    have oJ : ∀ a, a ≠ 4 → a ≠ 3 → J a = I25 a := fun a h4 h3 => by rw [hJ, up2_ne _ _ h3, up2_ne _ _ h4]
    have oI : ∀ a, (a < 3 ∨ 62 ≤ a) → J a = I a := fun a ha => by rw [oJ a (by omega) (by omega), w1.1 a (by omega) (by omega), y1.1 a (by omega) (by omega)]
    have J3 : ∀ k, k ≠ 11 → J 3 k = I 3 k := fun k hk => by rw [hJ, up2_nj _ _ hk, up2_ne _ _ (by decide), w1.1 3 (by decide) (by decide), y1.1 3 (by decide) (by decide)]
    have hXJ : HX 8 (sgA D') nr' nw' ng' J := HX_63 hV hX8 (fun a h1 h2 => oJ a (by omega) (by omega))
    have hSJ : HS 8 (sgA D') nr' ng' J := HS_834 hS8 (fun a h1 h2 => oJ a (by omega) (by omega))
    have hSV : SV (sgA D') ℓ nr' nw' := ⟨hV.1, by have := hV.2.1; omega, hV.2.2.2.1, hV.2.2.2.2.1, b2.2.2.2.2⟩
    refine r_pop d_X7_house_28 rfl ?_
    refine r_aload_n d_X7_house_29 rfl ?_
    refine r_getr d_X7_house_30 f_X7_10 (tt_3 _ _) (by decide) rfl (rr_3_0 _) ?_
    refine r_iconst d_X7_house_33 ?_
    refine r_puti d_X7_house_34 f_X7_68 (tt_4 _ _) (by decide) (Or.inl rfl) ?_
    refine r_aload_n d_X7_house_37 rfl ?_
    refine r_iconst d_X7_house_38 ?_
    refine r_puti d_X7_house_39 f_X7_87 (tt_3 _ _) (by decide) (Or.inr ⟨rfl, by omega⟩) ?_
    rw [← hJ]
    refine r_aload_n d_X7_house_42 rfl ?_
    refine r_V0v d_X7_house_43 (w_X7_91 _ rfl) (tt_3 _ _) rfl rfl (c_hireAllX (ℓ := ℓ) hV hXJ (by rw [oI 63 (by omega)]; exact hl0)) (by decide) (Nat.le_of_ble_eq_true rfl) (fun T43 I43 L43 R43 h43 => ?_)
    obtain ⟨rfl, rfl, rfl, v1, v2, v3, v4⟩ := h43
    refine r_aload_n d_X7_house_46 rfl ?_
    refine r_getr d_X7_house_47 f_X7_19 (tt_3 _ _) (by decide) rfl (rr_3_1 _) ?_
    refine r_geti d_X7_house_50 f_X7_94 (tt_8 _ _) (by decide) (by decide) ?_
    refine r_iret d_X7_house_53 rfl ?_
    have o43 : ∀ a, (a < 63 ∨ 70 ≤ a) → a ≠ 136 → I43 a = J a := v1
    have hX43 : HX 8 (sgA D') nr' nw' ng' I43 := HX_63 hV hXJ (fun a h1 h2 => o43 a (by omega) (by omega))
    refine ⟨_, rfl, rfl, rfl, rfl, p', D', y2, fun h => absurd kw h, fun _ => ⟨nr', nw', ng', hX43.1, e0, e1, e2, n1, n2, n3, ⟨⟨hV, hSV, hX43, HS_834 hSJ (fun a h1 h2 => o43 a (by omega) (by omega)), v2, KNX_none v3 v4, b7, fun j hj => ?_⟩, ?_⟩, ?_, ?_, fun k hk => ?_, fun a ha => ?_, fun a ha => ?_⟩⟩
    · rw [o43 1 (by omega) (by omega), oI 1 (by omega)]; exact b8 j hj
    · refine ⟨by rw [o43 3 (by omega) (by omega), J3 4 (by decide)]; exact hR.1, hR.2.1, fun q hq => ?_⟩
      obtain ⟨u1, u2, u3, u4, u5, u6, u7⟩ := hR.2.2 q hq
      have o186 : ∀ a, 186 ≤ a → I43 a = I a := fun a ha => by rw [o43 a (by omega) (by omega), oI a (by omega)]
      refine ⟨u1, u2, by rw [o186 _ (by omega)]; exact u3, by rw [o186 _ (by omega)]; exact u4, u5, u6, fun i hi => ?_⟩
      rw [o186 (186 + 3 * q + 1) (by omega), o186 (186 + 3 * q + 2) (by omega)]
      exact u7 i hi
    · rw [o43 4 (by omega) (by omega), hJ, up2_ne _ _ (by decide), up2_at]
    · rw [o43 3 (by omega) (by omega), hJ, up2_at]
    · rw [o43 3 (by omega) (by omega)]; exact J3 k hk
    · rw [o43 a (by omega) (by omega), oI a (by omega)]
    · rw [o43 a (by omega) (by omega), oI a (by omega)]
  · rw [y4 kw]
    refine r_if_ne d_X7_house_11 (by decide) (fun c11 => absurd c11 (by decide)) (fun c11 => ?_)
    refine r_bipush d_X7_house_14 (by decide) ?_
    refine r_iret d_X7_house_16 rfl ?_
    exact ⟨_, rfl, rfl, rfl, rfl, p', D', y2, fun _ => ⟨rfl, fun a ha => y1.1 a (by omega) (by omega), y1.2⟩, fun h => absurd h kw⟩
end C71
