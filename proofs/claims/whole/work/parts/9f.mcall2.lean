section X9f
variable {g : sG} {Ls : Nat} {T : sT} {R : sR} {I L : sI} {σ δ : Sg} {ℓ ab : Int} {nr nw nW ng : Nat} {tl : List Nat} {ukd unn : Nat → Int} {utr utw : Nat → Nat → Nat}
theorem x_call (hM : MS σ ℓ nr nw ng tl ukd unn utr utw I) {how room part q : Int} (hh : i32 how) (hr : i32 room) (hpt : i32 part) (hq : I 139 25 = q) (hq2 : 0 ≤ q ∧ q ≤ 16) : Mc g 9 m_X8_call 0 0 [vr 139, vi how, vi room, vi part] (TT Ls tl) I L (RR tl) (AKM σ ℓ nr nw ng Ls tl ukd unn utr utw I L (aCall σ ℓ nr nw ng how room part q)) := by
  refine Mc_of rfl (Nat.le_of_ble_eq_true rfl) ?_
  obtain ⟨hV, h3, hcan, hA, hX, hl, hwm, hN, hR⟩ := id hM
  have hh2 : -2147483648 ≤ how ∧ how ≤ 2147483647 := hh
  have hp2 : -2147483648 ≤ part ∧ part ≤ 2147483647 := hpt
  have e0 := hX.1
  have s1 := hV.1.1
  have h10 := p10 hV.2.2.2
  have hgi := x_isGiving (g := g) (T := TT Ls tl) (I := I) (L := L) (R := RR tl) hh2
  have hwi := x_within (g := g) (T := TT Ls tl) (I := I) (L := L) (R := RR tl) (lo := 0) (hi := 1) hp2 (by omega) (by omega)
  have hic := x_isCalled (g := g) (Ls := Ls) (tl := tl) (L := L) hV hX hr
  have ref : ∀ z : Int, cfS σ nr how room part q = z → z ≠ 0 → AKM σ ℓ nr nw ng Ls tl ukd unn utr utw I L (aCall σ ℓ nr nw ng how room part q) (some (vi z)) (TT Ls tl) I L (RR tl) := fun z h1 h2 => AKM_no hM hq ⟨fun _ => ⟨h1.symm, rfl⟩, fun h => absurd (h1.symm.trans h) h2⟩
  by_cases k1 : (0 ≤ room ∧ room < (nr : Int)) ∧ (σ 6 room.toNat = -1 ∧ σ 4 room.toNat ≠ -1)
  · rw [if_pos k1] at hic
    by_cases k2 : how = 0 ∨ how = 1
    · rw [if_pos k2] at hgi
      by_cases k3 : 0 ≤ part ∧ part ≤ 1
      · rw [if_pos k3] at hwi
        by_cases k4 : nr ≤ 6 ∧ q < 16
        · have ez : cfS σ nr how room part q = 0 := by unfold cfS; rw [if_pos k1, if_pos ⟨k2, by omega⟩, if_pos k4]
          obtain ⟨a1, a2⟩ := MS_ask hM (v := I 139 25 + 1)
          obtain ⟨m1, m2⟩ := MS_all a1
          obtain ⟨I0, hI0⟩ : ∃ I0 : sI, I0 = up2 (up2 (up2 I 139 25 (I 139 25 + 1)) 139 56 (up2 I 139 25 (I 139 25 + 1) 139 8)) 139 55 (-1) := ⟨_, rfl⟩
          rw [← hI0] at m1 m2
          have f0 : FQ I I0 := FQ_tr a2 (FP_FQ m2)
          have e25 : I0 139 25 = q + 1 := by rw [m2.2 25 (by omega), up2_at, hq]
          obtain ⟨r, rfl⟩ : ∃ r : Nat, room = (r : Int) := ⟨room.toNat, by omega⟩
          obtain ⟨hw, rfl⟩ : ∃ hw : Nat, how = (hw : Int) := ⟨how.toNat, by omega⟩
          rw [Int.toNat_natCast] at k1
          have hwc := x_worthOfCall (g := g) (Ls := Ls) (L := L) m1 (hw := hw) (r := r) (by omega) k4.1 (by omega) k1.2.2 k1.2.1
          have e10 : (10 : Int) ^ chn σ nr = ((10 ^ chn σ nr : Nat) : Int) := by rw [Int.natCast_pow]; rfl
          have hww := fun (I2 : sI) (hX2 : MX σ nr nw ng I2) => x_whole (g := g) (Ls := Ls) (tl := tl) (L := L) hV hX2
          rw [e10] at hww h10
          refine r_aload_n d_X8_call_0 rfl ?_
          refine r_iload_n d_X8_call_1 rfl ?_
          refine r_V1i d_X8_call_2 (w_X8_441 _ rfl) (tt_139 _ _) rfl rfl (hic) (by decide) (Nat.le_of_ble_eq_true rfl) (fun z2 T2 I2 L2 R2 h2 => ?_)
          obtain ⟨rfl, rfl, rfl, rfl, rfl⟩ := h2
          refine r_if_ne d_X8_call_5 (by omega) (fun c5 => ?_) (fun c5 => absurd c5 (by decide))
          refine r_iload_n d_X8_call_11 rfl ?_
          refine r_S1i d_X8_call_12 (w_X8_403 _ rfl) (hgi) (by decide) (Nat.le_of_ble_eq_true rfl) (fun z12 T12 I12 L12 R12 h12 => ?_)
          obtain ⟨rfl, rfl, rfl, rfl, rfl⟩ := h12
          refine r_if_eq d_X8_call_15 (by omega) (fun c15 => absurd c15 (by decide)) (fun c15 => ?_)
          refine r_iload_n d_X8_call_18 rfl ?_
          refine r_iconst d_X8_call_19 ?_
          refine r_iconst d_X8_call_20 ?_
          refine r_S3i d_X8_call_21 (w_X8_162 _ rfl) (hwi) (by decide) (Nat.le_of_ble_eq_true rfl) (fun z21 T21 I21 L21 R21 h21 => ?_)
          obtain ⟨rfl, rfl, rfl, rfl, rfl⟩ := h21
          refine r_if_ne d_X8_call_24 (by omega) (fun c24 => ?_) (fun c24 => absurd c24 (by decide))
          refine r_aload_n d_X8_call_30 rfl ?_
          refine r_geti d_X8_call_31 f_X8_232 (tt_139 _ _) (by decide) (by decide) ?_
          refine r_bipush d_X8_call_34 (by decide) ?_
          refine r_icmp_gt d_X8_call_36 (by omega) (by omega) (fun c36 => absurd c36 (by omega)) (fun c36 => ?_)
          refine r_aload_n d_X8_call_39 rfl ?_
          refine r_geti d_X8_call_40 f_X8_435 (tt_139 _ _) (by decide) (by decide) ?_
          refine r_bipush d_X8_call_43 (by decide) ?_
          refine r_icmp_ne d_X8_call_45 (by omega) (by omega) (fun c45 => ?_) (fun c45 => absurd c45 (by omega))
          refine r_aload_n d_X8_call_51 rfl ?_
          refine r_dup d_X8_call_52 rfl ?_
          refine r_geti d_X8_call_53 f_X8_435 (tt_139 _ _) (by decide) (by decide) ?_
          refine r_iconst d_X8_call_56 ?_
          refine r_iadd d_X8_call_57 ?_
          refine r_puti d_X8_call_58 f_X8_435 (tt_139 _ _) (by decide) (Or.inl rfl) ?_
          refine r_aload_n d_X8_call_61 rfl ?_
          refine r_V0v d_X8_call_62 (w_X8_400 _ rfl) (tt_139 _ _) rfl rfl (x_allWomen) (by decide) (Nat.le_of_ble_eq_true rfl) (fun T62 I62 L62 R62 h62 => ?_)
          obtain ⟨rfl, rfl, rfl, rfl⟩ := h62
          rw [← hI0]
          refine r_aload_n d_X8_call_65 rfl ?_
          refine r_iload_n d_X8_call_66 rfl ?_
          refine r_iload_n d_X8_call_67 rfl ?_
          refine r_V2i d_X8_call_68 (w_X8_444 _ rfl) (tt_139 _ _) rfl rfl (hwc) (by decide) (Nat.le_of_ble_eq_true rfl) (fun z68 T68 I68 L68 R68 h68 => ?_)
          obtain ⟨rfl, rfl, rfl, y1, y2, y3, y4⟩ := h68
          refine r_aload_n d_X8_call_71 rfl ?_
          refine r_V0i d_X8_call_72 (w_X8_415 _ rfl) (tt_139 _ _) rfl rfl (hww I68 (MX_fm m1.2.2.2.2.1 y1)) (by decide) (Nat.le_of_ble_eq_true rfl) (fun z72 T72 I72 L72 R72 h72 => ?_)
          obtain ⟨rfl, rfl, rfl, rfl, rfl⟩ := h72
          refine r_iload_n d_X8_call_75 rfl ?_
          refine r_S3i d_X8_call_76 (w_X8_418 _ rfl) (x_lowest (by omega) (by omega) (by omega)) (by decide) (Nat.le_of_ble_eq_true rfl) (fun z76 T76 I76 L76 R76 h76 => ?_)
          obtain ⟨rfl, rfl, rfl, rfl, rfl⟩ := h76
          refine r_iret d_X8_call_79 rfl ?_
          refine ⟨_, rfl, rfl, rfl, rfl, FQ_tr f0 (FP_FQ (FM_FP y1)), MS_fp a1 (FP_tr m2 (FM_FP y1)) y2, ?_⟩
          rw [y1.2 25 (by omega), e25]
          refine ⟨fun h => absurd ez h, fun _ => ⟨rfl, z68, by rw [Int.toNat_natCast]; exact y4, ?_⟩⟩
          unfold gcS
          rw [e10]
        · by_cases k5 : nr ≤ 6
          · skip
            refine r_aload_n d_X8_call_0 rfl ?_
            refine r_iload_n d_X8_call_1 rfl ?_
            refine r_V1i d_X8_call_2 (w_X8_441 _ rfl) (tt_139 _ _) rfl rfl (hic) (by decide) (Nat.le_of_ble_eq_true rfl) (fun z2 T2 I2 L2 R2 h2 => ?_)
            obtain ⟨rfl, rfl, rfl, rfl, rfl⟩ := h2
            refine r_if_ne d_X8_call_5 (by omega) (fun c5 => ?_) (fun c5 => absurd c5 (by decide))
            refine r_iload_n d_X8_call_11 rfl ?_
            refine r_S1i d_X8_call_12 (w_X8_403 _ rfl) (hgi) (by decide) (Nat.le_of_ble_eq_true rfl) (fun z12 T12 I12 L12 R12 h12 => ?_)
            obtain ⟨rfl, rfl, rfl, rfl, rfl⟩ := h12
            refine r_if_eq d_X8_call_15 (by omega) (fun c15 => absurd c15 (by decide)) (fun c15 => ?_)
            refine r_iload_n d_X8_call_18 rfl ?_
            refine r_iconst d_X8_call_19 ?_
            refine r_iconst d_X8_call_20 ?_
            refine r_S3i d_X8_call_21 (w_X8_162 _ rfl) (hwi) (by decide) (Nat.le_of_ble_eq_true rfl) (fun z21 T21 I21 L21 R21 h21 => ?_)
            obtain ⟨rfl, rfl, rfl, rfl, rfl⟩ := h21
            refine r_if_ne d_X8_call_24 (by omega) (fun c24 => ?_) (fun c24 => absurd c24 (by decide))
            refine r_aload_n d_X8_call_30 rfl ?_
            refine r_geti d_X8_call_31 f_X8_232 (tt_139 _ _) (by decide) (by decide) ?_
            refine r_bipush d_X8_call_34 (by decide) ?_
            refine r_icmp_gt d_X8_call_36 (by omega) (by omega) (fun c36 => absurd c36 (by omega)) (fun c36 => ?_)
            refine r_aload_n d_X8_call_39 rfl ?_
            refine r_geti d_X8_call_40 f_X8_435 (tt_139 _ _) (by decide) (by decide) ?_
            refine r_bipush d_X8_call_43 (by decide) ?_
            refine r_icmp_ne d_X8_call_45 (by omega) (by omega) (fun c45 => absurd c45 (by omega)) (fun c45 => ?_)
            refine r_bipush d_X8_call_48 (by decide) ?_
            refine r_iret d_X8_call_50 rfl ?_
            exact ref _ (by unfold cfS; rw [if_pos k1, if_pos ⟨k2, by omega⟩, if_neg k4]) (by decide)
          · skip
            refine r_aload_n d_X8_call_0 rfl ?_
            refine r_iload_n d_X8_call_1 rfl ?_
            refine r_V1i d_X8_call_2 (w_X8_441 _ rfl) (tt_139 _ _) rfl rfl (hic) (by decide) (Nat.le_of_ble_eq_true rfl) (fun z2 T2 I2 L2 R2 h2 => ?_)
            obtain ⟨rfl, rfl, rfl, rfl, rfl⟩ := h2
            refine r_if_ne d_X8_call_5 (by omega) (fun c5 => ?_) (fun c5 => absurd c5 (by decide))
            refine r_iload_n d_X8_call_11 rfl ?_
            refine r_S1i d_X8_call_12 (w_X8_403 _ rfl) (hgi) (by decide) (Nat.le_of_ble_eq_true rfl) (fun z12 T12 I12 L12 R12 h12 => ?_)
            obtain ⟨rfl, rfl, rfl, rfl, rfl⟩ := h12
            refine r_if_eq d_X8_call_15 (by omega) (fun c15 => absurd c15 (by decide)) (fun c15 => ?_)
            refine r_iload_n d_X8_call_18 rfl ?_
            refine r_iconst d_X8_call_19 ?_
            refine r_iconst d_X8_call_20 ?_
            refine r_S3i d_X8_call_21 (w_X8_162 _ rfl) (hwi) (by decide) (Nat.le_of_ble_eq_true rfl) (fun z21 T21 I21 L21 R21 h21 => ?_)
            obtain ⟨rfl, rfl, rfl, rfl, rfl⟩ := h21
            refine r_if_ne d_X8_call_24 (by omega) (fun c24 => ?_) (fun c24 => absurd c24 (by decide))
            refine r_aload_n d_X8_call_30 rfl ?_
            refine r_geti d_X8_call_31 f_X8_232 (tt_139 _ _) (by decide) (by decide) ?_
            refine r_bipush d_X8_call_34 (by decide) ?_
            refine r_icmp_gt d_X8_call_36 (by omega) (by omega) (fun c36 => ?_) (fun c36 => absurd c36 (by omega))
            refine r_bipush d_X8_call_48 (by decide) ?_
            refine r_iret d_X8_call_50 rfl ?_
            exact ref _ (by unfold cfS; rw [if_pos k1, if_pos ⟨k2, by omega⟩, if_neg k4]) (by decide)
      · rw [if_neg k3] at hwi
        refine r_aload_n d_X8_call_0 rfl ?_
        refine r_iload_n d_X8_call_1 rfl ?_
        refine r_V1i d_X8_call_2 (w_X8_441 _ rfl) (tt_139 _ _) rfl rfl (hic) (by decide) (Nat.le_of_ble_eq_true rfl) (fun z2 T2 I2 L2 R2 h2 => ?_)
        obtain ⟨rfl, rfl, rfl, rfl, rfl⟩ := h2
        refine r_if_ne d_X8_call_5 (by omega) (fun c5 => ?_) (fun c5 => absurd c5 (by decide))
        refine r_iload_n d_X8_call_11 rfl ?_
        refine r_S1i d_X8_call_12 (w_X8_403 _ rfl) (hgi) (by decide) (Nat.le_of_ble_eq_true rfl) (fun z12 T12 I12 L12 R12 h12 => ?_)
        obtain ⟨rfl, rfl, rfl, rfl, rfl⟩ := h12
        refine r_if_eq d_X8_call_15 (by omega) (fun c15 => absurd c15 (by decide)) (fun c15 => ?_)
        refine r_iload_n d_X8_call_18 rfl ?_
        refine r_iconst d_X8_call_19 ?_
        refine r_iconst d_X8_call_20 ?_
        refine r_S3i d_X8_call_21 (w_X8_162 _ rfl) (hwi) (by decide) (Nat.le_of_ble_eq_true rfl) (fun z21 T21 I21 L21 R21 h21 => ?_)
        obtain ⟨rfl, rfl, rfl, rfl, rfl⟩ := h21
        refine r_if_ne d_X8_call_24 (by omega) (fun c24 => absurd c24 (by decide)) (fun c24 => ?_)
        refine r_bipush d_X8_call_27 (by decide) ?_
        refine r_iret d_X8_call_29 rfl ?_
        exact ref _ (by unfold cfS; rw [if_pos k1, if_neg (fun p => k3 (by omega))]) (by decide)
    · rw [if_neg k2] at hgi
      refine r_aload_n d_X8_call_0 rfl ?_
      refine r_iload_n d_X8_call_1 rfl ?_
      refine r_V1i d_X8_call_2 (w_X8_441 _ rfl) (tt_139 _ _) rfl rfl (hic) (by decide) (Nat.le_of_ble_eq_true rfl) (fun z2 T2 I2 L2 R2 h2 => ?_)
      obtain ⟨rfl, rfl, rfl, rfl, rfl⟩ := h2
      refine r_if_ne d_X8_call_5 (by omega) (fun c5 => ?_) (fun c5 => absurd c5 (by decide))
      refine r_iload_n d_X8_call_11 rfl ?_
      refine r_S1i d_X8_call_12 (w_X8_403 _ rfl) (hgi) (by decide) (Nat.le_of_ble_eq_true rfl) (fun z12 T12 I12 L12 R12 h12 => ?_)
      obtain ⟨rfl, rfl, rfl, rfl, rfl⟩ := h12
      refine r_if_eq d_X8_call_15 (by omega) (fun c15 => ?_) (fun c15 => absurd c15 (by decide))
      refine r_bipush d_X8_call_27 (by decide) ?_
      refine r_iret d_X8_call_29 rfl ?_
      exact ref _ (by unfold cfS; rw [if_pos k1, if_neg (fun p => k2 p.1)]) (by decide)
  · rw [if_neg k1] at hic
    refine r_aload_n d_X8_call_0 rfl ?_
    refine r_iload_n d_X8_call_1 rfl ?_
    refine r_V1i d_X8_call_2 (w_X8_441 _ rfl) (tt_139 _ _) rfl rfl (hic) (by decide) (Nat.le_of_ble_eq_true rfl) (fun z2 T2 I2 L2 R2 h2 => ?_)
    obtain ⟨rfl, rfl, rfl, rfl, rfl⟩ := h2
    refine r_if_ne d_X8_call_5 (by omega) (fun c5 => absurd c5 (by decide)) (fun c5 => ?_)
    refine r_bipush d_X8_call_8 (by decide) ?_
    refine r_iret d_X8_call_10 rfl ?_
    exact ref _ (by unfold cfS; rw [if_neg k1]) (by decide)
theorem x_best (hM : MS σ ℓ nr nw ng tl ukd unn utr utw I) {how i q : Int} (hh : i32 how) (hi : i32 i) (hq : I 139 25 = q) (hq2 : 0 ≤ q ∧ q ≤ 16) : Mc g 9 m_X8_best 0 0 [vr 139, vi how, vi i] (TT Ls tl) I L (RR tl) (AKM σ ℓ nr nw ng Ls tl ukd unn utr utw I L (aBest σ ℓ nr nw ng how i q)) := by
  refine Mc_of rfl (Nat.le_of_ble_eq_true rfl) ?_
  obtain ⟨hV, h3, hcan, hA, hX, hl, hwm, hN, hR⟩ := id hM
  have hh2 : -2147483648 ≤ how ∧ how ≤ 2147483647 := hh
  have hp2 : -2147483648 ≤ i ∧ i ≤ 2147483647 := hi
  have e0 := hX.1
  have s1 := hV.1.1
  have hgi := x_isGiving (g := g) (T := TT Ls tl) (I := I) (L := L) (R := RR tl) hh2
  have hwi := x_within (g := g) (T := TT Ls tl) (I := I) (L := L) (R := RR tl) (lo := 0) (hi := 5) hp2 (by omega) (by omega)
  have ref : ∀ z : Int, bfS nr how i q = z → z ≠ 0 → AKM σ ℓ nr nw ng Ls tl ukd unn utr utw I L (aBest σ ℓ nr nw ng how i q) (some (vi z)) (TT Ls tl) I L (RR tl) := fun z h1 h2 => AKM_no hM hq ⟨fun _ => ⟨h1.symm, rfl⟩, fun h => absurd (h1.symm.trans h) h2⟩
  by_cases k1 : 0 < nr
  · by_cases k2 : how = 0 ∨ how = 1
    · rw [if_pos k2] at hgi
      by_cases k3 : 0 ≤ i ∧ i ≤ 5
      · rw [if_pos k3] at hwi
        by_cases k4 : nr ≤ 6 ∧ q < 16
        · have ez : bfS nr how i q = 0 := by unfold bfS; rw [if_pos k1, if_pos ⟨k2, by omega⟩, if_pos k4]
          obtain ⟨a1, a2⟩ := MS_ask hM (v := I 139 25 + 1)
          obtain ⟨m1, m2⟩ := MS_all a1
          obtain ⟨I0, hI0⟩ : ∃ I0 : sI, I0 = up2 (up2 (up2 I 139 25 (I 139 25 + 1)) 139 56 (up2 I 139 25 (I 139 25 + 1) 139 8)) 139 55 (-1) := ⟨_, rfl⟩
          rw [← hI0] at m1 m2
          have f0 : FQ I I0 := FQ_tr a2 (FP_FQ m2)
          have e25 : I0 139 25 = q + 1 := by rw [m2.2 25 (by omega), up2_at, hq]
          obtain ⟨hw, rfl⟩ : ∃ hw : Nat, how = (hw : Int) := ⟨how.toNat, by omega⟩
          obtain ⟨j, rfl⟩ : ∃ j : Nat, i = (j : Int) := ⟨i.toNat, by omega⟩
          have hlg := x_layGone (g := g) (Ls := Ls) (tl := tl) (L := L) hV m1.2.2.2.2.1 (way := 0) (by omega)
          have fin : ∀ (I2 : sI) (z : Int), FM I0 I2 → KNM σ ℓ (-1) nr nw ng I2 → ((nr : Int) ≤ (j : Int) → z = -1) → ((j : Int) < (nr : Int) → ∃ (lf : List Nat) (x : Nat), BST σ ℓ (-1) nr nw ng (hw : Int) lf ∧ lf[((j : Int)).toNat]? = some x ∧ z = (x : Int)) → AKM σ ℓ nr nw ng Ls tl ukd unn utr utw I L (aBest σ ℓ nr nw ng (hw : Int) (j : Int) q) (some (vi z)) (TT Ls tl) I2 L (RR tl) := fun I2 z y1 y2 h1 h2 => by
            refine ⟨_, rfl, rfl, rfl, rfl, FQ_tr f0 (FP_FQ (FM_FP y1)), MS_fp a1 (FP_tr m2 (FM_FP y1)) y2, ?_⟩
            rw [y1.2 25 (by omega), e25]
            exact ⟨fun h => absurd ez h, fun _ => ⟨rfl, h1, h2⟩⟩
          by_cases k5 : j < nr
          · skip
            refine r_aload_n d_X8_best_0 rfl ?_
            refine r_geti d_X8_best_1 f_X8_232 (tt_139 _ _) (by decide) (by decide) ?_
            refine r_if_ne d_X8_best_4 (by omega) (fun c4 => ?_) (fun c4 => absurd c4 (by omega))
            refine r_iload_n d_X8_best_10 rfl ?_
            refine r_S1i d_X8_best_11 (w_X8_403 _ rfl) (hgi) (by decide) (Nat.le_of_ble_eq_true rfl) (fun z11 T11 I11 L11 R11 h11 => ?_)
            obtain ⟨rfl, rfl, rfl, rfl, rfl⟩ := h11
            refine r_if_eq d_X8_best_14 (by omega) (fun c14 => absurd c14 (by decide)) (fun c14 => ?_)
            refine r_iload_n d_X8_best_17 rfl ?_
            refine r_iconst d_X8_best_18 ?_
            refine r_iconst d_X8_best_19 ?_
            refine r_S3i d_X8_best_20 (w_X8_162 _ rfl) (hwi) (by decide) (Nat.le_of_ble_eq_true rfl) (fun z20 T20 I20 L20 R20 h20 => ?_)
            obtain ⟨rfl, rfl, rfl, rfl, rfl⟩ := h20
            refine r_if_ne d_X8_best_23 (by omega) (fun c23 => ?_) (fun c23 => absurd c23 (by decide))
            refine r_aload_n d_X8_best_29 rfl ?_
            refine r_geti d_X8_best_30 f_X8_232 (tt_139 _ _) (by decide) (by decide) ?_
            refine r_bipush d_X8_best_33 (by decide) ?_
            refine r_icmp_gt d_X8_best_35 (by omega) (by omega) (fun c35 => absurd c35 (by omega)) (fun c35 => ?_)
            refine r_aload_n d_X8_best_38 rfl ?_
            refine r_geti d_X8_best_39 f_X8_435 (tt_139 _ _) (by decide) (by decide) ?_
            refine r_bipush d_X8_best_42 (by decide) ?_
            refine r_icmp_ne d_X8_best_44 (by omega) (by omega) (fun c44 => ?_) (fun c44 => absurd c44 (by omega))
            refine r_aload_n d_X8_best_50 rfl ?_
            refine r_dup d_X8_best_51 rfl ?_
            refine r_geti d_X8_best_52 f_X8_435 (tt_139 _ _) (by decide) (by decide) ?_
            refine r_iconst d_X8_best_55 ?_
            refine r_iadd d_X8_best_56 ?_
            refine r_puti d_X8_best_57 f_X8_435 (tt_139 _ _) (by decide) (Or.inl rfl) ?_
            refine r_aload_n d_X8_best_60 rfl ?_
            refine r_V0v d_X8_best_61 (w_X8_400 _ rfl) (tt_139 _ _) rfl rfl (x_allWomen) (by decide) (Nat.le_of_ble_eq_true rfl) (fun T61 I61 L61 R61 h61 => ?_)
            obtain ⟨rfl, rfl, rfl, rfl⟩ := h61
            rw [← hI0]
            refine r_aload_n d_X8_best_64 rfl ?_
            refine r_iconst d_X8_best_65 ?_
            refine r_V1v d_X8_best_66 (w_X8_275 _ rfl) (tt_139 _ _) rfl rfl (hlg) (by decide) (Nat.le_of_ble_eq_true rfl) (fun T66 I66 L66 R66 h66 => ?_)
            obtain ⟨rfl, rfl, rfl, y1, y2⟩ := h66
            have fm1 : FM I0 I66 := FM_frb y1 (by omega) (by omega)
            have hb := MB_fm m1 fm1 (KNM_fr m1.2.2.2.2.2.2.1 (y1 173 (by omega)) (y1 183 (by omega)))
            refine r_aload_n d_X8_best_69 rfl ?_
            refine r_iload_n d_X8_best_70 rfl ?_
            refine r_V1v d_X8_best_71 (w_X8_327 _ rfl) (tt_139 _ _) rfl rfl (x_layBestOrder hb (way := 0) (by omega) k1 k4.1 y2) (by decide) (Nat.le_of_ble_eq_true rfl) (fun T71 I71 L71 R71 h71 => ?_)
            obtain ⟨rfl, rfl, rfl, u1, u2, u3, lf, u4, u5, u6⟩ := h71
            have er : I71 139 0 = (nr : Int) := (MX_fm hb.2.2.2.2.1 u1).1
            refine r_iload_n d_X8_best_74 rfl ?_
            refine r_aload_n d_X8_best_75 rfl ?_
            refine r_geti d_X8_best_76 f_X8_232 (tt_139 _ _) (by decide) (by decide) ?_
            refine r_icmp_ge d_X8_best_79 (by omega) (by omega) (fun c79 => absurd c79 (by omega)) (fun c79 => ?_)
            refine r_aload_n d_X8_best_82 rfl ?_
            refine r_getr d_X8_best_83 f_X8_148 (tt_139 _ _) (by decide) rfl (rr_139_65 _) ?_
            refine r_bipush d_X8_best_86 (by decide) ?_
            refine r_iload_n d_X8_best_88 rfl ?_
            refine r_imul d_X8_best_89 ?_
            refine r_iload_n d_X8_best_90 rfl ?_
            refine r_iadd d_X8_best_91 ?_
            refine r_ialdJ (j := 6 * hw + j) d_X8_best_92 (tt_183 _ _) (by omega) (by omega) (kk := ?_)
            refine r_goto d_X8_best_93 ?_
            refine r_iret d_X8_best_97 rfl ?_
            obtain ⟨x, x1, x2, x3⟩ := u6 j k5
            exact fin I71 _ (FM_tr fm1 u1) u2 (fun h => absurd h (by omega)) (fun _ => ⟨lf, x, u4, by rw [Int.toNat_natCast]; exact x1, x3⟩)
          · skip
            refine r_aload_n d_X8_best_0 rfl ?_
            refine r_geti d_X8_best_1 f_X8_232 (tt_139 _ _) (by decide) (by decide) ?_
            refine r_if_ne d_X8_best_4 (by omega) (fun c4 => ?_) (fun c4 => absurd c4 (by omega))
            refine r_iload_n d_X8_best_10 rfl ?_
            refine r_S1i d_X8_best_11 (w_X8_403 _ rfl) (hgi) (by decide) (Nat.le_of_ble_eq_true rfl) (fun z11 T11 I11 L11 R11 h11 => ?_)
            obtain ⟨rfl, rfl, rfl, rfl, rfl⟩ := h11
            refine r_if_eq d_X8_best_14 (by omega) (fun c14 => absurd c14 (by decide)) (fun c14 => ?_)
            refine r_iload_n d_X8_best_17 rfl ?_
            refine r_iconst d_X8_best_18 ?_
            refine r_iconst d_X8_best_19 ?_
            refine r_S3i d_X8_best_20 (w_X8_162 _ rfl) (hwi) (by decide) (Nat.le_of_ble_eq_true rfl) (fun z20 T20 I20 L20 R20 h20 => ?_)
            obtain ⟨rfl, rfl, rfl, rfl, rfl⟩ := h20
            refine r_if_ne d_X8_best_23 (by omega) (fun c23 => ?_) (fun c23 => absurd c23 (by decide))
            refine r_aload_n d_X8_best_29 rfl ?_
            refine r_geti d_X8_best_30 f_X8_232 (tt_139 _ _) (by decide) (by decide) ?_
            refine r_bipush d_X8_best_33 (by decide) ?_
            refine r_icmp_gt d_X8_best_35 (by omega) (by omega) (fun c35 => absurd c35 (by omega)) (fun c35 => ?_)
            refine r_aload_n d_X8_best_38 rfl ?_
            refine r_geti d_X8_best_39 f_X8_435 (tt_139 _ _) (by decide) (by decide) ?_
            refine r_bipush d_X8_best_42 (by decide) ?_
            refine r_icmp_ne d_X8_best_44 (by omega) (by omega) (fun c44 => ?_) (fun c44 => absurd c44 (by omega))
            refine r_aload_n d_X8_best_50 rfl ?_
            refine r_dup d_X8_best_51 rfl ?_
            refine r_geti d_X8_best_52 f_X8_435 (tt_139 _ _) (by decide) (by decide) ?_
            refine r_iconst d_X8_best_55 ?_
            refine r_iadd d_X8_best_56 ?_
            refine r_puti d_X8_best_57 f_X8_435 (tt_139 _ _) (by decide) (Or.inl rfl) ?_
            refine r_aload_n d_X8_best_60 rfl ?_
            refine r_V0v d_X8_best_61 (w_X8_400 _ rfl) (tt_139 _ _) rfl rfl (x_allWomen) (by decide) (Nat.le_of_ble_eq_true rfl) (fun T61 I61 L61 R61 h61 => ?_)
            obtain ⟨rfl, rfl, rfl, rfl⟩ := h61
            rw [← hI0]
            refine r_aload_n d_X8_best_64 rfl ?_
            refine r_iconst d_X8_best_65 ?_
            refine r_V1v d_X8_best_66 (w_X8_275 _ rfl) (tt_139 _ _) rfl rfl (hlg) (by decide) (Nat.le_of_ble_eq_true rfl) (fun T66 I66 L66 R66 h66 => ?_)
            obtain ⟨rfl, rfl, rfl, y1, y2⟩ := h66
            have fm1 : FM I0 I66 := FM_frb y1 (by omega) (by omega)
            have hb := MB_fm m1 fm1 (KNM_fr m1.2.2.2.2.2.2.1 (y1 173 (by omega)) (y1 183 (by omega)))
            refine r_aload_n d_X8_best_69 rfl ?_
            refine r_iload_n d_X8_best_70 rfl ?_
            refine r_V1v d_X8_best_71 (w_X8_327 _ rfl) (tt_139 _ _) rfl rfl (x_layBestOrder hb (way := 0) (by omega) k1 k4.1 y2) (by decide) (Nat.le_of_ble_eq_true rfl) (fun T71 I71 L71 R71 h71 => ?_)
            obtain ⟨rfl, rfl, rfl, u1, u2, u3, lf, u4, u5, u6⟩ := h71
            have er : I71 139 0 = (nr : Int) := (MX_fm hb.2.2.2.2.1 u1).1
            refine r_iload_n d_X8_best_74 rfl ?_
            refine r_aload_n d_X8_best_75 rfl ?_
            refine r_geti d_X8_best_76 f_X8_232 (tt_139 _ _) (by decide) (by decide) ?_
            refine r_icmp_ge d_X8_best_79 (by omega) (by omega) (fun c79 => ?_) (fun c79 => absurd c79 (by omega))
            refine r_iconst d_X8_best_96 ?_
            refine r_iret d_X8_best_97 rfl ?_
            exact fin I71 _ (FM_tr fm1 u1) u2 (fun _ => rfl) (fun h => absurd h (by omega))
        · by_cases k5 : nr ≤ 6
          · skip
            refine r_aload_n d_X8_best_0 rfl ?_
            refine r_geti d_X8_best_1 f_X8_232 (tt_139 _ _) (by decide) (by decide) ?_
            refine r_if_ne d_X8_best_4 (by omega) (fun c4 => ?_) (fun c4 => absurd c4 (by omega))
            refine r_iload_n d_X8_best_10 rfl ?_
            refine r_S1i d_X8_best_11 (w_X8_403 _ rfl) (hgi) (by decide) (Nat.le_of_ble_eq_true rfl) (fun z11 T11 I11 L11 R11 h11 => ?_)
            obtain ⟨rfl, rfl, rfl, rfl, rfl⟩ := h11
            refine r_if_eq d_X8_best_14 (by omega) (fun c14 => absurd c14 (by decide)) (fun c14 => ?_)
            refine r_iload_n d_X8_best_17 rfl ?_
            refine r_iconst d_X8_best_18 ?_
            refine r_iconst d_X8_best_19 ?_
            refine r_S3i d_X8_best_20 (w_X8_162 _ rfl) (hwi) (by decide) (Nat.le_of_ble_eq_true rfl) (fun z20 T20 I20 L20 R20 h20 => ?_)
            obtain ⟨rfl, rfl, rfl, rfl, rfl⟩ := h20
            refine r_if_ne d_X8_best_23 (by omega) (fun c23 => ?_) (fun c23 => absurd c23 (by decide))
            refine r_aload_n d_X8_best_29 rfl ?_
            refine r_geti d_X8_best_30 f_X8_232 (tt_139 _ _) (by decide) (by decide) ?_
            refine r_bipush d_X8_best_33 (by decide) ?_
            refine r_icmp_gt d_X8_best_35 (by omega) (by omega) (fun c35 => absurd c35 (by omega)) (fun c35 => ?_)
            refine r_aload_n d_X8_best_38 rfl ?_
            refine r_geti d_X8_best_39 f_X8_435 (tt_139 _ _) (by decide) (by decide) ?_
            refine r_bipush d_X8_best_42 (by decide) ?_
            refine r_icmp_ne d_X8_best_44 (by omega) (by omega) (fun c44 => absurd c44 (by omega)) (fun c44 => ?_)
            refine r_bipush d_X8_best_47 (by decide) ?_
            refine r_iret d_X8_best_49 rfl ?_
            exact ref _ (by unfold bfS; rw [if_pos k1, if_pos ⟨k2, by omega⟩, if_neg k4]) (by decide)
          · skip
            refine r_aload_n d_X8_best_0 rfl ?_
            refine r_geti d_X8_best_1 f_X8_232 (tt_139 _ _) (by decide) (by decide) ?_
            refine r_if_ne d_X8_best_4 (by omega) (fun c4 => ?_) (fun c4 => absurd c4 (by omega))
            refine r_iload_n d_X8_best_10 rfl ?_
            refine r_S1i d_X8_best_11 (w_X8_403 _ rfl) (hgi) (by decide) (Nat.le_of_ble_eq_true rfl) (fun z11 T11 I11 L11 R11 h11 => ?_)
            obtain ⟨rfl, rfl, rfl, rfl, rfl⟩ := h11
            refine r_if_eq d_X8_best_14 (by omega) (fun c14 => absurd c14 (by decide)) (fun c14 => ?_)
            refine r_iload_n d_X8_best_17 rfl ?_
            refine r_iconst d_X8_best_18 ?_
            refine r_iconst d_X8_best_19 ?_
            refine r_S3i d_X8_best_20 (w_X8_162 _ rfl) (hwi) (by decide) (Nat.le_of_ble_eq_true rfl) (fun z20 T20 I20 L20 R20 h20 => ?_)
            obtain ⟨rfl, rfl, rfl, rfl, rfl⟩ := h20
            refine r_if_ne d_X8_best_23 (by omega) (fun c23 => ?_) (fun c23 => absurd c23 (by decide))
            refine r_aload_n d_X8_best_29 rfl ?_
            refine r_geti d_X8_best_30 f_X8_232 (tt_139 _ _) (by decide) (by decide) ?_
            refine r_bipush d_X8_best_33 (by decide) ?_
            refine r_icmp_gt d_X8_best_35 (by omega) (by omega) (fun c35 => ?_) (fun c35 => absurd c35 (by omega))
            refine r_bipush d_X8_best_47 (by decide) ?_
            refine r_iret d_X8_best_49 rfl ?_
            exact ref _ (by unfold bfS; rw [if_pos k1, if_pos ⟨k2, by omega⟩, if_neg k4]) (by decide)
      · rw [if_neg k3] at hwi
        refine r_aload_n d_X8_best_0 rfl ?_
        refine r_geti d_X8_best_1 f_X8_232 (tt_139 _ _) (by decide) (by decide) ?_
        refine r_if_ne d_X8_best_4 (by omega) (fun c4 => ?_) (fun c4 => absurd c4 (by omega))
        refine r_iload_n d_X8_best_10 rfl ?_
        refine r_S1i d_X8_best_11 (w_X8_403 _ rfl) (hgi) (by decide) (Nat.le_of_ble_eq_true rfl) (fun z11 T11 I11 L11 R11 h11 => ?_)
        obtain ⟨rfl, rfl, rfl, rfl, rfl⟩ := h11
        refine r_if_eq d_X8_best_14 (by omega) (fun c14 => absurd c14 (by decide)) (fun c14 => ?_)
        refine r_iload_n d_X8_best_17 rfl ?_
        refine r_iconst d_X8_best_18 ?_
        refine r_iconst d_X8_best_19 ?_
        refine r_S3i d_X8_best_20 (w_X8_162 _ rfl) (hwi) (by decide) (Nat.le_of_ble_eq_true rfl) (fun z20 T20 I20 L20 R20 h20 => ?_)
        obtain ⟨rfl, rfl, rfl, rfl, rfl⟩ := h20
        refine r_if_ne d_X8_best_23 (by omega) (fun c23 => absurd c23 (by decide)) (fun c23 => ?_)
        refine r_bipush d_X8_best_26 (by decide) ?_
        refine r_iret d_X8_best_28 rfl ?_
        exact ref _ (by unfold bfS; rw [if_pos k1, if_neg (fun p => k3 (by omega))]) (by decide)
    · rw [if_neg k2] at hgi
      refine r_aload_n d_X8_best_0 rfl ?_
      refine r_geti d_X8_best_1 f_X8_232 (tt_139 _ _) (by decide) (by decide) ?_
      refine r_if_ne d_X8_best_4 (by omega) (fun c4 => ?_) (fun c4 => absurd c4 (by omega))
      refine r_iload_n d_X8_best_10 rfl ?_
      refine r_S1i d_X8_best_11 (w_X8_403 _ rfl) (hgi) (by decide) (Nat.le_of_ble_eq_true rfl) (fun z11 T11 I11 L11 R11 h11 => ?_)
      obtain ⟨rfl, rfl, rfl, rfl, rfl⟩ := h11
      refine r_if_eq d_X8_best_14 (by omega) (fun c14 => ?_) (fun c14 => absurd c14 (by decide))
      refine r_bipush d_X8_best_26 (by decide) ?_
      refine r_iret d_X8_best_28 rfl ?_
      exact ref _ (by unfold bfS; rw [if_pos k1, if_neg (fun p => k2 p.1)]) (by decide)
  · skip
    refine r_aload_n d_X8_best_0 rfl ?_
    refine r_geti d_X8_best_1 f_X8_232 (tt_139 _ _) (by decide) (by decide) ?_
    refine r_if_ne d_X8_best_4 (by omega) (fun c4 => absurd c4 (by omega)) (fun c4 => ?_)
    refine r_bipush d_X8_best_7 (by decide) ?_
    refine r_iret d_X8_best_9 rfl ?_
    exact ref _ (by unfold bfS; rw [if_neg k1]) (by decide)
end X9f
