section X9n
variable {g : sG} {Ls : Nat} {tl : List Nat} {I L : sI} {σ : Sg} {ℓ : Int} {nr nW nw ng : Nat}
theorem x_roomTold (hX : MX σ nr nW ng I) (h8 : nr ≤ 8) {r k : Nat} (hr : r < nr) (hk : k < 7) : Mc g 0 m_X8_roomTold 0 0 [vr 139, vi (r : Int), vi (k : Int)] (TT Ls tl) I L (RR tl) (qI fun z T' I' L' R' => z = σ k r ∧ same (TT Ls tl) I L (RR tl) T' I' L' R') := by
  refine Mc_of rfl (Nat.le_of_ble_eq_true rfl) ?_
  have e := hX.2.2.1 r hr
  obtain ⟨Q, hQ⟩ : ∃ Q : sQ, Q = (qI fun z T' I' L' R' => z = σ k r ∧ same (TT Ls tl) I L (RR tl) T' I' L' R') := ⟨_, rfl⟩
  rw [← hQ]
  have fin : ∀ z : Int, z = σ k r → Q (some (vi z)) (TT Ls tl) I L (RR tl) := fun z h => by rw [hQ]; exact ⟨_, rfl, h, same_rf⟩
  have k0 : k = 0 → Cp g 0 m_X8_roomTold 0 0 Q 40 [(0, vr 139), (1, vi (r : Int)), (2, vi (k : Int))] [] (TT Ls tl) I L (RR tl) := by
    intro h
    subst h
    refine r_aload_n d_X8_roomTold_40 rfl ?_
    refine r_getr d_X8_roomTold_41 f_X8_7 (tt_139 _ _) (by decide) rfl (rr_139_1 _) ?_
    refine r_iload_n d_X8_roomTold_44 rfl ?_
    refine r_ialdJ d_X8_roomTold_45 (tt_140 _ _) rfl (by omega) (kk := ?_)
    refine r_iret d_X8_roomTold_46 rfl ?_
    exact fin _ (e 0 (by omega))
  have k1 : k = 1 → Cp g 0 m_X8_roomTold 0 0 Q 47 [(0, vr 139), (1, vi (r : Int)), (2, vi (k : Int))] [] (TT Ls tl) I L (RR tl) := by
    intro h
    subst h
    refine r_aload_n d_X8_roomTold_47 rfl ?_
    refine r_getr d_X8_roomTold_48 f_X8_13 (tt_139 _ _) (by decide) rfl (rr_139_2 _) ?_
    refine r_iload_n d_X8_roomTold_51 rfl ?_
    refine r_ialdJ d_X8_roomTold_52 (tt_141 _ _) rfl (by omega) (kk := ?_)
    refine r_iret d_X8_roomTold_53 rfl ?_
    exact fin _ (e 1 (by omega))
  have k2 : k = 2 → Cp g 0 m_X8_roomTold 0 0 Q 54 [(0, vr 139), (1, vi (r : Int)), (2, vi (k : Int))] [] (TT Ls tl) I L (RR tl) := by
    intro h
    subst h
    refine r_aload_n d_X8_roomTold_54 rfl ?_
    refine r_getr d_X8_roomTold_55 f_X8_16 (tt_139 _ _) (by decide) rfl (rr_139_3 _) ?_
    refine r_iload_n d_X8_roomTold_58 rfl ?_
    refine r_ialdJ d_X8_roomTold_59 (tt_142 _ _) rfl (by omega) (kk := ?_)
    refine r_iret d_X8_roomTold_60 rfl ?_
    exact fin _ (e 2 (by omega))
  have k3 : k = 3 → Cp g 0 m_X8_roomTold 0 0 Q 61 [(0, vr 139), (1, vi (r : Int)), (2, vi (k : Int))] [] (TT Ls tl) I L (RR tl) := by
    intro h
    subst h
    refine r_aload_n d_X8_roomTold_61 rfl ?_
    refine r_getr d_X8_roomTold_62 f_X8_19 (tt_139 _ _) (by decide) rfl (rr_139_4 _) ?_
    refine r_iload_n d_X8_roomTold_65 rfl ?_
    refine r_ialdJ d_X8_roomTold_66 (tt_143 _ _) rfl (by omega) (kk := ?_)
    refine r_iret d_X8_roomTold_67 rfl ?_
    exact fin _ (e 3 (by omega))
  have k4 : k = 4 → Cp g 0 m_X8_roomTold 0 0 Q 68 [(0, vr 139), (1, vi (r : Int)), (2, vi (k : Int))] [] (TT Ls tl) I L (RR tl) := by
    intro h
    subst h
    refine r_aload_n d_X8_roomTold_68 rfl ?_
    refine r_getr d_X8_roomTold_69 f_X8_22 (tt_139 _ _) (by decide) rfl (rr_139_5 _) ?_
    refine r_iload_n d_X8_roomTold_72 rfl ?_
    refine r_ialdJ d_X8_roomTold_73 (tt_144 _ _) rfl (by omega) (kk := ?_)
    refine r_iret d_X8_roomTold_74 rfl ?_
    exact fin _ (e 4 (by omega))
  have k5 : k = 5 → Cp g 0 m_X8_roomTold 0 0 Q 75 [(0, vr 139), (1, vi (r : Int)), (2, vi (k : Int))] [] (TT Ls tl) I L (RR tl) := by
    intro h
    subst h
    refine r_aload_n d_X8_roomTold_75 rfl ?_
    refine r_getr d_X8_roomTold_76 f_X8_25 (tt_139 _ _) (by decide) rfl (rr_139_6 _) ?_
    refine r_iload_n d_X8_roomTold_79 rfl ?_
    refine r_ialdJ d_X8_roomTold_80 (tt_145 _ _) rfl (by omega) (kk := ?_)
    refine r_iret d_X8_roomTold_81 rfl ?_
    exact fin _ (e 5 (by omega))
  have k6 : k = 6 → Cp g 0 m_X8_roomTold 0 0 Q 82 [(0, vr 139), (1, vi (r : Int)), (2, vi (k : Int))] [] (TT Ls tl) I L (RR tl) := by
    intro h
    subst h
    refine r_aload_n d_X8_roomTold_82 rfl ?_
    refine r_getr d_X8_roomTold_83 f_X8_28 (tt_139 _ _) (by decide) rfl (rr_139_7 _) ?_
    refine r_iload_n d_X8_roomTold_86 rfl ?_
    refine r_ialdJ d_X8_roomTold_87 (tt_146 _ _) rfl (by omega) (kk := ?_)
    refine r_iret d_X8_roomTold_88 rfl ?_
    exact fin _ (e 6 (by omega))
  refine r_iload_n d_X8_roomTold_0 rfl ?_
  refine r_sw d_X8_roomTold_1 (by omega) (fun h1 h2 => ?_) (fun h => ?_)
  · have hc : k = 0 ∨ k = 1 ∨ k = 2 ∨ k = 3 ∨ k = 4 ∨ k = 5 := by omega
    rcases hc with hc | hc | hc | hc | hc | hc
    · rw [show ((k : Int) - 0).toNat = 0 by omega]; exact k0 hc
    · rw [show ((k : Int) - 0).toNat = 1 by omega]; exact k1 hc
    · rw [show ((k : Int) - 0).toNat = 2 by omega]; exact k2 hc
    · rw [show ((k : Int) - 0).toNat = 3 by omega]; exact k3 hc
    · rw [show ((k : Int) - 0).toNat = 4 by omega]; exact k4 hc
    · rw [show ((k : Int) - 0).toNat = 5 by omega]; exact k5 hc
  · exact k6 (by omega)
theorem x_room (hV : MV σ ℓ nr nw ng) (h3 : nw ≤ 3) (hX : MX σ nr nw ng I) (hw8 : I 139 8 = (nw : Int)) {r what : Int} (hr : i32 r) (hw : i32 what) : Mc g 2 m_X8_room 0 0 [vr 139, vi r, vi what] (TT Ls tl) I L (RR tl) (qI fun z T' I' L' R' => z = tlR σ nr 0 7 r what ∧ same (TT Ls tl) I L (RR tl) T' I' L' R') := by
  refine Mc_of rfl (Nat.le_of_ble_eq_true rfl) ?_
  have hr2 : -2147483648 ≤ r ∧ r ≤ 2147483647 := hr
  have hw2 : -2147483648 ≤ what ∧ what ≤ 2147483647 := hw
  have h8 := hV.1.1
  have v2 := hV.2.1
  have hc := x_isRoom (g := g) (Ls := Ls) (tl := tl) (L := L) hr2 hX.1 h8
  have hwi := x_within (g := g) (T := TT Ls tl) (I := I) (L := L) (R := RR tl) (lo := 0) (hi := 6) hw2 (by omega) (by omega)
  unfold tlR
  by_cases h1 : 0 ≤ r ∧ r < (nr : Int)
  · rw [if_pos h1] at hc
    rw [if_pos h1]
    by_cases h2 : 0 ≤ what ∧ what < ((7 : Nat) : Int)
    · rw [if_pos (by omega)] at hwi
      rw [if_pos h2]
      obtain ⟨ρ, rfl⟩ : ∃ ρ : Nat, r = (ρ : Int) := ⟨r.toNat, by omega⟩
      obtain ⟨k, rfl⟩ : ∃ k : Nat, what = (k : Int) := ⟨what.toNat, by omega⟩
      refine r_aload_n d_X8_room_0 rfl ?_
      refine r_iload_n d_X8_room_1 rfl ?_
      refine r_V1i d_X8_room_2 (w_X8_253 _ rfl) (tt_139 _ _) rfl rfl (hc) (by decide) (Nat.le_of_ble_eq_true rfl) (fun z2 T2 I2 L2 R2 h2 => ?_)
      obtain ⟨rfl, rfl, rfl, rfl, rfl⟩ := h2
      refine r_if_ne d_X8_room_5 (by omega) (fun c5 => ?_) (fun c5 => absurd c5 (by decide))
      refine r_iload_n d_X8_room_13 rfl ?_
      refine r_iconst d_X8_room_14 ?_
      refine r_bipush d_X8_room_15 (by decide) ?_
      refine r_S3i d_X8_room_17 (w_X8_162 _ rfl) (hwi) (by decide) (Nat.le_of_ble_eq_true rfl) (fun z17 T17 I17 L17 R17 h17 => ?_)
      obtain ⟨rfl, rfl, rfl, rfl, rfl⟩ := h17
      refine r_if_eq d_X8_room_20 (by omega) (fun c20 => absurd c20 (by decide)) (fun c20 => ?_)
      refine r_aload_n d_X8_room_23 rfl ?_
      refine r_iload_n d_X8_room_24 rfl ?_
      refine r_iload_n d_X8_room_25 rfl ?_
      refine r_V2i d_X8_room_26 (w_X8_256 _ rfl) (tt_139 _ _) rfl rfl (x_roomTold hX h8 (by omega) (by omega)) (by decide) (Nat.le_of_ble_eq_true rfl) (fun z26 T26 I26 L26 R26 h26 => ?_)
      obtain ⟨rfl, rfl, rfl, rfl, rfl⟩ := h26
      refine r_goto d_X8_room_29 ?_
      refine r_iret d_X8_room_34 rfl ?_
      exact ⟨_, rfl, by rw [Int.toNat_natCast, Int.toNat_natCast]; rw [Nat.zero_add], same_rf⟩
    · rw [if_neg (by omega)] at hwi
      rw [if_neg h2]
      refine r_aload_n d_X8_room_0 rfl ?_
      refine r_iload_n d_X8_room_1 rfl ?_
      refine r_V1i d_X8_room_2 (w_X8_253 _ rfl) (tt_139 _ _) rfl rfl (hc) (by decide) (Nat.le_of_ble_eq_true rfl) (fun z2 T2 I2 L2 R2 h2 => ?_)
      obtain ⟨rfl, rfl, rfl, rfl, rfl⟩ := h2
      refine r_if_ne d_X8_room_5 (by omega) (fun c5 => ?_) (fun c5 => absurd c5 (by decide))
      refine r_iload_n d_X8_room_13 rfl ?_
      refine r_iconst d_X8_room_14 ?_
      refine r_bipush d_X8_room_15 (by decide) ?_
      refine r_S3i d_X8_room_17 (w_X8_162 _ rfl) (hwi) (by decide) (Nat.le_of_ble_eq_true rfl) (fun z17 T17 I17 L17 R17 h17 => ?_)
      obtain ⟨rfl, rfl, rfl, rfl, rfl⟩ := h17
      refine r_if_eq d_X8_room_20 (by omega) (fun c20 => ?_) (fun c20 => absurd c20 (by decide))
      refine r_bipush d_X8_room_32 (by decide) ?_
      refine r_iret d_X8_room_34 rfl ?_
      exact ⟨_, rfl, rfl, same_rf⟩
  · rw [if_neg h1] at hc
    rw [if_neg h1]
    refine r_aload_n d_X8_room_0 rfl ?_
    refine r_iload_n d_X8_room_1 rfl ?_
    refine r_V1i d_X8_room_2 (w_X8_253 _ rfl) (tt_139 _ _) rfl rfl (hc) (by decide) (Nat.le_of_ble_eq_true rfl) (fun z2 T2 I2 L2 R2 h2 => ?_)
    obtain ⟨rfl, rfl, rfl, rfl, rfl⟩ := h2
    refine r_if_ne d_X8_room_5 (by omega) (fun c5 => absurd c5 (by decide)) (fun c5 => ?_)
    refine r_bipush d_X8_room_8 (by decide) ?_
    refine r_goto d_X8_room_10 ?_
    refine r_iret d_X8_room_34 rfl ?_
    exact ⟨_, rfl, rfl, same_rf⟩
theorem x_guest (hV : MV σ ℓ nr nw ng) (h3 : nw ≤ 3) (hX : MX σ nr nw ng I) (hw8 : I 139 8 = (nw : Int)) {r what : Int} (hr : i32 r) (hw : i32 what) : Mc g 2 m_X8_guest 0 0 [vr 139, vi r, vi what] (TT Ls tl) I L (RR tl) (qI fun z T' I' L' R' => z = tlR σ ng 10 4 r what ∧ same (TT Ls tl) I L (RR tl) T' I' L' R') := by
  refine Mc_of rfl (Nat.le_of_ble_eq_true rfl) ?_
  have hr2 : -2147483648 ≤ r ∧ r ≤ 2147483647 := hr
  have hw2 : -2147483648 ≤ what ∧ what ≤ 2147483647 := hw
  have h8 := hV.1.1
  have v2 := hV.2.1
  have hc := x_isGuest (g := g) (Ls := Ls) (tl := tl) (L := L) hr2 hX.2.1 v2
  have hwi := x_within (g := g) (T := TT Ls tl) (I := I) (L := L) (R := RR tl) (lo := 0) (hi := 3) hw2 (by omega) (by omega)
  unfold tlR
  by_cases h1 : 0 ≤ r ∧ r < (ng : Int)
  · rw [if_pos h1] at hc
    rw [if_pos h1]
    by_cases h2 : 0 ≤ what ∧ what < ((4 : Nat) : Int)
    · rw [if_pos (by omega)] at hwi
      rw [if_pos h2]
      obtain ⟨ρ, rfl⟩ : ∃ ρ : Nat, r = (ρ : Int) := ⟨r.toNat, by omega⟩
      obtain ⟨k, rfl⟩ : ∃ k : Nat, what = (k : Int) := ⟨what.toNat, by omega⟩
      refine r_aload_n d_X8_guest_0 rfl ?_
      refine r_iload_n d_X8_guest_1 rfl ?_
      refine r_V1i d_X8_guest_2 (w_X8_262 _ rfl) (tt_139 _ _) rfl rfl (hc) (by decide) (Nat.le_of_ble_eq_true rfl) (fun z2 T2 I2 L2 R2 h2 => ?_)
      obtain ⟨rfl, rfl, rfl, rfl, rfl⟩ := h2
      refine r_if_ne d_X8_guest_5 (by omega) (fun c5 => ?_) (fun c5 => absurd c5 (by decide))
      refine r_iload_n d_X8_guest_13 rfl ?_
      refine r_iconst d_X8_guest_14 ?_
      refine r_iconst d_X8_guest_15 ?_
      refine r_S3i d_X8_guest_16 (w_X8_162 _ rfl) (hwi) (by decide) (Nat.le_of_ble_eq_true rfl) (fun z16 T16 I16 L16 R16 h16 => ?_)
      obtain ⟨rfl, rfl, rfl, rfl, rfl⟩ := h16
      refine r_if_eq d_X8_guest_19 (by omega) (fun c19 => absurd c19 (by decide)) (fun c19 => ?_)
      refine r_aload_n d_X8_guest_22 rfl ?_
      refine r_iload_n d_X8_guest_23 rfl ?_
      refine r_iload_n d_X8_guest_24 rfl ?_
      refine r_V2i d_X8_guest_25 (w_X8_265 _ rfl) (tt_139 _ _) rfl rfl (x_guestTold hV hX (by omega) (by omega)) (by decide) (Nat.le_of_ble_eq_true rfl) (fun z25 T25 I25 L25 R25 h25 => ?_)
      obtain ⟨rfl, rfl, rfl, rfl, rfl⟩ := h25
      refine r_goto d_X8_guest_28 ?_
      refine r_iret d_X8_guest_33 rfl ?_
      exact ⟨_, rfl, by rw [Int.toNat_natCast, Int.toNat_natCast], same_rf⟩
    · rw [if_neg (by omega)] at hwi
      rw [if_neg h2]
      refine r_aload_n d_X8_guest_0 rfl ?_
      refine r_iload_n d_X8_guest_1 rfl ?_
      refine r_V1i d_X8_guest_2 (w_X8_262 _ rfl) (tt_139 _ _) rfl rfl (hc) (by decide) (Nat.le_of_ble_eq_true rfl) (fun z2 T2 I2 L2 R2 h2 => ?_)
      obtain ⟨rfl, rfl, rfl, rfl, rfl⟩ := h2
      refine r_if_ne d_X8_guest_5 (by omega) (fun c5 => ?_) (fun c5 => absurd c5 (by decide))
      refine r_iload_n d_X8_guest_13 rfl ?_
      refine r_iconst d_X8_guest_14 ?_
      refine r_iconst d_X8_guest_15 ?_
      refine r_S3i d_X8_guest_16 (w_X8_162 _ rfl) (hwi) (by decide) (Nat.le_of_ble_eq_true rfl) (fun z16 T16 I16 L16 R16 h16 => ?_)
      obtain ⟨rfl, rfl, rfl, rfl, rfl⟩ := h16
      refine r_if_eq d_X8_guest_19 (by omega) (fun c19 => ?_) (fun c19 => absurd c19 (by decide))
      refine r_bipush d_X8_guest_31 (by decide) ?_
      refine r_iret d_X8_guest_33 rfl ?_
      exact ⟨_, rfl, rfl, same_rf⟩
  · rw [if_neg h1] at hc
    rw [if_neg h1]
    refine r_aload_n d_X8_guest_0 rfl ?_
    refine r_iload_n d_X8_guest_1 rfl ?_
    refine r_V1i d_X8_guest_2 (w_X8_262 _ rfl) (tt_139 _ _) rfl rfl (hc) (by decide) (Nat.le_of_ble_eq_true rfl) (fun z2 T2 I2 L2 R2 h2 => ?_)
    obtain ⟨rfl, rfl, rfl, rfl, rfl⟩ := h2
    refine r_if_ne d_X8_guest_5 (by omega) (fun c5 => absurd c5 (by decide)) (fun c5 => ?_)
    refine r_bipush d_X8_guest_8 (by decide) ?_
    refine r_goto d_X8_guest_10 ?_
    refine r_iret d_X8_guest_33 rfl ?_
    exact ⟨_, rfl, rfl, same_rf⟩
theorem x_woman (hV : MV σ ℓ nr nw ng) (h3 : nw ≤ 3) (hX : MX σ nr nw ng I) (hw8 : I 139 8 = (nw : Int)) {r what : Int} (hr : i32 r) (hw : i32 what) : Mc g 2 m_X8_woman 0 0 [vr 139, vi r, vi what] (TT Ls tl) I L (RR tl) (qI fun z T' I' L' R' => z = tlR σ nw 7 3 r what ∧ same (TT Ls tl) I L (RR tl) T' I' L' R') := by
  refine Mc_of rfl (Nat.le_of_ble_eq_true rfl) ?_
  have hr2 : -2147483648 ≤ r ∧ r ≤ 2147483647 := hr
  have hw2 : -2147483648 ≤ what ∧ what ≤ 2147483647 := hw
  have h8 := hV.1.1
  have v2 := hV.2.1
  have hc := x_within (g := g) (T := TT Ls tl) (I := I) (L := L) (R := RR tl) (lo := 0) (hi := (nw : Int) - 1) hr2 (by omega) (by omega)
  have hwi := x_within (g := g) (T := TT Ls tl) (I := I) (L := L) (R := RR tl) (lo := 0) (hi := 2) hw2 (by omega) (by omega)
  unfold tlR
  by_cases h1 : 0 ≤ r ∧ r < (nw : Int)
  · rw [if_pos (by omega)] at hc
    rw [if_pos h1]
    by_cases h2 : 0 ≤ what ∧ what < ((3 : Nat) : Int)
    · rw [if_pos (by omega)] at hwi
      rw [if_pos h2]
      obtain ⟨ρ, rfl⟩ : ∃ ρ : Nat, r = (ρ : Int) := ⟨r.toNat, by omega⟩
      obtain ⟨k, rfl⟩ : ∃ k : Nat, what = (k : Int) := ⟨what.toNat, by omega⟩
      refine r_iload_n d_X8_woman_0 rfl ?_
      refine r_iconst d_X8_woman_1 ?_
      refine r_aload_n d_X8_woman_2 rfl ?_
      refine r_geti d_X8_woman_3 f_X8_235 (tt_139 _ _) (by decide) (by decide) ?_
      rw [hw8]
      refine r_iconst d_X8_woman_6 ?_
      refine r_isub d_X8_woman_7 ?_
      refine r_S3i d_X8_woman_8 (w_X8_162 _ rfl) (hc) (by decide) (Nat.le_of_ble_eq_true rfl) (fun z8 T8 I8 L8 R8 h8 => ?_)
      obtain ⟨rfl, rfl, rfl, rfl, rfl⟩ := h8
      refine r_if_ne d_X8_woman_11 (by omega) (fun c11 => ?_) (fun c11 => absurd c11 (by decide))
      refine r_iload_n d_X8_woman_19 rfl ?_
      refine r_iconst d_X8_woman_20 ?_
      refine r_iconst d_X8_woman_21 ?_
      refine r_S3i d_X8_woman_22 (w_X8_162 _ rfl) (hwi) (by decide) (Nat.le_of_ble_eq_true rfl) (fun z22 T22 I22 L22 R22 h22 => ?_)
      obtain ⟨rfl, rfl, rfl, rfl, rfl⟩ := h22
      refine r_if_eq d_X8_woman_25 (by omega) (fun c25 => absurd c25 (by decide)) (fun c25 => ?_)
      refine r_aload_n d_X8_woman_28 rfl ?_
      refine r_iload_n d_X8_woman_29 rfl ?_
      refine r_iload_n d_X8_woman_30 rfl ?_
      refine r_V2i d_X8_woman_31 (w_X8_259 _ rfl) (tt_139 _ _) rfl rfl (x_womanTold hX (by omega) (by omega) (by omega)) (by decide) (Nat.le_of_ble_eq_true rfl) (fun z31 T31 I31 L31 R31 h31 => ?_)
      obtain ⟨rfl, rfl, rfl, rfl, rfl⟩ := h31
      refine r_goto d_X8_woman_34 ?_
      refine r_iret d_X8_woman_39 rfl ?_
      exact ⟨_, rfl, by rw [Int.toNat_natCast, Int.toNat_natCast], same_rf⟩
    · rw [if_neg (by omega)] at hwi
      rw [if_neg h2]
      refine r_iload_n d_X8_woman_0 rfl ?_
      refine r_iconst d_X8_woman_1 ?_
      refine r_aload_n d_X8_woman_2 rfl ?_
      refine r_geti d_X8_woman_3 f_X8_235 (tt_139 _ _) (by decide) (by decide) ?_
      rw [hw8]
      refine r_iconst d_X8_woman_6 ?_
      refine r_isub d_X8_woman_7 ?_
      refine r_S3i d_X8_woman_8 (w_X8_162 _ rfl) (hc) (by decide) (Nat.le_of_ble_eq_true rfl) (fun z8 T8 I8 L8 R8 h8 => ?_)
      obtain ⟨rfl, rfl, rfl, rfl, rfl⟩ := h8
      refine r_if_ne d_X8_woman_11 (by omega) (fun c11 => ?_) (fun c11 => absurd c11 (by decide))
      refine r_iload_n d_X8_woman_19 rfl ?_
      refine r_iconst d_X8_woman_20 ?_
      refine r_iconst d_X8_woman_21 ?_
      refine r_S3i d_X8_woman_22 (w_X8_162 _ rfl) (hwi) (by decide) (Nat.le_of_ble_eq_true rfl) (fun z22 T22 I22 L22 R22 h22 => ?_)
      obtain ⟨rfl, rfl, rfl, rfl, rfl⟩ := h22
      refine r_if_eq d_X8_woman_25 (by omega) (fun c25 => ?_) (fun c25 => absurd c25 (by decide))
      refine r_bipush d_X8_woman_37 (by decide) ?_
      refine r_iret d_X8_woman_39 rfl ?_
      exact ⟨_, rfl, rfl, same_rf⟩
  · rw [if_neg (by omega)] at hc
    rw [if_neg h1]
    refine r_iload_n d_X8_woman_0 rfl ?_
    refine r_iconst d_X8_woman_1 ?_
    refine r_aload_n d_X8_woman_2 rfl ?_
    refine r_geti d_X8_woman_3 f_X8_235 (tt_139 _ _) (by decide) (by decide) ?_
    rw [hw8]
    refine r_iconst d_X8_woman_6 ?_
    refine r_isub d_X8_woman_7 ?_
    refine r_S3i d_X8_woman_8 (w_X8_162 _ rfl) (hc) (by decide) (Nat.le_of_ble_eq_true rfl) (fun z8 T8 I8 L8 R8 h8 => ?_)
    obtain ⟨rfl, rfl, rfl, rfl, rfl⟩ := h8
    refine r_if_ne d_X8_woman_11 (by omega) (fun c11 => absurd c11 (by decide)) (fun c11 => ?_)
    refine r_bipush d_X8_woman_14 (by decide) ?_
    refine r_goto d_X8_woman_16 ?_
    refine r_iret d_X8_woman_39 rfl ?_
    exact ⟨_, rfl, rfl, same_rf⟩
theorem x_gone (hV : MV σ ℓ nr nw ng) (hX : MX σ nr nw ng I) {r way : Int} (hr : i32 r) (hw : i32 way) : Mc g 2 m_X8_gone 0 0 [vr 139, vi r, vi way] (TT Ls tl) I L (RR tl) (qI fun z T' I' L' R' => T' = TT Ls tl ∧ R' = RR tl ∧ L' = L ∧ frb 174 175 I I' ∧ z = gnR σ nr r way) := by
  refine Mc_of rfl (Nat.le_of_ble_eq_true rfl) ?_
  have hr2 : -2147483648 ≤ r ∧ r ≤ 2147483647 := hr
  have hw2 : -2147483648 ≤ way ∧ way ≤ 2147483647 := hw
  have h8 := hV.1.1
  have hp := p2 hV.2.2.2
  have hc := x_isRoom (g := g) (Ls := Ls) (tl := tl) (L := L) hr2 hX.1 h8
  have hiw := x_isWay (g := g) (Ls := Ls) (tl := tl) (L := L) hV hX hw2
  unfold gnR
  by_cases h1 : 0 ≤ r ∧ r < (nr : Int)
  · rw [if_pos h1] at hc ⊢
    by_cases h2 : 0 ≤ way ∧ way < ((2 ^ chn σ nr : Nat) : Int)
    · rw [if_pos h2] at hiw ⊢
      obtain ⟨ρ, rfl⟩ : ∃ ρ : Nat, r = (ρ : Int) := ⟨r.toNat, by omega⟩
      obtain ⟨w, rfl⟩ : ∃ w : Nat, way = (w : Int) := ⟨way.toNat, by omega⟩
      refine r_aload_n d_X8_gone_0 rfl ?_
      refine r_iload_n d_X8_gone_1 rfl ?_
      refine r_V1i d_X8_gone_2 (w_X8_253 _ rfl) (tt_139 _ _) rfl rfl (hc) (by decide) (Nat.le_of_ble_eq_true rfl) (fun z2 T2 I2 L2 R2 h2 => ?_)
      obtain ⟨rfl, rfl, rfl, rfl, rfl⟩ := h2
      refine r_if_ne d_X8_gone_5 (by omega) (fun c5 => ?_) (fun c5 => absurd c5 (by decide))
      refine r_aload_n d_X8_gone_11 rfl ?_
      refine r_iload_n d_X8_gone_12 rfl ?_
      refine r_V1i d_X8_gone_13 (w_X8_272 _ rfl) (tt_139 _ _) rfl rfl (hiw) (by decide) (Nat.le_of_ble_eq_true rfl) (fun z13 T13 I13 L13 R13 h13 => ?_)
      obtain ⟨rfl, rfl, rfl, rfl, rfl⟩ := h13
      refine r_if_ne d_X8_gone_16 (by omega) (fun c16 => ?_) (fun c16 => absurd c16 (by decide))
      refine r_aload_n d_X8_gone_22 rfl ?_
      refine r_iload_n d_X8_gone_23 rfl ?_
      refine r_V1v d_X8_gone_24 (w_X8_275 _ rfl) (tt_139 _ _) rfl rfl (x_layGone hV hX (by omega)) (by decide) (Nat.le_of_ble_eq_true rfl) (fun T24 I24 L24 R24 h24 => ?_)
      obtain ⟨rfl, rfl, rfl, y1, y2⟩ := h24
      refine r_aload_n d_X8_gone_27 rfl ?_
      refine r_getr d_X8_gone_28 f_X8_118 (tt_139 _ _) (by decide) rfl (rr_139_54 _) ?_
      refine r_iload_n d_X8_gone_31 rfl ?_
      refine r_ialdJ d_X8_gone_32 (tt_174 _ _) rfl (by omega) (kk := ?_)
      refine r_iret d_X8_gone_33 rfl ?_
      exact ⟨_, rfl, rfl, rfl, rfl, y1, by rw [Int.toNat_natCast, Int.toNat_natCast]; exact y2 ρ (by omega)⟩
    · rw [if_neg h2] at hiw ⊢
      refine r_aload_n d_X8_gone_0 rfl ?_
      refine r_iload_n d_X8_gone_1 rfl ?_
      refine r_V1i d_X8_gone_2 (w_X8_253 _ rfl) (tt_139 _ _) rfl rfl (hc) (by decide) (Nat.le_of_ble_eq_true rfl) (fun z2 T2 I2 L2 R2 h2 => ?_)
      obtain ⟨rfl, rfl, rfl, rfl, rfl⟩ := h2
      refine r_if_ne d_X8_gone_5 (by omega) (fun c5 => ?_) (fun c5 => absurd c5 (by decide))
      refine r_aload_n d_X8_gone_11 rfl ?_
      refine r_iload_n d_X8_gone_12 rfl ?_
      refine r_V1i d_X8_gone_13 (w_X8_272 _ rfl) (tt_139 _ _) rfl rfl (hiw) (by decide) (Nat.le_of_ble_eq_true rfl) (fun z13 T13 I13 L13 R13 h13 => ?_)
      obtain ⟨rfl, rfl, rfl, rfl, rfl⟩ := h13
      refine r_if_ne d_X8_gone_16 (by omega) (fun c16 => absurd c16 (by decide)) (fun c16 => ?_)
      refine r_bipush d_X8_gone_19 (by decide) ?_
      refine r_iret d_X8_gone_21 rfl ?_
      exact ⟨_, rfl, rfl, rfl, rfl, frb_rf, rfl⟩
  · rw [if_neg h1] at hc ⊢
    refine r_aload_n d_X8_gone_0 rfl ?_
    refine r_iload_n d_X8_gone_1 rfl ?_
    refine r_V1i d_X8_gone_2 (w_X8_253 _ rfl) (tt_139 _ _) rfl rfl (hc) (by decide) (Nat.le_of_ble_eq_true rfl) (fun z2 T2 I2 L2 R2 h2 => ?_)
    obtain ⟨rfl, rfl, rfl, rfl, rfl⟩ := h2
    refine r_if_ne d_X8_gone_5 (by omega) (fun c5 => absurd c5 (by decide)) (fun c5 => ?_)
    refine r_bipush d_X8_gone_8 (by decide) ?_
    refine r_iret d_X8_gone_10 rfl ?_
    exact ⟨_, rfl, rfl, rfl, rfl, frb_rf, rfl⟩
end X9n
