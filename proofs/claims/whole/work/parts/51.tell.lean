/-- what is told of a room (a woman, a guest): k facts from the o-th on -/
def tlR (σ : Sg) (n o k : Nat) (r what : Int) : Int := if 0 ≤ r ∧ r < n then (if 0 ≤ what ∧ what < k then σ (o + what.toNat) r.toNat else -102) else -101
def gnR (σ : Sg) (nr : Nat) (r way : Int) : Int := if 0 ≤ r ∧ r < nr then (if 0 ≤ way ∧ way < ((2 ^ chn σ nr : Nat) : Int) then goneS σ way.toNat r.toNat else -102) else -101
section C51
variable {g : sG} {Ls : Nat} {tl : List Nat} {I L : sI} {σ : Sg} {ℓ : Int} {nr nw ng : Nat}
theorem c_room (hV : HV σ nr nw ng) (hX : HX 8 σ nr nw ng I) {r what : Int} (hr : i32 r) (hw : i32 what) : Mc g 2 m_X7_room 0 0 [vr 3, vi r, vi what] (TT Ls tl) I L (RR tl) (qI fun z T' I' L' R' => z = tlR σ nr 0 7 r what ∧ same (TT Ls tl) I L (RR tl) T' I' L' R') := by
  refine Mc_of rfl (Nat.le_of_ble_eq_true rfl) ?_
  have h8 := hV.1
  have hc := c_isRoom (g := g) (Ls := Ls) (tl := tl) (I := I) (L := L) hr (by have := hX.1; omega)
  rw [hX.1] at hc
  unfold tlR
  by_cases h1 : 0 ≤ r ∧ r < nr
  · rw [if_pos h1] at hc ⊢
    obtain ⟨ρ, rfl⟩ : ∃ ρ : Nat, r = (ρ : Int) := ⟨r.toNat, by omega⟩
    by_cases h2 : 0 ≤ what ∧ what < (7 : Nat)
    · rw [if_pos h2]
      obtain ⟨k, rfl⟩ : ∃ k : Nat, what = (k : Int) := ⟨what.toNat, by omega⟩
      have e : I (10 + ρ) k = σ k ρ := HXr hX (by omega) (by omega)
      refine r_aload_n d_X7_room_0 rfl ?_
      refine r_iload_n d_X7_room_1 rfl ?_
      refine r_V1i d_X7_room_2 (w_X7_121 _ rfl) (tt_3 _ _) rfl rfl (hc) (by decide) (Nat.le_of_ble_eq_true rfl) (fun z2 T2 I2 L2 R2 h2 => ?_)
      obtain ⟨rfl, rfl, rfl, rfl, rfl⟩ := h2
      refine r_if_ne d_X7_room_5 (by omega) (fun c5 => ?_) (fun c5 => absurd c5 (by decide))
      refine r_iload_n d_X7_room_11 rfl ?_
      refine r_bipush d_X7_room_12 (by decide) ?_
      refine r_S2i d_X7_room_14 (w_X7_124 _ rfl) (c_isBelow hw (by omega)) (by decide) (Nat.le_of_ble_eq_true rfl) (fun z14 T14 I14 L14 R14 h14 => ?_)
      obtain ⟨rfl, rfl, rfl, rfl, rfl⟩ := h14
      refine r_if_eq d_X7_room_17 (by split <;> omega) (fun c17 => absurd c17 (by rw [if_pos (by omega)]; decide)) (fun c17 => ?_)
      refine r_aload_n d_X7_room_20 rfl ?_
      refine r_getr d_X7_room_21 f_X7_19 (tt_3 _ _) (by decide) rfl (rr_3_1 _) ?_
      refine r_getr d_X7_room_24 f_X7_128 (tt_8 _ _) (by decide) rfl (rr_8_0 _) ?_
      refine r_iload_n d_X7_room_27 rfl ?_
      refine r_aaldJ d_X7_room_28 (tt_9 _ _) (by decide) rfl (by omega) (rr2_9 _ (by omega)) (kk := ?_)
      refine r_iload_n d_X7_room_29 rfl ?_
      refine r_ialdJ d_X7_room_30 (tt2_9 _ _ (by omega)) rfl (by omega) (kk := ?_)
      refine r_goto d_X7_room_31 ?_
      refine r_iret d_X7_room_36 rfl ?_
      exact ⟨_, rfl, by rw [Int.toNat_natCast, Int.toNat_natCast, Nat.zero_add]; exact e, same_rf⟩
    · rw [if_neg h2]
      refine r_aload_n d_X7_room_0 rfl ?_
      refine r_iload_n d_X7_room_1 rfl ?_
      refine r_V1i d_X7_room_2 (w_X7_121 _ rfl) (tt_3 _ _) rfl rfl (hc) (by decide) (Nat.le_of_ble_eq_true rfl) (fun z2 T2 I2 L2 R2 h2 => ?_)
      obtain ⟨rfl, rfl, rfl, rfl, rfl⟩ := h2
      refine r_if_ne d_X7_room_5 (by omega) (fun c5 => ?_) (fun c5 => absurd c5 (by decide))
      refine r_iload_n d_X7_room_11 rfl ?_
      refine r_bipush d_X7_room_12 (by decide) ?_
      refine r_S2i d_X7_room_14 (w_X7_124 _ rfl) (c_isBelow hw (by omega)) (by decide) (Nat.le_of_ble_eq_true rfl) (fun z14 T14 I14 L14 R14 h14 => ?_)
      obtain ⟨rfl, rfl, rfl, rfl, rfl⟩ := h14
      refine r_if_eq d_X7_room_17 (by split <;> omega) (fun c17 => ?_) (fun c17 => absurd c17 (by rw [if_neg (by omega)]; decide))
      refine r_bipush d_X7_room_34 (by decide) ?_
      refine r_iret d_X7_room_36 rfl ?_
      exact ⟨_, rfl, rfl, same_rf⟩
  · rw [if_neg h1] at hc ⊢
    refine r_aload_n d_X7_room_0 rfl ?_
    refine r_iload_n d_X7_room_1 rfl ?_
    refine r_V1i d_X7_room_2 (w_X7_121 _ rfl) (tt_3 _ _) rfl rfl (hc) (by decide) (Nat.le_of_ble_eq_true rfl) (fun z2 T2 I2 L2 R2 h2 => ?_)
    obtain ⟨rfl, rfl, rfl, rfl, rfl⟩ := h2
    refine r_if_ne d_X7_room_5 (by omega) (fun c5 => absurd c5 (by decide)) (fun c5 => ?_)
    refine r_bipush d_X7_room_8 (by decide) ?_
    refine r_iret d_X7_room_10 rfl ?_
    exact ⟨_, rfl, rfl, same_rf⟩
theorem c_guest (hV : HV σ nr nw ng) (hX : HX 8 σ nr nw ng I) {r what : Int} (hr : i32 r) (hw : i32 what) : Mc g 2 m_X7_guest 0 0 [vr 3, vi r, vi what] (TT Ls tl) I L (RR tl) (qI fun z T' I' L' R' => z = tlR σ ng 10 4 r what ∧ same (TT Ls tl) I L (RR tl) T' I' L' R') := by
  refine Mc_of rfl (Nat.le_of_ble_eq_true rfl) ?_
  have h8 := hV.2.2.1
  have hc := c_isGuest (g := g) (Ls := Ls) (tl := tl) (I := I) (L := L) hX.2.2.1 h8 hr
  unfold tlR
  by_cases h1 : 0 ≤ r ∧ r < ng
  · rw [if_pos h1] at hc ⊢
    obtain ⟨ρ, rfl⟩ : ∃ ρ : Nat, r = (ρ : Int) := ⟨r.toNat, by omega⟩
    by_cases h2 : 0 ≤ what ∧ what < (4 : Nat)
    · rw [if_pos h2]
      obtain ⟨k, rfl⟩ : ∃ k : Nat, what = (k : Int) := ⟨what.toNat, by omega⟩
      have e : I (23 + ρ) k = σ (10 + k) ρ := HXg hX (by omega) (by omega)
      refine r_aload_n d_X7_guest_0 rfl ?_
      refine r_iload_n d_X7_guest_1 rfl ?_
      refine r_V1i d_X7_guest_2 (w_X7_138 _ rfl) (tt_3 _ _) rfl rfl (hc) (by decide) (Nat.le_of_ble_eq_true rfl) (fun z2 T2 I2 L2 R2 h2 => ?_)
      obtain ⟨rfl, rfl, rfl, rfl, rfl⟩ := h2
      refine r_if_ne d_X7_guest_5 (by omega) (fun c5 => ?_) (fun c5 => absurd c5 (by decide))
      refine r_iload_n d_X7_guest_11 rfl ?_
      refine r_iconst d_X7_guest_12 ?_
      refine r_S2i d_X7_guest_13 (w_X7_124 _ rfl) (c_isBelow hw (by omega)) (by decide) (Nat.le_of_ble_eq_true rfl) (fun z13 T13 I13 L13 R13 h13 => ?_)
      obtain ⟨rfl, rfl, rfl, rfl, rfl⟩ := h13
      refine r_if_eq d_X7_guest_16 (by split <;> omega) (fun c16 => absurd c16 (by rw [if_pos (by omega)]; decide)) (fun c16 => ?_)
      refine r_aload_n d_X7_guest_19 rfl ?_
      refine r_getr d_X7_guest_20 f_X7_19 (tt_3 _ _) (by decide) rfl (rr_3_1 _) ?_
      refine r_getr d_X7_guest_23 f_X7_141 (tt_8 _ _) (by decide) rfl (rr_8_2 _) ?_
      refine r_iload_n d_X7_guest_26 rfl ?_
      refine r_aaldJ d_X7_guest_27 (tt_22 _ _) (by decide) rfl (by omega) (rr2_22 _ (by omega)) (kk := ?_)
      refine r_iload_n d_X7_guest_28 rfl ?_
      refine r_ialdJ d_X7_guest_29 (tt2_22 _ _ (by omega)) rfl (by omega) (kk := ?_)
      refine r_goto d_X7_guest_30 ?_
      refine r_iret d_X7_guest_35 rfl ?_
      exact ⟨_, rfl, by rw [Int.toNat_natCast, Int.toNat_natCast]; exact e, same_rf⟩
    · rw [if_neg h2]
      refine r_aload_n d_X7_guest_0 rfl ?_
      refine r_iload_n d_X7_guest_1 rfl ?_
      refine r_V1i d_X7_guest_2 (w_X7_138 _ rfl) (tt_3 _ _) rfl rfl (hc) (by decide) (Nat.le_of_ble_eq_true rfl) (fun z2 T2 I2 L2 R2 h2 => ?_)
      obtain ⟨rfl, rfl, rfl, rfl, rfl⟩ := h2
      refine r_if_ne d_X7_guest_5 (by omega) (fun c5 => ?_) (fun c5 => absurd c5 (by decide))
      refine r_iload_n d_X7_guest_11 rfl ?_
      refine r_iconst d_X7_guest_12 ?_
      refine r_S2i d_X7_guest_13 (w_X7_124 _ rfl) (c_isBelow hw (by omega)) (by decide) (Nat.le_of_ble_eq_true rfl) (fun z13 T13 I13 L13 R13 h13 => ?_)
      obtain ⟨rfl, rfl, rfl, rfl, rfl⟩ := h13
      refine r_if_eq d_X7_guest_16 (by split <;> omega) (fun c16 => ?_) (fun c16 => absurd c16 (by rw [if_neg (by omega)]; decide))
      refine r_bipush d_X7_guest_33 (by decide) ?_
      refine r_iret d_X7_guest_35 rfl ?_
      exact ⟨_, rfl, rfl, same_rf⟩
  · rw [if_neg h1] at hc ⊢
    refine r_aload_n d_X7_guest_0 rfl ?_
    refine r_iload_n d_X7_guest_1 rfl ?_
    refine r_V1i d_X7_guest_2 (w_X7_138 _ rfl) (tt_3 _ _) rfl rfl (hc) (by decide) (Nat.le_of_ble_eq_true rfl) (fun z2 T2 I2 L2 R2 h2 => ?_)
    obtain ⟨rfl, rfl, rfl, rfl, rfl⟩ := h2
    refine r_if_ne d_X7_guest_5 (by omega) (fun c5 => absurd c5 (by decide)) (fun c5 => ?_)
    refine r_bipush d_X7_guest_8 (by decide) ?_
    refine r_iret d_X7_guest_10 rfl ?_
    exact ⟨_, rfl, rfl, same_rf⟩
theorem c_gone (hV : HV σ nr nw ng) (hX : HX 8 σ nr nw ng I) {r way : Int} (hr : i32 r) (hw : i32 way) : Mc g 2 m_X7_gone 0 0 [vr 3, vi r, vi way] (TT Ls tl) I L (RR tl) (qI fun z T' I' L' R' => z = gnR σ nr r way ∧ same (TT Ls tl) I L (RR tl) T' I' L' R') := by
  refine Mc_of rfl (Nat.le_of_ble_eq_true rfl) ?_
  have h8 := hV.1
  have hpw := p2 hV.2.2.2.2.2.2
  have hc := c_isRoom (g := g) (Ls := Ls) (tl := tl) (I := I) (L := L) hr (by have := hX.1; omega)
  rw [hX.1] at hc
  unfold gnR
  by_cases h1 : 0 ≤ r ∧ r < nr
  · rw [if_pos h1] at hc ⊢
    obtain ⟨ρ, rfl⟩ : ∃ ρ : Nat, r = (ρ : Int) := ⟨r.toNat, by omega⟩
    by_cases h2 : 0 ≤ way ∧ way < ((2 ^ chn σ nr : Nat) : Int)
    · rw [if_pos h2]
      obtain ⟨k, rfl⟩ : ∃ k : Nat, way = (k : Int) := ⟨way.toNat, by omega⟩
      refine r_aload_n d_X7_gone_0 rfl ?_
      refine r_iload_n d_X7_gone_1 rfl ?_
      refine r_V1i d_X7_gone_2 (w_X7_121 _ rfl) (tt_3 _ _) rfl rfl (hc) (by decide) (Nat.le_of_ble_eq_true rfl) (fun z2 T2 I2 L2 R2 h2 => ?_)
      obtain ⟨rfl, rfl, rfl, rfl, rfl⟩ := h2
      refine r_if_ne d_X7_gone_5 (by omega) (fun c5 => ?_) (fun c5 => absurd c5 (by decide))
      refine r_aload_n d_X7_gone_11 rfl ?_
      refine r_iload_n d_X7_gone_12 rfl ?_
      refine r_V1i d_X7_gone_13 (w_X7_150 _ rfl) (tt_3 _ _) rfl rfl (c_isWay hV hX hw) (by decide) (Nat.le_of_ble_eq_true rfl) (fun z13 T13 I13 L13 R13 h13 => ?_)
      obtain ⟨rfl, rfl, rfl, rfl, rfl⟩ := h13
      refine r_if_eq d_X7_gone_16 (by split <;> omega) (fun c16 => absurd c16 (by rw [if_pos h2]; decide)) (fun c16 => ?_)
      refine r_aload_n d_X7_gone_19 rfl ?_
      refine r_getr d_X7_gone_20 f_X7_19 (tt_3 _ _) (by decide) rfl (rr_3_1 _) ?_
      refine r_iload_n d_X7_gone_23 rfl ?_
      refine r_iload_n d_X7_gone_24 rfl ?_
      refine r_V2i d_X7_gone_25 (w_X7_153 _ rfl) (tt_8 _ _) rfl rfl (c_goneBy (r := ρ) (way := k) hV hX (by omega) (by omega)) (by decide) (Nat.le_of_ble_eq_true rfl) (fun z25 T25 I25 L25 R25 h25 => ?_)
      obtain ⟨e, rfl, rfl, rfl, rfl⟩ := h25
      refine r_goto d_X7_gone_28 ?_
      refine r_iret d_X7_gone_33 rfl ?_
      exact ⟨_, rfl, by rw [Int.toNat_natCast, Int.toNat_natCast]; exact e, same_rf⟩
    · rw [if_neg h2]
      refine r_aload_n d_X7_gone_0 rfl ?_
      refine r_iload_n d_X7_gone_1 rfl ?_
      refine r_V1i d_X7_gone_2 (w_X7_121 _ rfl) (tt_3 _ _) rfl rfl (hc) (by decide) (Nat.le_of_ble_eq_true rfl) (fun z2 T2 I2 L2 R2 h2 => ?_)
      obtain ⟨rfl, rfl, rfl, rfl, rfl⟩ := h2
      refine r_if_ne d_X7_gone_5 (by omega) (fun c5 => ?_) (fun c5 => absurd c5 (by decide))
      refine r_aload_n d_X7_gone_11 rfl ?_
      refine r_iload_n d_X7_gone_12 rfl ?_
      refine r_V1i d_X7_gone_13 (w_X7_150 _ rfl) (tt_3 _ _) rfl rfl (c_isWay hV hX hw) (by decide) (Nat.le_of_ble_eq_true rfl) (fun z13 T13 I13 L13 R13 h13 => ?_)
      obtain ⟨rfl, rfl, rfl, rfl, rfl⟩ := h13
      refine r_if_eq d_X7_gone_16 (by split <;> omega) (fun c16 => ?_) (fun c16 => absurd c16 (by rw [if_neg h2]; decide))
      refine r_bipush d_X7_gone_31 (by decide) ?_
      refine r_iret d_X7_gone_33 rfl ?_
      exact ⟨_, rfl, rfl, same_rf⟩
  · rw [if_neg h1] at hc ⊢
    refine r_aload_n d_X7_gone_0 rfl ?_
    refine r_iload_n d_X7_gone_1 rfl ?_
    refine r_V1i d_X7_gone_2 (w_X7_121 _ rfl) (tt_3 _ _) rfl rfl (hc) (by decide) (Nat.le_of_ble_eq_true rfl) (fun z2 T2 I2 L2 R2 h2 => ?_)
    obtain ⟨rfl, rfl, rfl, rfl, rfl⟩ := h2
    refine r_if_ne d_X7_gone_5 (by omega) (fun c5 => absurd c5 (by decide)) (fun c5 => ?_)
    refine r_bipush d_X7_gone_8 (by decide) ?_
    refine r_iret d_X7_gone_10 rfl ?_
    exact ⟨_, rfl, rfl, same_rf⟩
end C51
