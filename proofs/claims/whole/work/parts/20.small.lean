theorem R32n {n : Nat} (h : n ≤ 2147483647) : -2147483648 ≤ (n : Int) ∧ (n : Int) ≤ 2147483647 := by omega
section C1
variable {g : sG} {T : sT} {I L : sI} {R : sR}
theorem c_isBelow {a b : Int} (ha : -2147483648 ≤ a ∧ a ≤ 2147483647) (hb : -2147483648 ≤ b ∧ b ≤ 2147483647) : Mc g 0 m_X7_isBelow 0 0 [vi a, vi b] T I L R (qI fun z T' I' L' R' => z = (if 0 ≤ a ∧ a < b then 1 else 0) ∧ same T I L R T' I' L' R') := by
  refine Mc_of rfl (Nat.le_of_ble_eq_true rfl) ?_
  refine r_iload_n d_X7_isBelow_0 rfl ?_
  refine r_if_lt d_X7_isBelow_1 (by omega) (fun c1 => ?_) (fun c1 => ?_)
  · refine r_iconst d_X7_isBelow_13 ?_
    refine r_zret d_X7_isBelow_14 rfl (by omega) ?_
    exact ⟨_, rfl, by first | rw [if_pos (by omega)] | rw [if_neg (by omega)], same_rf⟩
  · refine r_iload_n d_X7_isBelow_4 rfl ?_
    refine r_iload_n d_X7_isBelow_5 rfl ?_
    refine r_icmp_ge d_X7_isBelow_6 (by omega) (by omega) (fun c6 => ?_) (fun c6 => ?_)
    · refine r_iconst d_X7_isBelow_13 ?_
      refine r_zret d_X7_isBelow_14 rfl (by omega) ?_
      exact ⟨_, rfl, by first | rw [if_pos (by omega)] | rw [if_neg (by omega)], same_rf⟩
    · refine r_iconst d_X7_isBelow_9 ?_
      refine r_goto d_X7_isBelow_10 ?_
      refine r_zret d_X7_isBelow_14 rfl (by omega) ?_
      exact ⟨_, rfl, by first | rw [if_pos (by omega)] | rw [if_neg (by omega)], same_rf⟩
theorem c_isGiving {a : Int} (ha : -2147483648 ≤ a ∧ a ≤ 2147483647) : Mc g 0 m_X7_isGiving 0 0 [vi a] T I L R (qI fun z T' I' L' R' => z = (if a = 0 ∨ a = 1 then 1 else 0) ∧ same T I L R T' I' L' R') := by
  refine Mc_of rfl (Nat.le_of_ble_eq_true rfl) ?_
  refine r_iload_n d_X7_isGiving_0 rfl ?_
  refine r_if_eq d_X7_isGiving_1 (by omega) (fun c1 => ?_) (fun c1 => ?_)
  · refine r_iconst d_X7_isGiving_9 ?_
    refine r_goto d_X7_isGiving_10 ?_
    refine r_zret d_X7_isGiving_14 rfl (by omega) ?_
    exact ⟨_, rfl, by first | rw [if_pos (by omega)] | rw [if_neg (by omega)], same_rf⟩
  · refine r_iload_n d_X7_isGiving_4 rfl ?_
    refine r_iconst d_X7_isGiving_5 ?_
    refine r_icmp_ne d_X7_isGiving_6 (by omega) (by omega) (fun c6 => ?_) (fun c6 => ?_)
    · refine r_iconst d_X7_isGiving_13 ?_
      refine r_zret d_X7_isGiving_14 rfl (by omega) ?_
      exact ⟨_, rfl, by first | rw [if_pos (by omega)] | rw [if_neg (by omega)], same_rf⟩
    · refine r_iconst d_X7_isGiving_9 ?_
      refine r_goto d_X7_isGiving_10 ?_
      refine r_zret d_X7_isGiving_14 rfl (by omega) ?_
      exact ⟨_, rfl, by first | rw [if_pos (by omega)] | rw [if_neg (by omega)], same_rf⟩
theorem c_isPart {a : Int} (ha : -2147483648 ≤ a ∧ a ≤ 2147483647) : Mc g 0 m_X7_isPart 0 0 [vi a] T I L R (qI fun z T' I' L' R' => z = (if a = 0 ∨ a = 1 then 1 else 0) ∧ same T I L R T' I' L' R') := by
  refine Mc_of rfl (Nat.le_of_ble_eq_true rfl) ?_
  refine r_iload_n d_X7_isPart_0 rfl ?_
  refine r_if_eq d_X7_isPart_1 (by omega) (fun c1 => ?_) (fun c1 => ?_)
  · refine r_iconst d_X7_isPart_9 ?_
    refine r_goto d_X7_isPart_10 ?_
    refine r_zret d_X7_isPart_14 rfl (by omega) ?_
    exact ⟨_, rfl, by first | rw [if_pos (by omega)] | rw [if_neg (by omega)], same_rf⟩
  · refine r_iload_n d_X7_isPart_4 rfl ?_
    refine r_iconst d_X7_isPart_5 ?_
    refine r_icmp_ne d_X7_isPart_6 (by omega) (by omega) (fun c6 => ?_) (fun c6 => ?_)
    · refine r_iconst d_X7_isPart_13 ?_
      refine r_zret d_X7_isPart_14 rfl (by omega) ?_
      exact ⟨_, rfl, by first | rw [if_pos (by omega)] | rw [if_neg (by omega)], same_rf⟩
    · refine r_iconst d_X7_isPart_9 ?_
      refine r_goto d_X7_isPart_10 ?_
      refine r_zret d_X7_isPart_14 rfl (by omega) ?_
      exact ⟨_, rfl, by first | rw [if_pos (by omega)] | rw [if_neg (by omega)], same_rf⟩
end C1
section C2
variable {g : sG} {Ls : Nat} {tl : List Nat} {I L : sI}
theorem c_isHoused (h : 0 ≤ I 8 3 ∧ I 8 3 ≤ 8) : Mc g 0 m_X7_isHoused 0 0 [vr 3] (TT Ls tl) I L (RR tl) (qI fun z T' I' L' R' => z = (if 0 < I 8 3 then 1 else 0) ∧ same (TT Ls tl) I L (RR tl) T' I' L' R') := by
  refine Mc_of rfl (Nat.le_of_ble_eq_true rfl) ?_
  refine r_aload_n d_X7_isHoused_0 rfl ?_
  refine r_getr d_X7_isHoused_1 f_X7_19 (tt_3 _ _) (by decide) rfl (rr_3_1 _) ?_
  refine r_geti d_X7_isHoused_4 f_X7_94 (tt_8 _ _) (by decide) (by decide) ?_
  refine r_if_le d_X7_isHoused_7 (by omega) (fun c7 => ?_) (fun c7 => ?_)
  · refine r_iconst d_X7_isHoused_14 ?_
    refine r_zret d_X7_isHoused_15 rfl (by omega) ?_
    exact ⟨_, rfl, by first | rw [if_pos (by omega)] | rw [if_neg (by omega)], same_rf⟩
  · refine r_iconst d_X7_isHoused_10 ?_
    refine r_goto d_X7_isHoused_11 ?_
    refine r_zret d_X7_isHoused_15 rfl (by omega) ?_
    exact ⟨_, rfl, by first | rw [if_pos (by omega)] | rw [if_neg (by omega)], same_rf⟩
theorem c_isRoom {r : Int} (hr : -2147483648 ≤ r ∧ r ≤ 2147483647) (h : 0 ≤ I 8 3 ∧ I 8 3 ≤ 8) : Mc g 1 m_X7_isRoom 0 0 [vr 3, vi r] (TT Ls tl) I L (RR tl) (qI fun z T' I' L' R' => z = (if 0 ≤ r ∧ r < I 8 3 then 1 else 0) ∧ same (TT Ls tl) I L (RR tl) T' I' L' R') := by
  refine Mc_of rfl (Nat.le_of_ble_eq_true rfl) ?_
  refine r_iload_n d_X7_isRoom_0 rfl ?_
  refine r_aload_n d_X7_isRoom_1 rfl ?_
  refine r_getr d_X7_isRoom_2 f_X7_19 (tt_3 _ _) (by decide) rfl (rr_3_1 _) ?_
  refine r_geti d_X7_isRoom_5 f_X7_94 (tt_8 _ _) (by decide) (by decide) ?_
  refine r_S2i d_X7_isRoom_8 (w_X7_124 _ rfl) (c_isBelow hr (by omega)) (by decide) (Nat.le_of_ble_eq_true rfl) (fun z8 T8 I8 L8 R8 h8 => ?_)
  obtain ⟨rfl, rfl, rfl, rfl, rfl⟩ := h8
  refine r_zret d_X7_isRoom_11 rfl (by split <;> simp) ?_
  exact ⟨_, rfl, rfl, same_rf⟩
/-- which bit a room has -/
def bitF (f : Nat → Int) (r : Int) : Nat → Nat → Int
  | 0, _ => -1
  | n + 1, b => if f b = r then (b : Int) else bitF f r n (b + 1)
theorem c_bitOf {hb : Nat} (hh : hb = 8 ∨ hb = 35) {r : Int} (hr : -2147483648 ≤ r ∧ r ≤ 2147483647) {n : Nat} (hn : I hb 6 = (n : Int)) (hn3 : n ≤ 3) (hc : ∀ j, j < n → 0 ≤ I (hb + 23) j ∧ I (hb + 23) j ≤ 8) : Mc g 0 m_X2_bitOf 0 0 [vr hb, vi r] (TT Ls tl) I L (RR tl) (qI fun z T' I' L' R' => z = bitF (I (hb + 23)) r n 0 ∧ same (TT Ls tl) I L (RR tl) T' I' L' R') := by
  refine Mc_of rfl (Nat.le_of_ble_eq_true rfl) ?_
  have loop : ∀ (k b : Nat), b + k = n → bitF (I (hb + 23)) r n 0 = bitF (I (hb + 23)) r k b → Cp g 0 m_X2_bitOf 0 0 (qI fun z T' I' L' R' => z = bitF (I (hb + 23)) r n 0 ∧ same (TT Ls tl) I L (RR tl) T' I' L' R') 2 [(0, vr hb), (1, vi r), (2, vi (b : Int))] [] (TT Ls tl) I L (RR tl) := by
    intro k
    induction k with
    | zero =>
      intro b hbk hinv
      refine r_iload_n d_X2_bitOf_2 rfl ?_
      refine r_aload_n d_X2_bitOf_3 rfl ?_
      refine r_geti d_X2_bitOf_4 f_X2_45 (th_0 _ _ hh) (by decide) (by decide) ?_
      refine r_icmp_ge d_X2_bitOf_7 (by omega) (by omega) (fun c7 => ?_) (fun c7 => absurd c7 (by omega))
      refine r_iconst d_X2_bitOf_28 ?_
      refine r_iret d_X2_bitOf_29 rfl ?_
      exact ⟨_, rfl, hinv.symm, same_rf⟩
    | succ k ih =>
      intro b hbk hinv
      have hcb := hc b (by omega)
      refine r_iload_n d_X2_bitOf_2 rfl ?_
      refine r_aload_n d_X2_bitOf_3 rfl ?_
      refine r_geti d_X2_bitOf_4 f_X2_45 (th_0 _ _ hh) (by decide) (by decide) ?_
      refine r_icmp_ge d_X2_bitOf_7 (by omega) (by omega) (fun c7 => absurd c7 (by omega)) (fun c7 => ?_)
      refine r_aload_n d_X2_bitOf_10 rfl ?_
      refine r_getr d_X2_bitOf_11 f_X2_22 (th_0 _ _ hh) (by decide) rfl (rh_7 _ hh) ?_
      refine r_iload_n d_X2_bitOf_14 rfl ?_
      refine r_ialdJ d_X2_bitOf_15 (th_23 _ _ hh) rfl (by omega) (kk := ?_)
      refine r_iload_n d_X2_bitOf_16 rfl ?_
      refine r_icmp_ne d_X2_bitOf_17 (by omega) (by omega) (fun c17 => ?_) (fun c17 => ?_)
      · refine r_iinc d_X2_bitOf_22 rfl (by decide) ?_
        refine r_goto d_X2_bitOf_25 ?_
        exact CpL (ih (b + 1) (by omega) (by rw [hinv, bitF, if_neg c17])) (by repeat (first | exact trivial | refine ⟨rfl, ?_⟩))
      · refine r_iload_n d_X2_bitOf_20 rfl ?_
        refine r_iret d_X2_bitOf_21 rfl ?_
        exact ⟨_, rfl, by rw [hinv, bitF, if_pos c17], same_rf⟩
  refine r_iconst d_X2_bitOf_0 ?_
  refine r_istore_n d_X2_bitOf_1 (by decide) ?_
  exact CpL (loop n 0 (by omega) rfl) (by repeat (first | exact trivial | refine ⟨rfl, ?_⟩))
end C2
