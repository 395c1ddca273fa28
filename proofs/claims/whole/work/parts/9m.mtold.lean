section X9m
variable {g : sG} {Ls : Nat} {tl : List Nat} {I L : sI} {σ : Sg} {ℓ : Int} {nr nW nw ng : Nat}
theorem x_womanTold (hX : MX σ nr nW ng I) (h4 : nW ≤ 4) {w k : Nat} (hw : w < nW) (hk : k < 3) : Mc g 0 m_X8_womanTold 0 0 [vr 139, vi (w : Int), vi (k : Int)] (TT Ls tl) I L (RR tl) (qI fun z T' I' L' R' => z = σ (7 + k) w ∧ same (TT Ls tl) I L (RR tl) T' I' L' R') := by
  refine Mc_of rfl (Nat.le_of_ble_eq_true rfl) ?_
  have e := hX.2.2.2.1 w hw
  have e0 : I 147 w = σ 7 w := e 0 (by omega)
  have e1 : I 148 w = σ 8 w := e 1 (by omega)
  have e2 : I 149 w = σ 9 w := e 2 (by omega)
  rcases (show k = 0 ∨ k = 1 ∨ k = 2 by omega) with rfl | rfl | rfl
  · skip
    refine r_iload_n d_X8_womanTold_0 rfl ?_
    refine r_if_ne d_X8_womanTold_1 (by omega) (fun c1 => absurd c1 (by decide)) (fun c1 => ?_)
    refine r_aload_n d_X8_womanTold_4 rfl ?_
    refine r_getr d_X8_womanTold_5 f_X8_31 (tt_139 _ _) (by decide) rfl (rr_139_9 _) ?_
    refine r_iload_n d_X8_womanTold_8 rfl ?_
    refine r_ialdJ d_X8_womanTold_9 (tt_147 _ _) rfl (by omega) (kk := ?_)
    refine r_goto d_X8_womanTold_10 ?_
    refine r_iret d_X8_womanTold_33 rfl ?_
    exact ⟨_, rfl, e0, same_rf⟩
  · skip
    refine r_iload_n d_X8_womanTold_0 rfl ?_
    refine r_if_ne d_X8_womanTold_1 (by omega) (fun c1 => ?_) (fun c1 => absurd c1 (by decide))
    refine r_iload_n d_X8_womanTold_13 rfl ?_
    refine r_iconst d_X8_womanTold_14 ?_
    refine r_icmp_ne d_X8_womanTold_15 (by omega) (by omega) (fun c15 => absurd c15 (by decide)) (fun c15 => ?_)
    refine r_aload_n d_X8_womanTold_18 rfl ?_
    refine r_getr d_X8_womanTold_19 f_X8_34 (tt_139 _ _) (by decide) rfl (rr_139_10 _) ?_
    refine r_iload_n d_X8_womanTold_22 rfl ?_
    refine r_ialdJ d_X8_womanTold_23 (tt_148 _ _) rfl (by omega) (kk := ?_)
    refine r_goto d_X8_womanTold_24 ?_
    refine r_iret d_X8_womanTold_33 rfl ?_
    exact ⟨_, rfl, e1, same_rf⟩
  · skip
    refine r_iload_n d_X8_womanTold_0 rfl ?_
    refine r_if_ne d_X8_womanTold_1 (by omega) (fun c1 => ?_) (fun c1 => absurd c1 (by decide))
    refine r_iload_n d_X8_womanTold_13 rfl ?_
    refine r_iconst d_X8_womanTold_14 ?_
    refine r_icmp_ne d_X8_womanTold_15 (by omega) (by omega) (fun c15 => ?_) (fun c15 => absurd c15 (by decide))
    refine r_aload_n d_X8_womanTold_27 rfl ?_
    refine r_getr d_X8_womanTold_28 f_X8_37 (tt_139 _ _) (by decide) rfl (rr_139_11 _) ?_
    refine r_iload_n d_X8_womanTold_31 rfl ?_
    refine r_ialdJ d_X8_womanTold_32 (tt_149 _ _) rfl (by omega) (kk := ?_)
    refine r_iret d_X8_womanTold_33 rfl ?_
    exact ⟨_, rfl, e2, same_rf⟩
theorem x_guestTold (hV : MV σ ℓ nr nW ng) (hX : MX σ nr nW ng I) {q k : Nat} (hq : q < ng) (hk : k < 4) : Mc g 0 m_X8_guestTold 0 0 [vr 139, vi (q : Int), vi (k : Int)] (TT Ls tl) I L (RR tl) (qI fun z T' I' L' R' => z = σ (10 + k) q ∧ same (TT Ls tl) I L (RR tl) T' I' L' R') := by
  refine Mc_of rfl (Nat.le_of_ble_eq_true rfl) ?_
  have v2 := hV.2.1
  have gv := hV.2.2.1 q hq
  unfold GV at gv
  have e := hX.2.2.2.2 q hq
  have e0 : I 150 q = σ 10 q := e 0 (by omega)
  have e1 : I 151 q = σ 11 q := e 1 (by omega)
  have e2 : I 152 q = σ 12 q := e 2 (by omega)
  have e3 : I 153 q = σ 13 q := e 3 (by omega)
  rcases (show k = 0 ∨ k = 1 ∨ k = 2 ∨ k = 3 by omega) with rfl | rfl | rfl | rfl
  · skip
    refine r_iload_n d_X8_guestTold_0 rfl ?_
    refine r_if_ne d_X8_guestTold_1 (by omega) (fun c1 => absurd c1 (by decide)) (fun c1 => ?_)
    refine r_aload_n d_X8_guestTold_4 rfl ?_
    refine r_getr d_X8_guestTold_5 f_X8_40 (tt_139 _ _) (by decide) rfl (rr_139_13 _) ?_
    refine r_iload_n d_X8_guestTold_8 rfl ?_
    refine r_ialdJ d_X8_guestTold_9 (tt_150 _ _) rfl (by omega) (kk := ?_)
    refine r_goto d_X8_guestTold_10 ?_
    refine r_iret d_X8_guestTold_55 rfl ?_
    exact ⟨_, rfl, e0, same_rf⟩
  · skip
    refine r_iload_n d_X8_guestTold_0 rfl ?_
    refine r_if_ne d_X8_guestTold_1 (by omega) (fun c1 => ?_) (fun c1 => absurd c1 (by decide))
    refine r_iload_n d_X8_guestTold_13 rfl ?_
    refine r_iconst d_X8_guestTold_14 ?_
    refine r_icmp_ne d_X8_guestTold_15 (by omega) (by omega) (fun c15 => absurd c15 (by decide)) (fun c15 => ?_)
    refine r_aload_n d_X8_guestTold_18 rfl ?_
    refine r_getr d_X8_guestTold_19 f_X8_43 (tt_139 _ _) (by decide) rfl (rr_139_14 _) ?_
    refine r_iload_n d_X8_guestTold_22 rfl ?_
    refine r_ialdJ d_X8_guestTold_23 (tt_151 _ _) rfl (by omega) (kk := ?_)
    refine r_goto d_X8_guestTold_24 ?_
    refine r_iret d_X8_guestTold_55 rfl ?_
    exact ⟨_, rfl, e1, same_rf⟩
  · by_cases c : σ 12 q = 0
    · skip
      refine r_iload_n d_X8_guestTold_0 rfl ?_
      refine r_if_ne d_X8_guestTold_1 (by omega) (fun c1 => ?_) (fun c1 => absurd c1 (by decide))
      refine r_iload_n d_X8_guestTold_13 rfl ?_
      refine r_iconst d_X8_guestTold_14 ?_
      refine r_icmp_ne d_X8_guestTold_15 (by omega) (by omega) (fun c15 => ?_) (fun c15 => absurd c15 (by decide))
      refine r_iload_n d_X8_guestTold_27 rfl ?_
      refine r_iconst d_X8_guestTold_28 ?_
      refine r_icmp_ne d_X8_guestTold_29 (by omega) (by omega) (fun c29 => absurd c29 (by decide)) (fun c29 => ?_)
      refine r_aload_n d_X8_guestTold_32 rfl ?_
      refine r_getr d_X8_guestTold_33 f_X8_46 (tt_139 _ _) (by decide) rfl (rr_139_15 _) ?_
      refine r_iload_n d_X8_guestTold_36 rfl ?_
      refine r_zaldJ d_X8_guestTold_37 (tt_152 _ _) rfl (by omega) (kk := ?_)
      rw [e2]
      refine r_if_eq d_X8_guestTold_38 (by omega) (fun c38 => ?_) (fun c38 => absurd c38 (by exact fun q => q c))
      refine r_iconst d_X8_guestTold_45 ?_
      refine r_goto d_X8_guestTold_46 ?_
      refine r_iret d_X8_guestTold_55 rfl ?_
      exact ⟨_, rfl, c.symm, same_rf⟩
    · have k1 : σ 12 q = 1 := by omega
      refine r_iload_n d_X8_guestTold_0 rfl ?_
      refine r_if_ne d_X8_guestTold_1 (by omega) (fun c1 => ?_) (fun c1 => absurd c1 (by decide))
      refine r_iload_n d_X8_guestTold_13 rfl ?_
      refine r_iconst d_X8_guestTold_14 ?_
      refine r_icmp_ne d_X8_guestTold_15 (by omega) (by omega) (fun c15 => ?_) (fun c15 => absurd c15 (by decide))
      refine r_iload_n d_X8_guestTold_27 rfl ?_
      refine r_iconst d_X8_guestTold_28 ?_
      refine r_icmp_ne d_X8_guestTold_29 (by omega) (by omega) (fun c29 => absurd c29 (by decide)) (fun c29 => ?_)
      refine r_aload_n d_X8_guestTold_32 rfl ?_
      refine r_getr d_X8_guestTold_33 f_X8_46 (tt_139 _ _) (by decide) rfl (rr_139_15 _) ?_
      refine r_iload_n d_X8_guestTold_36 rfl ?_
      refine r_zaldJ d_X8_guestTold_37 (tt_152 _ _) rfl (by omega) (kk := ?_)
      rw [e2]
      refine r_if_eq d_X8_guestTold_38 (by omega) (fun c38 => absurd c38 (by exact c)) (fun c38 => ?_)
      refine r_iconst d_X8_guestTold_41 ?_
      refine r_goto d_X8_guestTold_42 ?_
      refine r_iret d_X8_guestTold_55 rfl ?_
      exact ⟨_, rfl, k1.symm, same_rf⟩
  · skip
    refine r_iload_n d_X8_guestTold_0 rfl ?_
    refine r_if_ne d_X8_guestTold_1 (by omega) (fun c1 => ?_) (fun c1 => absurd c1 (by decide))
    refine r_iload_n d_X8_guestTold_13 rfl ?_
    refine r_iconst d_X8_guestTold_14 ?_
    refine r_icmp_ne d_X8_guestTold_15 (by omega) (by omega) (fun c15 => ?_) (fun c15 => absurd c15 (by decide))
    refine r_iload_n d_X8_guestTold_27 rfl ?_
    refine r_iconst d_X8_guestTold_28 ?_
    refine r_icmp_ne d_X8_guestTold_29 (by omega) (by omega) (fun c29 => ?_) (fun c29 => absurd c29 (by decide))
    refine r_aload_n d_X8_guestTold_49 rfl ?_
    refine r_getr d_X8_guestTold_50 f_X8_50 (tt_139 _ _) (by decide) rfl (rr_139_16 _) ?_
    refine r_iload_n d_X8_guestTold_53 rfl ?_
    refine r_ialdJ d_X8_guestTold_54 (tt_153 _ _) rfl (by omega) (kk := ?_)
    refine r_iret d_X8_guestTold_55 rfl ?_
    exact ⟨_, rfl, e3, same_rf⟩
end X9m
