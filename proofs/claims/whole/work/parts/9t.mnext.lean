/-! the reference: a letter of a house -/
theorem cpl20 {D : Sg} : cplA D 20 = D 20 := by
  unfold cplA
  split
  · rw [up2_ne _ _ (by decide)]
  · rw [up2_ne _ _ (by decide)]
def NXT (D : Sg) (c : Int) (Ls : Nat) (tl : List Nat) (I L : sI) : sQ := qI fun z T' I' L' R' => T' = TT Ls tl ∧ R' = RR tl ∧ L' = L ∧ FHM I I' ∧ ((mstA D c = none ∧ z = -1) ∨ ∃ E, mstA D c = some E ∧ z = E 20 7 ∧ AMX E I')
section X9t
variable {g : sG} {Ls : Nat} {tl : List Nat} {I L : sI} {D : Sg} {c : Int}
theorem x_fits (hN : NBM D I) (hr : (-1 ≤ D 20 4 ∧ D 20 4 ≤ 99) ∧ (0 ≤ D 20 5 ∧ D 20 5 ≤ 100) ∧ (0 ≤ D 20 6 ∧ D 20 6 ≤ 44)) (hc : 0 ≤ c ∧ c ≤ 126) : Mc g 2 m_X8_fits 0 0 [vr 139, vi c] (TT Ls tl) I L (RR tl) (qI fun z T' I' L' R' => z = (if ftA D c = true then 1 else 0) ∧ same (TT Ls tl) I L (RR tl) T' I' L' R') := by
  refine Mc_of rfl (Nat.le_of_ble_eq_true rfl) ?_
  obtain ⟨n4, n5, n6⟩ := hN
  obtain ⟨r4, r5, r6⟩ := hr
  have fin : ∀ z : Int, z = (if ftA D c = true then 1 else 0) → (qI fun z T' I' L' R' => z = (if ftA D c = true then 1 else 0) ∧ same (TT Ls tl) I L (RR tl) T' I' L' R') (some (vi z)) (TT Ls tl) I L (RR tl) := fun z h => ⟨_, rfl, h, same_rf⟩
  unfold ftA at fin ⊢
  have hdg := x_isDigit (g := g) (T := TT Ls tl) (I := I) (L := L) (R := RR tl) (c := c) (by unfold i32; omega)
  by_cases hd : 48 ≤ c ∧ c ≤ 57
  · rw [if_pos hd] at hdg
    by_cases hv : D 20 4 = -1
    · have hwi := x_within (g := g) (T := TT Ls tl) (I := I) (L := L) (R := RR tl) (a := c - 48) (lo := D 20 5) (hi := D 20 6) (by omega) (by omega) (by omega)
      by_cases w : D 20 5 ≤ c - 48 ∧ c - 48 ≤ D 20 6
      · rw [if_pos w] at hwi
        refine r_iload_n d_X8_fits_0 rfl ?_
        refine r_bipush d_X8_fits_1 (by decide) ?_
        refine r_isub d_X8_fits_3 ?_
        refine r_istore_n d_X8_fits_4 (by decide) ?_
        refine r_iload_n d_X8_fits_5 rfl ?_
        refine r_S1i d_X8_fits_6 (w_X8_175 _ rfl) (hdg) (by decide) (Nat.le_of_ble_eq_true rfl) (fun z6 T6 I6 L6 R6 h6 => ?_)
        obtain ⟨rfl, rfl, rfl, rfl, rfl⟩ := h6
        refine r_if_ne d_X8_fits_9 (by omega) (fun c9 => ?_) (fun c9 => absurd c9 (by decide))
        refine r_aload_n d_X8_fits_14 rfl ?_
        refine r_geti d_X8_fits_15 f_X8_166 (tt_139 _ _) (by decide) (by decide) ?_
        rw [n4]
        refine r_iconst d_X8_fits_18 ?_
        refine r_icmp_ne d_X8_fits_19 (by omega) (by omega) (fun c19 => absurd c19 (by exact fun q => q hv)) (fun c19 => ?_)
        refine r_iload_n d_X8_fits_22 rfl ?_
        refine r_aload_n d_X8_fits_23 rfl ?_
        refine r_geti d_X8_fits_24 f_X8_169 (tt_139 _ _) (by decide) (by decide) ?_
        refine r_aload_n d_X8_fits_27 rfl ?_
        refine r_geti d_X8_fits_28 f_X8_172 (tt_139 _ _) (by decide) (by decide) ?_
        rw [n5, n6]
        refine r_S3i d_X8_fits_31 (w_X8_162 _ rfl) (hwi) (by decide) (Nat.le_of_ble_eq_true rfl) (fun z31 T31 I31 L31 R31 h31 => ?_)
        obtain ⟨rfl, rfl, rfl, rfl, rfl⟩ := h31
        refine r_if_ne d_X8_fits_34 (by omega) (fun c34 => ?_) (fun c34 => absurd c34 (by decide))
        refine r_iconst d_X8_fits_66 ?_
        refine r_goto d_X8_fits_67 ?_
        refine r_zret d_X8_fits_71 rfl (by omega) ?_
        exact fin _ (by rw [if_pos (by rw [decide_eq_true_iff]; omega)])
      · rw [if_neg w] at hwi
        refine r_iload_n d_X8_fits_0 rfl ?_
        refine r_bipush d_X8_fits_1 (by decide) ?_
        refine r_isub d_X8_fits_3 ?_
        refine r_istore_n d_X8_fits_4 (by decide) ?_
        refine r_iload_n d_X8_fits_5 rfl ?_
        refine r_S1i d_X8_fits_6 (w_X8_175 _ rfl) (hdg) (by decide) (Nat.le_of_ble_eq_true rfl) (fun z6 T6 I6 L6 R6 h6 => ?_)
        obtain ⟨rfl, rfl, rfl, rfl, rfl⟩ := h6
        refine r_if_ne d_X8_fits_9 (by omega) (fun c9 => ?_) (fun c9 => absurd c9 (by decide))
        refine r_aload_n d_X8_fits_14 rfl ?_
        refine r_geti d_X8_fits_15 f_X8_166 (tt_139 _ _) (by decide) (by decide) ?_
        rw [n4]
        refine r_iconst d_X8_fits_18 ?_
        refine r_icmp_ne d_X8_fits_19 (by omega) (by omega) (fun c19 => absurd c19 (by exact fun q => q hv)) (fun c19 => ?_)
        refine r_iload_n d_X8_fits_22 rfl ?_
        refine r_aload_n d_X8_fits_23 rfl ?_
        refine r_geti d_X8_fits_24 f_X8_169 (tt_139 _ _) (by decide) (by decide) ?_
        refine r_aload_n d_X8_fits_27 rfl ?_
        refine r_geti d_X8_fits_28 f_X8_172 (tt_139 _ _) (by decide) (by decide) ?_
        rw [n5, n6]
        refine r_S3i d_X8_fits_31 (w_X8_162 _ rfl) (hwi) (by decide) (Nat.le_of_ble_eq_true rfl) (fun z31 T31 I31 L31 R31 h31 => ?_)
        obtain ⟨rfl, rfl, rfl, rfl, rfl⟩ := h31
        refine r_if_ne d_X8_fits_34 (by omega) (fun c34 => absurd c34 (by decide)) (fun c34 => ?_)
        refine r_iload_n d_X8_fits_37 rfl ?_
        refine r_if_le d_X8_fits_38 (by omega) (fun c38 => ?_) (fun c38 => ?_)
        · refine r_iconst d_X8_fits_70 ?_
          refine r_zret d_X8_fits_71 rfl (by omega) ?_
          first
          | exact fin _ (by rw [if_pos (by rw [decide_eq_true_iff]; omega)])
          | exact fin _ (by rw [if_neg (by rw [decide_eq_true_iff]; omega)])
        · refine r_bipush d_X8_fits_41 (by decide) ?_
          refine r_iload_n d_X8_fits_43 rfl ?_
          refine r_imul d_X8_fits_44 ?_
          refine r_aload_n d_X8_fits_45 rfl ?_
          refine r_geti d_X8_fits_46 f_X8_172 (tt_139 _ _) (by decide) (by decide) ?_
          rw [n6]
          refine r_icmp_gt d_X8_fits_49 (by omega) (by omega) (fun c49 => ?_) (fun c49 => ?_)
          · refine r_iconst d_X8_fits_70 ?_
            refine r_zret d_X8_fits_71 rfl (by omega) ?_
            first
            | exact fin _ (by rw [if_pos (by rw [decide_eq_true_iff]; omega)])
            | exact fin _ (by rw [if_neg (by rw [decide_eq_true_iff]; omega)])
          · refine r_bipush d_X8_fits_52 (by decide) ?_
            refine r_iload_n d_X8_fits_54 rfl ?_
            refine r_imul d_X8_fits_55 ?_
            refine r_bipush d_X8_fits_56 (by decide) ?_
            refine r_iadd d_X8_fits_58 ?_
            refine r_aload_n d_X8_fits_59 rfl ?_
            refine r_geti d_X8_fits_60 f_X8_169 (tt_139 _ _) (by decide) (by decide) ?_
            rw [n5]
            refine r_icmp_lt d_X8_fits_63 (by omega) (by omega) (fun c63 => ?_) (fun c63 => ?_)
            · refine r_iconst d_X8_fits_70 ?_
              refine r_zret d_X8_fits_71 rfl (by omega) ?_
              first
              | exact fin _ (by rw [if_pos (by rw [decide_eq_true_iff]; omega)])
              | exact fin _ (by rw [if_neg (by rw [decide_eq_true_iff]; omega)])
            · refine r_iconst d_X8_fits_66 ?_
              refine r_goto d_X8_fits_67 ?_
              refine r_zret d_X8_fits_71 rfl (by omega) ?_
              first
              | exact fin _ (by rw [if_pos (by rw [decide_eq_true_iff]; omega)])
              | exact fin _ (by rw [if_neg (by rw [decide_eq_true_iff]; omega)])
    · have hwi := x_within (g := g) (T := TT Ls tl) (I := I) (L := L) (R := RR tl) (a := 10 * D 20 4 + (c - 48)) (lo := D 20 5) (hi := D 20 6) (by omega) (by omega) (by omega)
      by_cases w : D 20 5 ≤ 10 * D 20 4 + (c - 48) ∧ 10 * D 20 4 + (c - 48) ≤ D 20 6
      · rw [if_pos w] at hwi
        refine r_iload_n d_X8_fits_0 rfl ?_
        refine r_bipush d_X8_fits_1 (by decide) ?_
        refine r_isub d_X8_fits_3 ?_
        refine r_istore_n d_X8_fits_4 (by decide) ?_
        refine r_iload_n d_X8_fits_5 rfl ?_
        refine r_S1i d_X8_fits_6 (w_X8_175 _ rfl) (hdg) (by decide) (Nat.le_of_ble_eq_true rfl) (fun z6 T6 I6 L6 R6 h6 => ?_)
        obtain ⟨rfl, rfl, rfl, rfl, rfl⟩ := h6
        refine r_if_ne d_X8_fits_9 (by omega) (fun c9 => ?_) (fun c9 => absurd c9 (by decide))
        refine r_aload_n d_X8_fits_14 rfl ?_
        refine r_geti d_X8_fits_15 f_X8_166 (tt_139 _ _) (by decide) (by decide) ?_
        rw [n4]
        refine r_iconst d_X8_fits_18 ?_
        refine r_icmp_ne d_X8_fits_19 (by omega) (by omega) (fun c19 => ?_) (fun c19 => absurd c19 (by exact hv))
        refine r_aload_n d_X8_fits_72 rfl ?_
        refine r_geti d_X8_fits_73 f_X8_166 (tt_139 _ _) (by decide) (by decide) ?_
        rw [n4]
        refine r_if_le d_X8_fits_76 (by omega) (fun c76 => ?_) (fun c76 => ?_)
        · refine r_iconst d_X8_fits_115 ?_
          refine r_zret d_X8_fits_116 rfl (by omega) ?_
          first
          | (exfalso; omega)
          | exact fin _ (by rw [if_pos (by rw [decide_eq_true_iff]; omega)])
          | exact fin _ (by rw [if_neg (by rw [decide_eq_true_iff]; omega)])
        · refine r_aload_n d_X8_fits_79 rfl ?_
          refine r_geti d_X8_fits_80 f_X8_166 (tt_139 _ _) (by decide) (by decide) ?_
          rw [n4]
          refine r_bipush d_X8_fits_83 (by decide) ?_
          refine r_icmp_ge d_X8_fits_85 (by omega) (by omega) (fun c85 => ?_) (fun c85 => ?_)
          · refine r_iconst d_X8_fits_115 ?_
            refine r_zret d_X8_fits_116 rfl (by omega) ?_
            first
            | (exfalso; omega)
            | exact fin _ (by rw [if_pos (by rw [decide_eq_true_iff]; omega)])
            | exact fin _ (by rw [if_neg (by rw [decide_eq_true_iff]; omega)])
          · refine r_bipush d_X8_fits_88 (by decide) ?_
            refine r_aload_n d_X8_fits_90 rfl ?_
            refine r_geti d_X8_fits_91 f_X8_166 (tt_139 _ _) (by decide) (by decide) ?_
            rw [n4]
            refine r_imul d_X8_fits_94 ?_
            refine r_iload_n d_X8_fits_95 rfl ?_
            refine r_iadd d_X8_fits_96 ?_
            refine r_aload_n d_X8_fits_97 rfl ?_
            refine r_geti d_X8_fits_98 f_X8_169 (tt_139 _ _) (by decide) (by decide) ?_
            refine r_aload_n d_X8_fits_101 rfl ?_
            refine r_geti d_X8_fits_102 f_X8_172 (tt_139 _ _) (by decide) (by decide) ?_
            rw [n5, n6]
            refine r_S3i d_X8_fits_105 (w_X8_162 _ rfl) (hwi) (by decide) (Nat.le_of_ble_eq_true rfl) (fun z105 T105 I105 L105 R105 h105 => ?_)
            obtain ⟨rfl, rfl, rfl, rfl, rfl⟩ := h105
            refine r_if_eq d_X8_fits_108 (by omega) (fun c108 => absurd c108 (by decide)) (fun c108 => ?_)
            refine r_iconst d_X8_fits_111 ?_
            refine r_goto d_X8_fits_112 ?_
            refine r_zret d_X8_fits_116 rfl (by omega) ?_
            first
            | (exfalso; omega)
            | exact fin _ (by rw [if_pos (by rw [decide_eq_true_iff]; omega)])
            | exact fin _ (by rw [if_neg (by rw [decide_eq_true_iff]; omega)])
      · rw [if_neg w] at hwi
        refine r_iload_n d_X8_fits_0 rfl ?_
        refine r_bipush d_X8_fits_1 (by decide) ?_
        refine r_isub d_X8_fits_3 ?_
        refine r_istore_n d_X8_fits_4 (by decide) ?_
        refine r_iload_n d_X8_fits_5 rfl ?_
        refine r_S1i d_X8_fits_6 (w_X8_175 _ rfl) (hdg) (by decide) (Nat.le_of_ble_eq_true rfl) (fun z6 T6 I6 L6 R6 h6 => ?_)
        obtain ⟨rfl, rfl, rfl, rfl, rfl⟩ := h6
        refine r_if_ne d_X8_fits_9 (by omega) (fun c9 => ?_) (fun c9 => absurd c9 (by decide))
        refine r_aload_n d_X8_fits_14 rfl ?_
        refine r_geti d_X8_fits_15 f_X8_166 (tt_139 _ _) (by decide) (by decide) ?_
        rw [n4]
        refine r_iconst d_X8_fits_18 ?_
        refine r_icmp_ne d_X8_fits_19 (by omega) (by omega) (fun c19 => ?_) (fun c19 => absurd c19 (by exact hv))
        refine r_aload_n d_X8_fits_72 rfl ?_
        refine r_geti d_X8_fits_73 f_X8_166 (tt_139 _ _) (by decide) (by decide) ?_
        rw [n4]
        refine r_if_le d_X8_fits_76 (by omega) (fun c76 => ?_) (fun c76 => ?_)
        · refine r_iconst d_X8_fits_115 ?_
          refine r_zret d_X8_fits_116 rfl (by omega) ?_
          first
          | exact fin _ (by rw [if_pos (by rw [decide_eq_true_iff]; omega)])
          | exact fin _ (by rw [if_neg (by rw [decide_eq_true_iff]; omega)])
        · refine r_aload_n d_X8_fits_79 rfl ?_
          refine r_geti d_X8_fits_80 f_X8_166 (tt_139 _ _) (by decide) (by decide) ?_
          rw [n4]
          refine r_bipush d_X8_fits_83 (by decide) ?_
          refine r_icmp_ge d_X8_fits_85 (by omega) (by omega) (fun c85 => ?_) (fun c85 => ?_)
          · refine r_iconst d_X8_fits_115 ?_
            refine r_zret d_X8_fits_116 rfl (by omega) ?_
            first
            | exact fin _ (by rw [if_pos (by rw [decide_eq_true_iff]; omega)])
            | exact fin _ (by rw [if_neg (by rw [decide_eq_true_iff]; omega)])
          · refine r_bipush d_X8_fits_88 (by decide) ?_
            refine r_aload_n d_X8_fits_90 rfl ?_
            refine r_geti d_X8_fits_91 f_X8_166 (tt_139 _ _) (by decide) (by decide) ?_
            rw [n4]
            refine r_imul d_X8_fits_94 ?_
            refine r_iload_n d_X8_fits_95 rfl ?_
            refine r_iadd d_X8_fits_96 ?_
            refine r_aload_n d_X8_fits_97 rfl ?_
            refine r_geti d_X8_fits_98 f_X8_169 (tt_139 _ _) (by decide) (by decide) ?_
            refine r_aload_n d_X8_fits_101 rfl ?_
            refine r_geti d_X8_fits_102 f_X8_172 (tt_139 _ _) (by decide) (by decide) ?_
            rw [n5, n6]
            refine r_S3i d_X8_fits_105 (w_X8_162 _ rfl) (hwi) (by decide) (Nat.le_of_ble_eq_true rfl) (fun z105 T105 I105 L105 R105 h105 => ?_)
            obtain ⟨rfl, rfl, rfl, rfl, rfl⟩ := h105
            refine r_if_eq d_X8_fits_108 (by omega) (fun c108 => ?_) (fun c108 => absurd c108 (by decide))
            refine r_iconst d_X8_fits_115 ?_
            refine r_zret d_X8_fits_116 rfl (by omega) ?_
            first
            | exact fin _ (by rw [if_pos (by rw [decide_eq_true_iff]; omega)])
            | exact fin _ (by rw [if_neg (by rw [decide_eq_true_iff]; omega)])
  · rw [if_neg hd] at hdg
    refine r_iload_n d_X8_fits_0 rfl ?_
    refine r_bipush d_X8_fits_1 (by decide) ?_
    refine r_isub d_X8_fits_3 ?_
    refine r_istore_n d_X8_fits_4 (by decide) ?_
    refine r_iload_n d_X8_fits_5 rfl ?_
    refine r_S1i d_X8_fits_6 (w_X8_175 _ rfl) (hdg) (by decide) (Nat.le_of_ble_eq_true rfl) (fun z6 T6 I6 L6 R6 h6 => ?_)
    obtain ⟨rfl, rfl, rfl, rfl, rfl⟩ := h6
    refine r_if_ne d_X8_fits_9 (by omega) (fun c9 => absurd c9 (by decide)) (fun c9 => ?_)
    refine r_iconst d_X8_fits_12 ?_
    refine r_zret d_X8_fits_13 rfl (by omega) ?_
    exact fin _ (by rw [if_neg (by rw [decide_eq_true_iff]; omega)])
theorem x_grow (hN : NBM D I) (hr : -1 ≤ D 20 4 ∧ D 20 4 ≤ 99) : Mc g 0 m_X8_grow 0 0 [vr 139, vi c] (TT Ls tl) I L (RR tl) (qV fun T' I' L' R' => T' = TT Ls tl ∧ R' = RR tl ∧ L' = L ∧ I' = up2 I 139 49 (if D 20 4 = -1 then c - 48 else D 20 4 * 10 + (c - 48))) := by
  refine Mc_of rfl (Nat.le_of_ble_eq_true rfl) ?_
  have n4 := hN.1
  by_cases hv : D 20 4 = -1
  · skip
    refine r_aload_n d_X8_grow_0 rfl ?_
    refine r_aload_n d_X8_grow_1 rfl ?_
    refine r_geti d_X8_grow_2 f_X8_166 (tt_139 _ _) (by decide) (by decide) ?_
    rw [n4]
    refine r_iconst d_X8_grow_5 ?_
    refine r_icmp_ne d_X8_grow_6 (by omega) (by omega) (fun c6 => absurd c6 (by exact fun q => q hv)) (fun c6 => ?_)
    refine r_iload_n d_X8_grow_9 rfl ?_
    refine r_bipush d_X8_grow_10 (by decide) ?_
    refine r_isub d_X8_grow_12 ?_
    refine r_goto d_X8_grow_13 ?_
    refine r_puti d_X8_grow_28 f_X8_166 (tt_139 _ _) (by decide) (Or.inl rfl) ?_
    refine r_vret d_X8_grow_31 rfl ?_
    exact ⟨rfl, rfl, rfl, rfl, by rw [if_pos hv]⟩
  · skip
    refine r_aload_n d_X8_grow_0 rfl ?_
    refine r_aload_n d_X8_grow_1 rfl ?_
    refine r_geti d_X8_grow_2 f_X8_166 (tt_139 _ _) (by decide) (by decide) ?_
    rw [n4]
    refine r_iconst d_X8_grow_5 ?_
    refine r_icmp_ne d_X8_grow_6 (by omega) (by omega) (fun c6 => ?_) (fun c6 => absurd c6 (by exact hv))
    refine r_bipush d_X8_grow_16 (by decide) ?_
    refine r_aload_n d_X8_grow_18 rfl ?_
    refine r_geti d_X8_grow_19 f_X8_166 (tt_139 _ _) (by decide) (by decide) ?_
    rw [n4]
    refine r_imul d_X8_grow_22 ?_
    refine r_iload_n d_X8_grow_23 rfl ?_
    refine r_iadd d_X8_grow_24 ?_
    refine r_bipush d_X8_grow_25 (by decide) ?_
    refine r_isub d_X8_grow_27 ?_
    refine r_puti d_X8_grow_28 f_X8_166 (tt_139 _ _) (by decide) (Or.inl rfl) ?_
    refine r_vret d_X8_grow_31 rfl ?_
    exact ⟨rfl, rfl, rfl, rfl, by rw [if_neg hv, show D 20 4 * 10 + (c - 48) = 10 * D 20 4 + c - 48 by omega]⟩
theorem AMX_gw (hA : ARM D I) (hN : NBM D I) : AMX (gwA D c) (up2 I 139 49 (if D 20 4 = -1 then c - 48 else D 20 4 * 10 + (c - 48))) := ⟨ARM_num (ARM_sc hA (by decide)) (by decide), fun _ => ⟨by rw [up2_at]; rfl, by rw [up2_nj _ _ (by decide)]; exact hN.2.1, by rw [up2_nj _ _ (by decide)]; exact hN.2.2⟩⟩
theorem NXT_no {J : sI} (f : FHM I J) (h : mstA D c = none) : NXT D c Ls tl I L (some (vi (-1))) (TT Ls tl) J L (RR tl) := ⟨_, rfl, rfl, rfl, rfl, f, Or.inl ⟨h, rfl⟩⟩
theorem NXT_ok {J : sI} {E : Sg} {z : Int} (f : FHM I J) (h : mstA D c = some E) (hz : z = E 20 7) (hA : AMX E J) : NXT D c Ls tl I L (some (vi z)) (TT Ls tl) J L (RR tl) := ⟨_, rfl, rfl, rfl, rfl, f, Or.inr ⟨E, h, hz, hA⟩⟩
theorem nsa_no {E : Sg} {s : Int} (h : E 20 7 = s) (hs : ¬ (s = 4 ∨ s = 7 ∨ s = 12 ∨ s = 14 ∨ s = 20)) {P : Prop} : NSA E → P := fun q => by
  unfold NSA at q
  rw [h] at q
  exact absurd q hs
theorem x_behindGone (hA : AMX D I) (hV : IVA D) (hc : 0 ≤ c ∧ c ≤ 126) (hs : D 20 7 = 4 ∨ D 20 7 = 7) : Mc g 3 m_X8_behindGone 0 0 [vr 139, vi (D 20 7), vi c] (TT Ls tl) I L (RR tl) (NXT D c Ls tl I L) := by
  refine Mc_of rfl (Nat.le_of_ble_eq_true rfl) ?_
  have hns : NSA D := by omega
  obtain ⟨hR, hN⟩ := hA
  have hN := hN hns
  have hn := hV.1
  unfold IVN at hn
  obtain ⟨i0, i1, i2, i3, i7, i4, -, -⟩ := hn
  have i4 := i4 hns
  have e32 : I 139 32 = D 20 0 := hR.2.2.1
  have e49 := hN.1
  have hft := x_fits (g := g) (Ls := Ls) (tl := tl) (L := L) hN i4 hc
  by_cases hf : ftA D c = true
  · rw [if_pos hf] at hft
    refine r_aload_n d_X8_behindGone_0 rfl ?_
    refine r_geti d_X8_behindGone_1 f_X8_179 (tt_139 _ _) (by decide) (by decide) ?_
    refine r_iconst d_X8_behindGone_4 ?_
    refine r_isub d_X8_behindGone_5 ?_
    refine r_istore_n d_X8_behindGone_6 (by decide) ?_
    refine r_aload_n d_X8_behindGone_7 rfl ?_
    refine r_iload_n d_X8_behindGone_8 rfl ?_
    refine r_V1i d_X8_behindGone_9 (w_X8_190 _ rfl) (tt_139 _ _) rfl rfl (hft) (by decide) (Nat.le_of_ble_eq_true rfl) (fun z9 T9 I9 L9 R9 h9 => ?_)
    obtain ⟨rfl, rfl, rfl, rfl, rfl⟩ := h9
    refine r_if_eq d_X8_behindGone_12 (by omega) (fun c12 => absurd c12 (by decide)) (fun c12 => ?_)
    refine r_aload_n d_X8_behindGone_15 rfl ?_
    refine r_iload_n d_X8_behindGone_16 rfl ?_
    refine r_V1v d_X8_behindGone_17 (w_X8_193 _ rfl) (tt_139 _ _) rfl rfl (x_grow hN i4.1) (by decide) (Nat.le_of_ble_eq_true rfl) (fun T17 I17 L17 R17 h17 => ?_)
    obtain ⟨rfl, rfl, rfl, rfl⟩ := h17
    refine r_iload_n d_X8_behindGone_20 rfl ?_
    refine r_iret d_X8_behindGone_21 rfl ?_
    exact NXT_ok (FHM_sl FHM_rf (by omega)) (mst_ft hns hf) rfl (AMX_gw hR hN)
  · rw [if_neg hf] at hft
    have hf2 : ftA D c = false := Bool.eq_false_iff.mpr hf
    have hnu := x_isNumber (g := g) (Ls := Ls) (tl := tl) (L := L) hN.1 hN.2.1 (by unfold i32; omega) (by unfold i32; omega)
    by_cases hv : D 20 4 < D 20 5
    · rw [if_pos hv] at hnu
      refine r_aload_n d_X8_behindGone_0 rfl ?_
      refine r_geti d_X8_behindGone_1 f_X8_179 (tt_139 _ _) (by decide) (by decide) ?_
      refine r_iconst d_X8_behindGone_4 ?_
      refine r_isub d_X8_behindGone_5 ?_
      refine r_istore_n d_X8_behindGone_6 (by decide) ?_
      refine r_aload_n d_X8_behindGone_7 rfl ?_
      refine r_iload_n d_X8_behindGone_8 rfl ?_
      refine r_V1i d_X8_behindGone_9 (w_X8_190 _ rfl) (tt_139 _ _) rfl rfl (hft) (by decide) (Nat.le_of_ble_eq_true rfl) (fun z9 T9 I9 L9 R9 h9 => ?_)
      obtain ⟨rfl, rfl, rfl, rfl, rfl⟩ := h9
      refine r_if_eq d_X8_behindGone_12 (by omega) (fun c12 => ?_) (fun c12 => absurd c12 (by decide))
      refine r_aload_n d_X8_behindGone_22 rfl ?_
      refine r_V0i d_X8_behindGone_23 (w_X8_197 _ rfl) (tt_139 _ _) rfl rfl (hnu) (by decide) (Nat.le_of_ble_eq_true rfl) (fun z23 T23 I23 L23 R23 h23 => ?_)
      obtain ⟨rfl, rfl, rfl, rfl, rfl⟩ := h23
      refine r_if_ne d_X8_behindGone_26 (by omega) (fun c26 => absurd c26 (by decide)) (fun c26 => ?_)
      refine r_iconst d_X8_behindGone_29 ?_
      refine r_iret d_X8_behindGone_30 rfl ?_
      exact NXT_no FHM_rf (mst_no hns hf2 hv)
    · rw [if_neg hv] at hnu
      have hme := mst_end hns hf2 hv
      unfold endA at hme
      rw [if_pos hs] at hme
      have t59 : ∀ J : sI, ARM (cplA D) J → FHM I J → Cp g 3 m_X8_behindGone 0 0 (NXT D c Ls tl I L) 59 [(0, vr 139), (1, vi (D 20 7)), (2, vi c)] [] (TT Ls tl) J L (RR tl) := by
        intro J hJ f
        have j35 : J 139 35 = D 20 3 := by rw [hJ.2.2.2.2.2, cpl20]
        have j32 : J 139 32 = D 20 0 := by rw [hJ.2.2.1, cpl20]
        by_cases k1 : D 20 7 = 4 ∧ c = 47 ∧ D 20 3 < 3
        · rw [if_pos k1] at hme
          refine r_iload_n d_X8_behindGone_59 rfl ?_
          refine r_bipush d_X8_behindGone_60 (by decide) ?_
          refine r_icmp_ne d_X8_behindGone_62 (by omega) (by omega) (fun c62 => absurd c62 (by omega)) (fun c62 => ?_)
          refine r_iload_n d_X8_behindGone_65 rfl ?_
          refine r_iconst d_X8_behindGone_66 ?_
          refine r_icmp_ne d_X8_behindGone_67 (by omega) (by omega) (fun c67 => absurd c67 (by omega)) (fun c67 => ?_)
          refine r_aload_n d_X8_behindGone_70 rfl ?_
          refine r_geti d_X8_behindGone_71 f_X8_201 (tt_139 _ _) (by decide) (by decide) ?_
          rw [j35]
          refine r_iconst d_X8_behindGone_74 ?_
          refine r_icmp_ge d_X8_behindGone_75 (by omega) (by omega) (fun c75 => absurd c75 (by omega)) (fun c75 => ?_)
          refine r_aload_n d_X8_behindGone_78 rfl ?_
          refine r_dup d_X8_behindGone_79 rfl ?_
          refine r_geti d_X8_behindGone_80 f_X8_201 (tt_139 _ _) (by decide) (by decide) ?_
          rw [j35]
          refine r_iconst d_X8_behindGone_83 ?_
          refine r_iadd d_X8_behindGone_84 ?_
          refine r_puti d_X8_behindGone_85 f_X8_201 (tt_139 _ _) (by decide) (Or.inl rfl) ?_
          refine r_iconst d_X8_behindGone_88 ?_
          refine r_iret d_X8_behindGone_89 rfl ?_
          exact NXT_ok (FHM_sl f (by omega)) hme rfl ⟨ARM_sc (ARM_cnt (j := 3) hJ (by decide)) (by decide), nsa_no (s := 5) rfl (by decide)⟩
        · rw [if_neg k1] at hme
          have t90 : Cp g 3 m_X8_behindGone 0 0 (NXT D c Ls tl I L) 90 [(0, vr 139), (1, vi (D 20 7)), (2, vi c)] [] (TT Ls tl) J L (RR tl) := by
            by_cases k2 : c = 44
            · rw [if_pos k2] at hme
              by_cases k3 : D 20 0 < 8
              · rw [if_pos k3] at hme
                refine r_iload_n d_X8_behindGone_90 rfl ?_
                refine r_bipush d_X8_behindGone_91 (by decide) ?_
                refine r_icmp_ne d_X8_behindGone_93 (by omega) (by omega) (fun c93 => absurd c93 (by omega)) (fun c93 => ?_)
                refine r_aload_n d_X8_behindGone_96 rfl ?_
                refine r_geti d_X8_behindGone_97 f_X8_179 (tt_139 _ _) (by decide) (by decide) ?_
                rw [j32]
                refine r_bipush d_X8_behindGone_100 (by decide) ?_
                refine r_icmp_ge d_X8_behindGone_102 (by omega) (by omega) (fun c102 => absurd c102 (by omega)) (fun c102 => ?_)
                refine r_iconst d_X8_behindGone_105 ?_
                refine r_goto d_X8_behindGone_106 ?_
                refine r_iret d_X8_behindGone_125 rfl ?_
                exact NXT_ok f hme rfl ⟨ARM_sc hJ (by decide), nsa_no (s := 0) rfl (by decide)⟩
              · rw [if_neg k3] at hme
                refine r_iload_n d_X8_behindGone_90 rfl ?_
                refine r_bipush d_X8_behindGone_91 (by decide) ?_
                refine r_icmp_ne d_X8_behindGone_93 (by omega) (by omega) (fun c93 => absurd c93 (by omega)) (fun c93 => ?_)
                refine r_aload_n d_X8_behindGone_96 rfl ?_
                refine r_geti d_X8_behindGone_97 f_X8_179 (tt_139 _ _) (by decide) (by decide) ?_
                rw [j32]
                refine r_bipush d_X8_behindGone_100 (by decide) ?_
                refine r_icmp_ge d_X8_behindGone_102 (by omega) (by omega) (fun c102 => ?_) (fun c102 => absurd c102 (by omega))
                refine r_iconst d_X8_behindGone_109 ?_
                refine r_goto d_X8_behindGone_110 ?_
                refine r_iret d_X8_behindGone_125 rfl ?_
                exact NXT_no f hme
            · rw [if_neg k2] at hme
              by_cases k3 : c = 59
              · rw [if_pos k3] at hme
                refine r_iload_n d_X8_behindGone_90 rfl ?_
                refine r_bipush d_X8_behindGone_91 (by decide) ?_
                refine r_icmp_ne d_X8_behindGone_93 (by omega) (by omega) (fun c93 => ?_) (fun c93 => absurd c93 (by omega))
                refine r_iload_n d_X8_behindGone_113 rfl ?_
                refine r_bipush d_X8_behindGone_114 (by decide) ?_
                refine r_icmp_ne d_X8_behindGone_116 (by omega) (by omega) (fun c116 => absurd c116 (by omega)) (fun c116 => ?_)
                refine r_bipush d_X8_behindGone_119 (by decide) ?_
                refine r_goto d_X8_behindGone_121 ?_
                refine r_iret d_X8_behindGone_125 rfl ?_
                exact NXT_ok f hme rfl ⟨ARM_sc hJ (by decide), nsa_no (s := 10) rfl (by decide)⟩
              · rw [if_neg k3] at hme
                refine r_iload_n d_X8_behindGone_90 rfl ?_
                refine r_bipush d_X8_behindGone_91 (by decide) ?_
                refine r_icmp_ne d_X8_behindGone_93 (by omega) (by omega) (fun c93 => ?_) (fun c93 => absurd c93 (by omega))
                refine r_iload_n d_X8_behindGone_113 rfl ?_
                refine r_bipush d_X8_behindGone_114 (by decide) ?_
                refine r_icmp_ne d_X8_behindGone_116 (by omega) (by omega) (fun c116 => ?_) (fun c116 => absurd c116 (by omega))
                refine r_iconst d_X8_behindGone_124 ?_
                refine r_iret d_X8_behindGone_125 rfl ?_
                exact NXT_no f hme
          by_cases k2 : c = 47
          · by_cases k3 : D 20 7 = 4
            · skip
              refine r_iload_n d_X8_behindGone_59 rfl ?_
              refine r_bipush d_X8_behindGone_60 (by decide) ?_
              refine r_icmp_ne d_X8_behindGone_62 (by omega) (by omega) (fun c62 => absurd c62 (by omega)) (fun c62 => ?_)
              refine r_iload_n d_X8_behindGone_65 rfl ?_
              refine r_iconst d_X8_behindGone_66 ?_
              refine r_icmp_ne d_X8_behindGone_67 (by omega) (by omega) (fun c67 => absurd c67 (by omega)) (fun c67 => ?_)
              refine r_aload_n d_X8_behindGone_70 rfl ?_
              refine r_geti d_X8_behindGone_71 f_X8_201 (tt_139 _ _) (by decide) (by decide) ?_
              rw [j35]
              refine r_iconst d_X8_behindGone_74 ?_
              refine r_icmp_ge d_X8_behindGone_75 (by omega) (by omega) (fun c75 => ?_) (fun c75 => absurd c75 (by omega))
              exact t90
            · skip
              refine r_iload_n d_X8_behindGone_59 rfl ?_
              refine r_bipush d_X8_behindGone_60 (by decide) ?_
              refine r_icmp_ne d_X8_behindGone_62 (by omega) (by omega) (fun c62 => absurd c62 (by omega)) (fun c62 => ?_)
              refine r_iload_n d_X8_behindGone_65 rfl ?_
              refine r_iconst d_X8_behindGone_66 ?_
              refine r_icmp_ne d_X8_behindGone_67 (by omega) (by omega) (fun c67 => ?_) (fun c67 => absurd c67 (by omega))
              exact t90
          · skip
            refine r_iload_n d_X8_behindGone_59 rfl ?_
            refine r_bipush d_X8_behindGone_60 (by decide) ?_
            refine r_icmp_ne d_X8_behindGone_62 (by omega) (by omega) (fun c62 => ?_) (fun c62 => absurd c62 (by omega))
            exact t90
      rcases hs with h4 | h7
      · have ec : cplA D = up2 D 3 ((D 20 0).toNat - 1) (D 20 4) := by unfold cplA; rw [if_pos h4]; rfl
        refine r_aload_n d_X8_behindGone_0 rfl ?_
        refine r_geti d_X8_behindGone_1 f_X8_179 (tt_139 _ _) (by decide) (by decide) ?_
        refine r_iconst d_X8_behindGone_4 ?_
        refine r_isub d_X8_behindGone_5 ?_
        refine r_istore_n d_X8_behindGone_6 (by decide) ?_
        refine r_aload_n d_X8_behindGone_7 rfl ?_
        refine r_iload_n d_X8_behindGone_8 rfl ?_
        refine r_V1i d_X8_behindGone_9 (w_X8_190 _ rfl) (tt_139 _ _) rfl rfl (hft) (by decide) (Nat.le_of_ble_eq_true rfl) (fun z9 T9 I9 L9 R9 h9 => ?_)
        obtain ⟨rfl, rfl, rfl, rfl, rfl⟩ := h9
        refine r_if_eq d_X8_behindGone_12 (by omega) (fun c12 => ?_) (fun c12 => absurd c12 (by decide))
        refine r_aload_n d_X8_behindGone_22 rfl ?_
        refine r_V0i d_X8_behindGone_23 (w_X8_197 _ rfl) (tt_139 _ _) rfl rfl (hnu) (by decide) (Nat.le_of_ble_eq_true rfl) (fun z23 T23 I23 L23 R23 h23 => ?_)
        obtain ⟨rfl, rfl, rfl, rfl, rfl⟩ := h23
        refine r_if_ne d_X8_behindGone_26 (by omega) (fun c26 => ?_) (fun c26 => absurd c26 (by decide))
        refine r_iload_n d_X8_behindGone_31 rfl ?_
        refine r_iconst d_X8_behindGone_32 ?_
        refine r_icmp_ne d_X8_behindGone_33 (by omega) (by omega) (fun c33 => absurd c33 (by omega)) (fun c33 => ?_)
        refine r_aload_n d_X8_behindGone_36 rfl ?_
        refine r_getr d_X8_behindGone_37 f_X8_82 (tt_139 _ _) (by decide) rfl (rr_139_39 _) ?_
        refine r_iload_n d_X8_behindGone_40 rfl ?_
        refine r_aload_n d_X8_behindGone_41 rfl ?_
        refine r_geti d_X8_behindGone_42 f_X8_166 (tt_139 _ _) (by decide) (by decide) ?_
        rw [e32, e49]
        refine r_iastJ (j := (D 20 0).toNat - 1) d_X8_behindGone_45 (tt_162 _ _) (by omega) (by omega) (by omega) (kk := ?_)
        refine r_goto d_X8_behindGone_46 ?_
        exact CpL (t59 _ (by rw [ec]; exact ARM_162 hR) (FHM_row FHM_rf (by omega))) (by repeat (first | exact trivial | refine ⟨rfl, ?_⟩))
      · have ec : cplA D = up2 D 4 ((D 20 0).toNat - 1) (D 20 4) := by unfold cplA; rw [if_neg (by omega)]; rfl
        refine r_aload_n d_X8_behindGone_0 rfl ?_
        refine r_geti d_X8_behindGone_1 f_X8_179 (tt_139 _ _) (by decide) (by decide) ?_
        refine r_iconst d_X8_behindGone_4 ?_
        refine r_isub d_X8_behindGone_5 ?_
        refine r_istore_n d_X8_behindGone_6 (by decide) ?_
        refine r_aload_n d_X8_behindGone_7 rfl ?_
        refine r_iload_n d_X8_behindGone_8 rfl ?_
        refine r_V1i d_X8_behindGone_9 (w_X8_190 _ rfl) (tt_139 _ _) rfl rfl (hft) (by decide) (Nat.le_of_ble_eq_true rfl) (fun z9 T9 I9 L9 R9 h9 => ?_)
        obtain ⟨rfl, rfl, rfl, rfl, rfl⟩ := h9
        refine r_if_eq d_X8_behindGone_12 (by omega) (fun c12 => ?_) (fun c12 => absurd c12 (by decide))
        refine r_aload_n d_X8_behindGone_22 rfl ?_
        refine r_V0i d_X8_behindGone_23 (w_X8_197 _ rfl) (tt_139 _ _) rfl rfl (hnu) (by decide) (Nat.le_of_ble_eq_true rfl) (fun z23 T23 I23 L23 R23 h23 => ?_)
        obtain ⟨rfl, rfl, rfl, rfl, rfl⟩ := h23
        refine r_if_ne d_X8_behindGone_26 (by omega) (fun c26 => ?_) (fun c26 => absurd c26 (by decide))
        refine r_iload_n d_X8_behindGone_31 rfl ?_
        refine r_iconst d_X8_behindGone_32 ?_
        refine r_icmp_ne d_X8_behindGone_33 (by omega) (by omega) (fun c33 => ?_) (fun c33 => absurd c33 (by omega))
        refine r_aload_n d_X8_behindGone_49 rfl ?_
        refine r_getr d_X8_behindGone_50 f_X8_85 (tt_139 _ _) (by decide) rfl (rr_139_40 _) ?_
        refine r_iload_n d_X8_behindGone_53 rfl ?_
        refine r_aload_n d_X8_behindGone_54 rfl ?_
        refine r_geti d_X8_behindGone_55 f_X8_166 (tt_139 _ _) (by decide) (by decide) ?_
        rw [e32, e49]
        refine r_iastJ (j := (D 20 0).toNat - 1) d_X8_behindGone_58 (tt_163 _ _) (by omega) (by omega) (by omega) (kk := ?_)
        exact CpL (t59 _ (by rw [ec]; exact ARM_163 hR) (FHM_row FHM_rf (by omega))) (by repeat (first | exact trivial | refine ⟨rfl, ?_⟩))
theorem x_nextRoom (hA : AMX D I) (hV : IVA D) (hc : 0 ≤ c ∧ c ≤ 126) (hs : D 20 7 < 10) : Mc g 4 m_X8_nextRoom 0 0 [vr 139, vi (D 20 7), vi c] (TT Ls tl) I L (RR tl) (NXT D c Ls tl I L) := by
  refine Mc_of rfl (Nat.le_of_ble_eq_true rfl) ?_
  obtain ⟨hR, hN⟩ := id hA
  have hn := hV.1
  unfold IVN at hn
  obtain ⟨i0, i1, i2, i3, i7, i4, -, -⟩ := hn
  have e32 : I 139 32 = D 20 0 := hR.2.2.1
  have hp : ¬ (D 20 7 = 4 ∨ D 20 7 = 7) → mstA D c = plnA D c := fun h => mst_pln (by omega)
  have hpl : ∀ s : Int, D 20 7 = s → ¬ (s = 4 ∨ s = 7) → mstA D c = plnA D c := fun s h1 h2 => hp (by rw [h1]; exact h2)
  have wi := fun (lo hi : Int) (h1 : -100 ≤ lo ∧ lo ≤ 200) (h2 : -100 ≤ hi ∧ hi ≤ 200) (J : sI) => x_within (g := g) (T := TT Ls tl) (I := J) (L := L) (R := RR tl) (a := c) (lo := lo) (hi := hi) (by omega) (by omega) (by omega)
  have k0 : D 20 7 = 0 → Cp g 4 m_X8_nextRoom 0 0 (NXT D c Ls tl I L) 52 [(0, vr 139), (1, vi (D 20 7)), (2, vi c), (3, vi (D 20 0 - 1))] [] (TT Ls tl) I L (RR tl) := by
    intro h7
    have hm := hpl 0 h7 (by decide)
    unfold plnA at hm
    rw [if_pos h7] at hm
    have hw := wi 49 54 (by omega) (by omega) I
    by_cases q : 49 ≤ c ∧ c ≤ 54
    · rw [if_pos q] at hm hw
      refine r_iload_n d_X8_nextRoom_52 rfl ?_
      refine r_bipush d_X8_nextRoom_53 (by decide) ?_
      refine r_bipush d_X8_nextRoom_55 (by decide) ?_
      refine r_S3i d_X8_nextRoom_57 (w_X8_162 _ rfl) (hw) (by decide) (Nat.le_of_ble_eq_true rfl) (fun z57 T57 I57 L57 R57 h57 => ?_)
      obtain ⟨rfl, rfl, rfl, rfl, rfl⟩ := h57
      refine r_if_ne d_X8_nextRoom_60 (by omega) (fun c60 => ?_) (fun c60 => absurd c60 (by decide))
      refine r_aload_n d_X8_nextRoom_65 rfl ?_
      refine r_getr d_X8_nextRoom_66 f_X8_73 (tt_139 _ _) (by decide) rfl (rr_139_36 _) ?_
      refine r_aload_n d_X8_nextRoom_69 rfl ?_
      refine r_geti d_X8_nextRoom_70 f_X8_179 (tt_139 _ _) (by decide) (by decide) ?_
      rw [e32]
      refine r_iload_n d_X8_nextRoom_73 rfl ?_
      refine r_bipush d_X8_nextRoom_74 (by decide) ?_
      refine r_isub d_X8_nextRoom_76 ?_
      refine r_iastJ (j := (D 20 0).toNat) d_X8_nextRoom_77 (tt_159 _ _) (by omega) (by omega) (by omega) (kk := ?_)
      refine r_aload_n d_X8_nextRoom_78 rfl ?_
      refine r_getr d_X8_nextRoom_79 f_X8_85 (tt_139 _ _) (by decide) rfl (rr_139_40 _) ?_
      refine r_aload_n d_X8_nextRoom_82 rfl ?_
      refine r_geti d_X8_nextRoom_83 f_X8_179 (tt_139 _ _) (by decide) (by decide) ?_
      rw [up2_ne _ _ (by decide), e32]
      refine r_iconst d_X8_nextRoom_86 ?_
      refine r_iastJ (j := (D 20 0).toNat) d_X8_nextRoom_87 (tt_163 _ _) (by omega) (by omega) (by omega) (kk := ?_)
      refine r_aload_n d_X8_nextRoom_88 rfl ?_
      refine r_getr d_X8_nextRoom_89 f_X8_88 (tt_139 _ _) (by decide) rfl (rr_139_41 _) ?_
      refine r_aload_n d_X8_nextRoom_92 rfl ?_
      refine r_geti d_X8_nextRoom_93 f_X8_179 (tt_139 _ _) (by decide) (by decide) ?_
      rw [up2_ne _ _ (by decide), up2_ne _ _ (by decide), e32]
      refine r_iconst d_X8_nextRoom_96 ?_
      refine r_iastJ (j := (D 20 0).toNat) d_X8_nextRoom_97 (tt_164 _ _) (by omega) (by omega) (by omega) (kk := ?_)
      refine r_aload_n d_X8_nextRoom_98 rfl ?_
      refine r_dup d_X8_nextRoom_99 rfl ?_
      refine r_geti d_X8_nextRoom_100 f_X8_179 (tt_139 _ _) (by decide) (by decide) ?_
      rw [up2_ne _ _ (by decide), up2_ne _ _ (by decide), up2_ne _ _ (by decide), e32]
      refine r_iconst d_X8_nextRoom_103 ?_
      refine r_iadd d_X8_nextRoom_104 ?_
      refine r_puti d_X8_nextRoom_105 f_X8_179 (tt_139 _ _) (by decide) (Or.inl rfl) ?_
      refine r_iconst d_X8_nextRoom_108 ?_
      refine r_iret d_X8_nextRoom_109 rfl ?_
      refine NXT_ok (FHM_sl (FHM_row (FHM_row (FHM_row FHM_rf (by omega)) (by omega)) (by omega)) (by omega)) hm rfl ⟨ARM_sc ?_ (by decide), nsa_no (s := 1) rfl (by decide)⟩
      refine ARM_new (n := (D 20 0).toNat) (ARM_164 (ARM_163 (ARM_159 hR))) ?_ ?_
      · show D 20 0 = _; omega
      · rw [up2_ne _ _ (by decide), up2_at, up2_ne _ _ (by decide), up2_at]
    · rw [if_neg q] at hm hw
      refine r_iload_n d_X8_nextRoom_52 rfl ?_
      refine r_bipush d_X8_nextRoom_53 (by decide) ?_
      refine r_bipush d_X8_nextRoom_55 (by decide) ?_
      refine r_S3i d_X8_nextRoom_57 (w_X8_162 _ rfl) (hw) (by decide) (Nat.le_of_ble_eq_true rfl) (fun z57 T57 I57 L57 R57 h57 => ?_)
      obtain ⟨rfl, rfl, rfl, rfl, rfl⟩ := h57
      refine r_if_ne d_X8_nextRoom_60 (by omega) (fun c60 => absurd c60 (by decide)) (fun c60 => ?_)
      refine r_iconst d_X8_nextRoom_63 ?_
      refine r_iret d_X8_nextRoom_64 rfl ?_
      exact NXT_no FHM_rf hm
  have k1 : D 20 7 = 1 → Cp g 4 m_X8_nextRoom 0 0 (NXT D c Ls tl I L) 110 [(0, vr 139), (1, vi (D 20 7)), (2, vi c), (3, vi (D 20 0 - 1))] [] (TT Ls tl) I L (RR tl) := by
    intro h7
    have hm := hpl 1 h7 (by decide)
    unfold plnA at hm
    rw [if_neg (by omega), if_pos h7] at hm
    have hw := wi 97 100 (by omega) (by omega)
    by_cases q : 97 ≤ c ∧ c ≤ 100
    · rw [if_pos q] at hm hw
      refine r_aload_n d_X8_nextRoom_110 rfl ?_
      refine r_getr d_X8_nextRoom_111 f_X8_76 (tt_139 _ _) (by decide) rfl (rr_139_37 _) ?_
      refine r_iload_n d_X8_nextRoom_114 rfl ?_
      refine r_iload_n d_X8_nextRoom_115 rfl ?_
      refine r_bipush d_X8_nextRoom_116 (by decide) ?_
      refine r_isub d_X8_nextRoom_118 ?_
      refine r_iastJ (j := (D 20 0).toNat - 1) d_X8_nextRoom_119 (tt_160 _ _) (by omega) (by omega) (by omega) (kk := ?_)
      refine r_iload_n d_X8_nextRoom_120 rfl ?_
      refine r_bipush d_X8_nextRoom_121 (by decide) ?_
      refine r_bipush d_X8_nextRoom_123 (by decide) ?_
      refine r_S3i d_X8_nextRoom_125 (w_X8_162 _ rfl) (hw _) (by decide) (Nat.le_of_ble_eq_true rfl) (fun z125 T125 I125 L125 R125 h125 => ?_)
      obtain ⟨rfl, rfl, rfl, rfl, rfl⟩ := h125
      refine r_if_eq d_X8_nextRoom_128 (by omega) (fun c128 => absurd c128 (by decide)) (fun c128 => ?_)
      refine r_iconst d_X8_nextRoom_131 ?_
      refine r_goto d_X8_nextRoom_132 ?_
      refine r_iret d_X8_nextRoom_136 rfl ?_
      exact NXT_ok (FHM_row FHM_rf (by omega)) hm rfl ⟨ARM_sc (ARM_160 hR) (by decide), nsa_no (s := 2) rfl (by decide)⟩
    · rw [if_neg q] at hm hw
      refine r_aload_n d_X8_nextRoom_110 rfl ?_
      refine r_getr d_X8_nextRoom_111 f_X8_76 (tt_139 _ _) (by decide) rfl (rr_139_37 _) ?_
      refine r_iload_n d_X8_nextRoom_114 rfl ?_
      refine r_iload_n d_X8_nextRoom_115 rfl ?_
      refine r_bipush d_X8_nextRoom_116 (by decide) ?_
      refine r_isub d_X8_nextRoom_118 ?_
      refine r_iastJ (j := (D 20 0).toNat - 1) d_X8_nextRoom_119 (tt_160 _ _) (by omega) (by omega) (by omega) (kk := ?_)
      refine r_iload_n d_X8_nextRoom_120 rfl ?_
      refine r_bipush d_X8_nextRoom_121 (by decide) ?_
      refine r_bipush d_X8_nextRoom_123 (by decide) ?_
      refine r_S3i d_X8_nextRoom_125 (w_X8_162 _ rfl) (hw _) (by decide) (Nat.le_of_ble_eq_true rfl) (fun z125 T125 I125 L125 R125 h125 => ?_)
      obtain ⟨rfl, rfl, rfl, rfl, rfl⟩ := h125
      refine r_if_eq d_X8_nextRoom_128 (by omega) (fun c128 => ?_) (fun c128 => absurd c128 (by decide))
      refine r_iconst d_X8_nextRoom_135 ?_
      refine r_iret d_X8_nextRoom_136 rfl ?_
      exact NXT_no (FHM_row FHM_rf (by omega)) hm
  have k2 : D 20 7 = 2 → Cp g 4 m_X8_nextRoom 0 0 (NXT D c Ls tl I L) 137 [(0, vr 139), (1, vi (D 20 7)), (2, vi c), (3, vi (D 20 0 - 1))] [] (TT Ls tl) I L (RR tl) := by
    intro h7
    have hm := hpl 2 h7 (by decide)
    unfold plnA at hm
    rw [if_neg (by omega), if_neg (by omega), if_pos h7] at hm
    have hw := wi 49 57 (by omega) (by omega)
    by_cases q : 49 ≤ c ∧ c ≤ 57
    · rw [if_pos q] at hm hw
      refine r_aload_n d_X8_nextRoom_137 rfl ?_
      refine r_getr d_X8_nextRoom_138 f_X8_79 (tt_139 _ _) (by decide) rfl (rr_139_38 _) ?_
      refine r_iload_n d_X8_nextRoom_141 rfl ?_
      refine r_iload_n d_X8_nextRoom_142 rfl ?_
      refine r_bipush d_X8_nextRoom_143 (by decide) ?_
      refine r_isub d_X8_nextRoom_145 ?_
      refine r_iastJ (j := (D 20 0).toNat - 1) d_X8_nextRoom_146 (tt_161 _ _) (by omega) (by omega) (by omega) (kk := ?_)
      refine r_iload_n d_X8_nextRoom_147 rfl ?_
      refine r_bipush d_X8_nextRoom_148 (by decide) ?_
      refine r_bipush d_X8_nextRoom_150 (by decide) ?_
      refine r_S3i d_X8_nextRoom_152 (w_X8_162 _ rfl) (hw _) (by decide) (Nat.le_of_ble_eq_true rfl) (fun z152 T152 I152 L152 R152 h152 => ?_)
      obtain ⟨rfl, rfl, rfl, rfl, rfl⟩ := h152
      refine r_if_eq d_X8_nextRoom_155 (by omega) (fun c155 => absurd c155 (by decide)) (fun c155 => ?_)
      refine r_iconst d_X8_nextRoom_158 ?_
      refine r_goto d_X8_nextRoom_159 ?_
      refine r_iret d_X8_nextRoom_163 rfl ?_
      exact NXT_ok (FHM_row FHM_rf (by omega)) hm rfl ⟨ARM_sc (ARM_161 hR) (by decide), nsa_no (s := 3) rfl (by decide)⟩
    · rw [if_neg q] at hm hw
      refine r_aload_n d_X8_nextRoom_137 rfl ?_
      refine r_getr d_X8_nextRoom_138 f_X8_79 (tt_139 _ _) (by decide) rfl (rr_139_38 _) ?_
      refine r_iload_n d_X8_nextRoom_141 rfl ?_
      refine r_iload_n d_X8_nextRoom_142 rfl ?_
      refine r_bipush d_X8_nextRoom_143 (by decide) ?_
      refine r_isub d_X8_nextRoom_145 ?_
      refine r_iastJ (j := (D 20 0).toNat - 1) d_X8_nextRoom_146 (tt_161 _ _) (by omega) (by omega) (by omega) (kk := ?_)
      refine r_iload_n d_X8_nextRoom_147 rfl ?_
      refine r_bipush d_X8_nextRoom_148 (by decide) ?_
      refine r_bipush d_X8_nextRoom_150 (by decide) ?_
      refine r_S3i d_X8_nextRoom_152 (w_X8_162 _ rfl) (hw _) (by decide) (Nat.le_of_ble_eq_true rfl) (fun z152 T152 I152 L152 R152 h152 => ?_)
      obtain ⟨rfl, rfl, rfl, rfl, rfl⟩ := h152
      refine r_if_eq d_X8_nextRoom_155 (by omega) (fun c155 => ?_) (fun c155 => absurd c155 (by decide))
      refine r_iconst d_X8_nextRoom_162 ?_
      refine r_iret d_X8_nextRoom_163 rfl ?_
      exact NXT_no (FHM_row FHM_rf (by omega)) hm
  have k3 : D 20 7 = 3 → Cp g 4 m_X8_nextRoom 0 0 (NXT D c Ls tl I L) 164 [(0, vr 139), (1, vi (D 20 7)), (2, vi c), (3, vi (D 20 0 - 1))] [] (TT Ls tl) I L (RR tl) := by
    intro h7
    have hm := hpl 3 h7 (by decide)
    unfold plnA at hm
    rw [if_neg (by omega), if_neg (by omega), if_neg (by omega), if_pos h7] at hm
    by_cases q : c = 103
    · rw [if_pos q] at hm
      refine r_aload_n d_X8_nextRoom_164 rfl ?_
      refine r_iconst d_X8_nextRoom_165 ?_
      refine r_bipush d_X8_nextRoom_166 (by decide) ?_
      refine r_V2v d_X8_nextRoom_168 (w_X8_182 _ rfl) (tt_139 _ _) rfl rfl (x_begin) (by decide) (Nat.le_of_ble_eq_true rfl) (fun T168 I168 L168 R168 h168 => ?_)
      obtain ⟨rfl, rfl, rfl, rfl⟩ := h168
      refine r_iload_n d_X8_nextRoom_171 rfl ?_
      refine r_bipush d_X8_nextRoom_172 (by decide) ?_
      refine r_icmp_ne d_X8_nextRoom_174 (by omega) (by omega) (fun c174 => absurd c174 (by omega)) (fun c174 => ?_)
      refine r_iconst d_X8_nextRoom_177 ?_
      refine r_goto d_X8_nextRoom_178 ?_
      refine r_iret d_X8_nextRoom_182 rfl ?_
      exact NXT_ok (FHM_sl (FHM_sl (FHM_sl FHM_rf (by omega)) (by omega)) (by omega)) hm rfl (AMX_bg hR)
    · rw [if_neg q] at hm
      refine r_aload_n d_X8_nextRoom_164 rfl ?_
      refine r_iconst d_X8_nextRoom_165 ?_
      refine r_bipush d_X8_nextRoom_166 (by decide) ?_
      refine r_V2v d_X8_nextRoom_168 (w_X8_182 _ rfl) (tt_139 _ _) rfl rfl (x_begin) (by decide) (Nat.le_of_ble_eq_true rfl) (fun T168 I168 L168 R168 h168 => ?_)
      obtain ⟨rfl, rfl, rfl, rfl⟩ := h168
      refine r_iload_n d_X8_nextRoom_171 rfl ?_
      refine r_bipush d_X8_nextRoom_172 (by decide) ?_
      refine r_icmp_ne d_X8_nextRoom_174 (by omega) (by omega) (fun c174 => ?_) (fun c174 => absurd c174 (by omega))
      refine r_iconst d_X8_nextRoom_181 ?_
      refine r_iret d_X8_nextRoom_182 rfl ?_
      exact NXT_no (FHM_sl (FHM_sl (FHM_sl FHM_rf (by omega)) (by omega)) (by omega)) hm
  have k5 : D 20 7 = 5 → Cp g 4 m_X8_nextRoom 0 0 (NXT D c Ls tl I L) 183 [(0, vr 139), (1, vi (D 20 7)), (2, vi c), (3, vi (D 20 0 - 1))] [] (TT Ls tl) I L (RR tl) := by
    intro h7
    have hm := hpl 5 h7 (by decide)
    unfold plnA at hm
    rw [if_neg (by omega), if_neg (by omega), if_neg (by omega), if_neg (by omega), if_pos h7] at hm
    have hw := wi 49 57 (by omega) (by omega)
    by_cases q : 49 ≤ c ∧ c ≤ 57
    · rw [if_pos q] at hm hw
      refine r_aload_n d_X8_nextRoom_183 rfl ?_
      refine r_getr d_X8_nextRoom_184 f_X8_88 (tt_139 _ _) (by decide) rfl (rr_139_41 _) ?_
      refine r_iload_n d_X8_nextRoom_187 rfl ?_
      refine r_iload_n d_X8_nextRoom_188 rfl ?_
      refine r_bipush d_X8_nextRoom_189 (by decide) ?_
      refine r_isub d_X8_nextRoom_191 ?_
      refine r_iastJ (j := (D 20 0).toNat - 1) d_X8_nextRoom_192 (tt_164 _ _) (by omega) (by omega) (by omega) (kk := ?_)
      refine r_iload_n d_X8_nextRoom_193 rfl ?_
      refine r_bipush d_X8_nextRoom_194 (by decide) ?_
      refine r_bipush d_X8_nextRoom_196 (by decide) ?_
      refine r_S3i d_X8_nextRoom_198 (w_X8_162 _ rfl) (hw _) (by decide) (Nat.le_of_ble_eq_true rfl) (fun z198 T198 I198 L198 R198 h198 => ?_)
      obtain ⟨rfl, rfl, rfl, rfl, rfl⟩ := h198
      refine r_if_eq d_X8_nextRoom_201 (by omega) (fun c201 => absurd c201 (by decide)) (fun c201 => ?_)
      refine r_bipush d_X8_nextRoom_204 (by decide) ?_
      refine r_goto d_X8_nextRoom_206 ?_
      refine r_iret d_X8_nextRoom_210 rfl ?_
      exact NXT_ok (FHM_row FHM_rf (by omega)) hm rfl ⟨ARM_sc (ARM_164 hR) (by decide), nsa_no (s := 6) rfl (by decide)⟩
    · rw [if_neg q] at hm hw
      refine r_aload_n d_X8_nextRoom_183 rfl ?_
      refine r_getr d_X8_nextRoom_184 f_X8_88 (tt_139 _ _) (by decide) rfl (rr_139_41 _) ?_
      refine r_iload_n d_X8_nextRoom_187 rfl ?_
      refine r_iload_n d_X8_nextRoom_188 rfl ?_
      refine r_bipush d_X8_nextRoom_189 (by decide) ?_
      refine r_isub d_X8_nextRoom_191 ?_
      refine r_iastJ (j := (D 20 0).toNat - 1) d_X8_nextRoom_192 (tt_164 _ _) (by omega) (by omega) (by omega) (kk := ?_)
      refine r_iload_n d_X8_nextRoom_193 rfl ?_
      refine r_bipush d_X8_nextRoom_194 (by decide) ?_
      refine r_bipush d_X8_nextRoom_196 (by decide) ?_
      refine r_S3i d_X8_nextRoom_198 (w_X8_162 _ rfl) (hw _) (by decide) (Nat.le_of_ble_eq_true rfl) (fun z198 T198 I198 L198 R198 h198 => ?_)
      obtain ⟨rfl, rfl, rfl, rfl, rfl⟩ := h198
      refine r_if_eq d_X8_nextRoom_201 (by omega) (fun c201 => ?_) (fun c201 => absurd c201 (by decide))
      refine r_iconst d_X8_nextRoom_209 ?_
      refine r_iret d_X8_nextRoom_210 rfl ?_
      exact NXT_no (FHM_row FHM_rf (by omega)) hm
  have k6 : D 20 7 = 6 → Cp g 4 m_X8_nextRoom 0 0 (NXT D c Ls tl I L) 211 [(0, vr 139), (1, vi (D 20 7)), (2, vi c), (3, vi (D 20 0 - 1))] [] (TT Ls tl) I L (RR tl) := by
    intro h7
    have hm := hpl 6 h7 (by decide)
    unfold plnA at hm
    rw [if_neg (by omega), if_neg (by omega), if_neg (by omega), if_neg (by omega), if_neg (by omega), if_pos h7] at hm
    have e162 : I 162 = D 3 := hR.1.2.2.2.1
    by_cases q : c = 103
    · rw [if_pos q] at hm
      refine r_aload_n d_X8_nextRoom_211 rfl ?_
      refine r_aload_n d_X8_nextRoom_212 rfl ?_
      refine r_getr d_X8_nextRoom_213 f_X8_82 (tt_139 _ _) (by decide) rfl (rr_139_39 _) ?_
      refine r_iload_n d_X8_nextRoom_216 rfl ?_
      refine r_ialdJ (j := (D 20 0).toNat - 1) d_X8_nextRoom_217 (tt_162 _ _) (by omega) (by omega) (kk := ?_)
      rw [e162]
      refine r_iconst d_X8_nextRoom_218 ?_
      refine r_iadd d_X8_nextRoom_219 ?_
      refine r_bipush d_X8_nextRoom_220 (by decide) ?_
      refine r_V2v d_X8_nextRoom_222 (w_X8_182 _ rfl) (tt_139 _ _) rfl rfl (x_begin) (by decide) (Nat.le_of_ble_eq_true rfl) (fun T222 I222 L222 R222 h222 => ?_)
      obtain ⟨rfl, rfl, rfl, rfl⟩ := h222
      refine r_iload_n d_X8_nextRoom_225 rfl ?_
      refine r_bipush d_X8_nextRoom_226 (by decide) ?_
      refine r_icmp_ne d_X8_nextRoom_228 (by omega) (by omega) (fun c228 => absurd c228 (by omega)) (fun c228 => ?_)
      refine r_bipush d_X8_nextRoom_231 (by decide) ?_
      refine r_goto d_X8_nextRoom_233 ?_
      refine r_iret d_X8_nextRoom_237 rfl ?_
      exact NXT_ok (FHM_sl (FHM_sl (FHM_sl FHM_rf (by omega)) (by omega)) (by omega)) hm rfl (AMX_bg hR)
    · rw [if_neg q] at hm
      refine r_aload_n d_X8_nextRoom_211 rfl ?_
      refine r_aload_n d_X8_nextRoom_212 rfl ?_
      refine r_getr d_X8_nextRoom_213 f_X8_82 (tt_139 _ _) (by decide) rfl (rr_139_39 _) ?_
      refine r_iload_n d_X8_nextRoom_216 rfl ?_
      refine r_ialdJ (j := (D 20 0).toNat - 1) d_X8_nextRoom_217 (tt_162 _ _) (by omega) (by omega) (kk := ?_)
      refine r_iconst d_X8_nextRoom_218 ?_
      refine r_iadd d_X8_nextRoom_219 ?_
      refine r_bipush d_X8_nextRoom_220 (by decide) ?_
      refine r_V2v d_X8_nextRoom_222 (w_X8_182 _ rfl) (tt_139 _ _) rfl rfl (x_begin) (by decide) (Nat.le_of_ble_eq_true rfl) (fun T222 I222 L222 R222 h222 => ?_)
      obtain ⟨rfl, rfl, rfl, rfl⟩ := h222
      refine r_iload_n d_X8_nextRoom_225 rfl ?_
      refine r_bipush d_X8_nextRoom_226 (by decide) ?_
      refine r_icmp_ne d_X8_nextRoom_228 (by omega) (by omega) (fun c228 => ?_) (fun c228 => absurd c228 (by omega))
      refine r_iconst d_X8_nextRoom_236 ?_
      refine r_iret d_X8_nextRoom_237 rfl ?_
      exact NXT_no (FHM_sl (FHM_sl (FHM_sl FHM_rf (by omega)) (by omega)) (by omega)) hm
  have k47 : D 20 7 = 4 ∨ D 20 7 = 7 → Cp g 4 m_X8_nextRoom 0 0 (NXT D c Ls tl I L) 238 [(0, vr 139), (1, vi (D 20 7)), (2, vi c), (3, vi (D 20 0 - 1))] [] (TT Ls tl) I L (RR tl) := by
    intro h7
    refine r_aload_n d_X8_nextRoom_238 rfl ?_
    refine r_iload_n d_X8_nextRoom_239 rfl ?_
    refine r_iload_n d_X8_nextRoom_240 rfl ?_
    refine r_V2i d_X8_nextRoom_241 (w_X8_186 _ rfl) (tt_139 _ _) rfl rfl (x_behindGone hA hV hc h7) (by decide) (Nat.le_of_ble_eq_true rfl) (fun z241 T241 I241 L241 R241 h241 => ?_)
    refine r_iret d_X8_nextRoom_244 rfl ?_
    exact ⟨_, rfl, h241⟩
  refine r_aload_n d_X8_nextRoom_0 rfl ?_
  refine r_geti d_X8_nextRoom_1 f_X8_179 (tt_139 _ _) (by decide) (by decide) ?_
  rw [e32]
  refine r_iconst d_X8_nextRoom_4 ?_
  refine r_isub d_X8_nextRoom_5 ?_
  refine r_istore_n d_X8_nextRoom_6 (by decide) ?_
  refine r_iload_n d_X8_nextRoom_7 rfl ?_
  refine r_sw d_X8_nextRoom_8 (by omega) (fun h1 h2 => ?_) (fun h => ?_)
  · have hcs : D 20 7 = 0 ∨ D 20 7 = 1 ∨ D 20 7 = 2 ∨ D 20 7 = 3 ∨ D 20 7 = 4 ∨ D 20 7 = 5 ∨ D 20 7 = 6 := by omega
    rcases hcs with hq | hq | hq | hq | hq | hq | hq
    · rw [show (D 20 7 - 0).toNat = 0 by omega]; exact CpL (k0 hq) (by repeat (first | exact trivial | refine ⟨rfl, ?_⟩))
    · rw [show (D 20 7 - 0).toNat = 1 by omega]; exact CpL (k1 hq) (by repeat (first | exact trivial | refine ⟨rfl, ?_⟩))
    · rw [show (D 20 7 - 0).toNat = 2 by omega]; exact CpL (k2 hq) (by repeat (first | exact trivial | refine ⟨rfl, ?_⟩))
    · rw [show (D 20 7 - 0).toNat = 3 by omega]; exact CpL (k3 hq) (by repeat (first | exact trivial | refine ⟨rfl, ?_⟩))
    · rw [show (D 20 7 - 0).toNat = 4 by omega]; exact CpL (k47 (Or.inl hq)) (by repeat (first | exact trivial | refine ⟨rfl, ?_⟩))
    · rw [show (D 20 7 - 0).toNat = 5 by omega]; exact CpL (k5 hq) (by repeat (first | exact trivial | refine ⟨rfl, ?_⟩))
    · rw [show (D 20 7 - 0).toNat = 6 by omega]; exact CpL (k6 hq) (by repeat (first | exact trivial | refine ⟨rfl, ?_⟩))
  · exact CpL (k47 (by omega)) (by repeat (first | exact trivial | refine ⟨rfl, ?_⟩))
end X9t
