/-! the reference: a letter of a woman, of a guest; reading a house -/
section X9u
variable {g : sG} {Ls : Nat} {tl : List Nat} {I L : sI} {D : Sg} {c : Int}
theorem x_nextWoman (hA : AMX D I) (hV : IVA D) (hc : 0 ≤ c ∧ c ≤ 126) (hs : 10 ≤ D 20 7 ∧ D 20 7 < 20) : Mc g 4 m_X8_nextWoman 0 0 [vr 139, vi (D 20 7), vi c] (TT Ls tl) I L (RR tl) (NXT D c Ls tl I L) := by
  refine Mc_of rfl (Nat.le_of_ble_eq_true rfl) ?_
  obtain ⟨hR, hN⟩ := id hA
  have hn := hV.1
  unfold IVN at hn
  obtain ⟨i0, i1, i2, i3, i7, i4, -, -⟩ := hn
  have e33 : I 139 33 = D 20 1 := hR.2.2.2.1
  have wi := fun (lo hi : Int) (h1 : -100 ≤ lo ∧ lo ≤ 200) (h2 : -100 ≤ hi ∧ hi ≤ 200) (J : sI) => x_within (g := g) (T := TT Ls tl) (I := J) (L := L) (R := RR tl) (a := c) (lo := lo) (hi := hi) (by omega) (by omega) (by omega)
  by_cases h10 : D 20 7 = 10
  · have hm : mstA D c = plnA D c := mst_pln (by omega)
    unfold plnA at hm
    rw [if_neg (by omega), if_neg (by omega), if_neg (by omega), if_neg (by omega), if_neg (by omega), if_neg (by omega), if_pos h10] at hm
    have hw := wi 49 54 (by omega) (by omega)
    by_cases q : 49 ≤ c ∧ c ≤ 54
    · rw [if_pos q] at hm hw
      refine r_iload_n d_X8_nextWoman_0 rfl ?_
      refine r_bipush d_X8_nextWoman_1 (by decide) ?_
      refine r_icmp_ne d_X8_nextWoman_3 (by omega) (by omega) (fun c3 => absurd c3 (by omega)) (fun c3 => ?_)
      refine r_aload_n d_X8_nextWoman_6 rfl ?_
      refine r_getr d_X8_nextWoman_7 f_X8_91 (tt_139 _ _) (by decide) rfl (rr_139_42 _) ?_
      refine r_aload_n d_X8_nextWoman_10 rfl ?_
      refine r_geti d_X8_nextWoman_11 f_X8_204 (tt_139 _ _) (by decide) (by decide) ?_
      rw [e33]
      refine r_iload_n d_X8_nextWoman_14 rfl ?_
      refine r_bipush d_X8_nextWoman_15 (by decide) ?_
      refine r_isub d_X8_nextWoman_17 ?_
      refine r_iastJ (j := (D 20 1).toNat) d_X8_nextWoman_18 (tt_165 _ _) (by omega) (by omega) (by omega) (kk := ?_)
      refine r_aload_n d_X8_nextWoman_19 rfl ?_
      refine r_dup d_X8_nextWoman_20 rfl ?_
      refine r_geti d_X8_nextWoman_21 f_X8_204 (tt_139 _ _) (by decide) (by decide) ?_
      rw [up2_ne _ _ (by decide), e33]
      refine r_iload_n d_X8_nextWoman_24 rfl ?_
      refine r_bipush d_X8_nextWoman_25 (by decide) ?_
      refine r_bipush d_X8_nextWoman_27 (by decide) ?_
      refine r_S3i d_X8_nextWoman_29 (w_X8_162 _ rfl) (hw _) (by decide) (Nat.le_of_ble_eq_true rfl) (fun z29 T29 I29 L29 R29 h29 => ?_)
      obtain ⟨rfl, rfl, rfl, rfl, rfl⟩ := h29
      refine r_if_eq d_X8_nextWoman_32 (by omega) (fun c32 => absurd c32 (by decide)) (fun c32 => ?_)
      refine r_iconst d_X8_nextWoman_35 ?_
      refine r_goto d_X8_nextWoman_36 ?_
      refine r_iadd d_X8_nextWoman_40 ?_
      refine r_puti d_X8_nextWoman_41 f_X8_204 (tt_139 _ _) (by decide) (Or.inl rfl) ?_
      refine r_iload_n d_X8_nextWoman_44 rfl ?_
      refine r_bipush d_X8_nextWoman_45 (by decide) ?_
      refine r_bipush d_X8_nextWoman_47 (by decide) ?_
      refine r_S3i d_X8_nextWoman_49 (w_X8_162 _ rfl) (hw _) (by decide) (Nat.le_of_ble_eq_true rfl) (fun z49 T49 I49 L49 R49 h49 => ?_)
      obtain ⟨rfl, rfl, rfl, rfl, rfl⟩ := h49
      refine r_if_eq d_X8_nextWoman_52 (by omega) (fun c52 => absurd c52 (by decide)) (fun c52 => ?_)
      refine r_bipush d_X8_nextWoman_55 (by decide) ?_
      refine r_goto d_X8_nextWoman_57 ?_
      refine r_iret d_X8_nextWoman_61 rfl ?_
      exact NXT_ok (FHM_sl (FHM_row FHM_rf (by omega)) (by omega)) hm rfl ⟨ARM_sc (ARM_cnt (j := 1) (ARM_165 hR) (by decide)) (by decide), nsa_no (s := 11) rfl (by decide)⟩
    · rw [if_neg q] at hm hw
      refine r_iload_n d_X8_nextWoman_0 rfl ?_
      refine r_bipush d_X8_nextWoman_1 (by decide) ?_
      refine r_icmp_ne d_X8_nextWoman_3 (by omega) (by omega) (fun c3 => absurd c3 (by omega)) (fun c3 => ?_)
      refine r_aload_n d_X8_nextWoman_6 rfl ?_
      refine r_getr d_X8_nextWoman_7 f_X8_91 (tt_139 _ _) (by decide) rfl (rr_139_42 _) ?_
      refine r_aload_n d_X8_nextWoman_10 rfl ?_
      refine r_geti d_X8_nextWoman_11 f_X8_204 (tt_139 _ _) (by decide) (by decide) ?_
      rw [e33]
      refine r_iload_n d_X8_nextWoman_14 rfl ?_
      refine r_bipush d_X8_nextWoman_15 (by decide) ?_
      refine r_isub d_X8_nextWoman_17 ?_
      refine r_iastJ (j := (D 20 1).toNat) d_X8_nextWoman_18 (tt_165 _ _) (by omega) (by omega) (by omega) (kk := ?_)
      refine r_aload_n d_X8_nextWoman_19 rfl ?_
      refine r_dup d_X8_nextWoman_20 rfl ?_
      refine r_geti d_X8_nextWoman_21 f_X8_204 (tt_139 _ _) (by decide) (by decide) ?_
      refine r_iload_n d_X8_nextWoman_24 rfl ?_
      refine r_bipush d_X8_nextWoman_25 (by decide) ?_
      refine r_bipush d_X8_nextWoman_27 (by decide) ?_
      refine r_S3i d_X8_nextWoman_29 (w_X8_162 _ rfl) (hw _) (by decide) (Nat.le_of_ble_eq_true rfl) (fun z29 T29 I29 L29 R29 h29 => ?_)
      obtain ⟨rfl, rfl, rfl, rfl, rfl⟩ := h29
      refine r_if_eq d_X8_nextWoman_32 (by omega) (fun c32 => ?_) (fun c32 => absurd c32 (by decide))
      refine r_iconst d_X8_nextWoman_39 ?_
      refine r_iadd d_X8_nextWoman_40 ?_
      refine r_puti d_X8_nextWoman_41 f_X8_204 (tt_139 _ _) (by decide) (Or.inl rfl) ?_
      refine r_iload_n d_X8_nextWoman_44 rfl ?_
      refine r_bipush d_X8_nextWoman_45 (by decide) ?_
      refine r_bipush d_X8_nextWoman_47 (by decide) ?_
      refine r_S3i d_X8_nextWoman_49 (w_X8_162 _ rfl) (hw _) (by decide) (Nat.le_of_ble_eq_true rfl) (fun z49 T49 I49 L49 R49 h49 => ?_)
      obtain ⟨rfl, rfl, rfl, rfl, rfl⟩ := h49
      refine r_if_eq d_X8_nextWoman_52 (by omega) (fun c52 => ?_) (fun c52 => absurd c52 (by decide))
      refine r_iconst d_X8_nextWoman_60 ?_
      refine r_iret d_X8_nextWoman_61 rfl ?_
      exact NXT_no (FHM_sl (FHM_row FHM_rf (by omega)) (by omega)) hm
  · by_cases h11 : D 20 7 = 11
    · have hm : mstA D c = plnA D c := mst_pln (by omega)
      unfold plnA at hm
      rw [if_neg (by omega), if_neg (by omega), if_neg (by omega), if_neg (by omega), if_neg (by omega), if_neg (by omega), if_neg (by omega), if_pos h11] at hm
      by_cases q : c = 102
      · rw [if_pos q] at hm
        refine r_iload_n d_X8_nextWoman_0 rfl ?_
        refine r_bipush d_X8_nextWoman_1 (by decide) ?_
        refine r_icmp_ne d_X8_nextWoman_3 (by omega) (by omega) (fun c3 => ?_) (fun c3 => absurd c3 (by omega))
        refine r_iload_n d_X8_nextWoman_62 rfl ?_
        refine r_bipush d_X8_nextWoman_63 (by decide) ?_
        refine r_icmp_ne d_X8_nextWoman_65 (by omega) (by omega) (fun c65 => absurd c65 (by omega)) (fun c65 => ?_)
        refine r_aload_n d_X8_nextWoman_68 rfl ?_
        refine r_iconst d_X8_nextWoman_69 ?_
        refine r_bipush d_X8_nextWoman_70 (by decide) ?_
        refine r_V2v d_X8_nextWoman_72 (w_X8_182 _ rfl) (tt_139 _ _) rfl rfl (x_begin) (by decide) (Nat.le_of_ble_eq_true rfl) (fun T72 I72 L72 R72 h72 => ?_)
        obtain ⟨rfl, rfl, rfl, rfl⟩ := h72
        refine r_iload_n d_X8_nextWoman_75 rfl ?_
        refine r_bipush d_X8_nextWoman_76 (by decide) ?_
        refine r_icmp_ne d_X8_nextWoman_78 (by omega) (by omega) (fun c78 => absurd c78 (by omega)) (fun c78 => ?_)
        refine r_bipush d_X8_nextWoman_81 (by decide) ?_
        refine r_goto d_X8_nextWoman_83 ?_
        refine r_iret d_X8_nextWoman_87 rfl ?_
        exact NXT_ok (FHM_sl (FHM_sl (FHM_sl FHM_rf (by omega)) (by omega)) (by omega)) hm rfl (AMX_bg hR)
      · rw [if_neg q] at hm
        refine r_iload_n d_X8_nextWoman_0 rfl ?_
        refine r_bipush d_X8_nextWoman_1 (by decide) ?_
        refine r_icmp_ne d_X8_nextWoman_3 (by omega) (by omega) (fun c3 => ?_) (fun c3 => absurd c3 (by omega))
        refine r_iload_n d_X8_nextWoman_62 rfl ?_
        refine r_bipush d_X8_nextWoman_63 (by decide) ?_
        refine r_icmp_ne d_X8_nextWoman_65 (by omega) (by omega) (fun c65 => absurd c65 (by omega)) (fun c65 => ?_)
        refine r_aload_n d_X8_nextWoman_68 rfl ?_
        refine r_iconst d_X8_nextWoman_69 ?_
        refine r_bipush d_X8_nextWoman_70 (by decide) ?_
        refine r_V2v d_X8_nextWoman_72 (w_X8_182 _ rfl) (tt_139 _ _) rfl rfl (x_begin) (by decide) (Nat.le_of_ble_eq_true rfl) (fun T72 I72 L72 R72 h72 => ?_)
        obtain ⟨rfl, rfl, rfl, rfl⟩ := h72
        refine r_iload_n d_X8_nextWoman_75 rfl ?_
        refine r_bipush d_X8_nextWoman_76 (by decide) ?_
        refine r_icmp_ne d_X8_nextWoman_78 (by omega) (by omega) (fun c78 => ?_) (fun c78 => absurd c78 (by omega))
        refine r_iconst d_X8_nextWoman_86 ?_
        refine r_iret d_X8_nextWoman_87 rfl ?_
        exact NXT_no (FHM_sl (FHM_sl (FHM_sl FHM_rf (by omega)) (by omega)) (by omega)) hm
    · have hns : NSA D := by omega
      have hN := hN hns
      have i4 := i4 hns
      have e49 := hN.1
      have hft := x_fits (g := g) (Ls := Ls) (tl := tl) (L := L) hN i4 hc
      by_cases hf : ftA D c = true
      · rw [if_pos hf] at hft
        refine r_iload_n d_X8_nextWoman_0 rfl ?_
        refine r_bipush d_X8_nextWoman_1 (by decide) ?_
        refine r_icmp_ne d_X8_nextWoman_3 (by omega) (by omega) (fun c3 => ?_) (fun c3 => absurd c3 (by omega))
        refine r_iload_n d_X8_nextWoman_62 rfl ?_
        refine r_bipush d_X8_nextWoman_63 (by decide) ?_
        refine r_icmp_ne d_X8_nextWoman_65 (by omega) (by omega) (fun c65 => ?_) (fun c65 => absurd c65 (by omega))
        refine r_aload_n d_X8_nextWoman_88 rfl ?_
        refine r_iload_n d_X8_nextWoman_89 rfl ?_
        refine r_V1i d_X8_nextWoman_90 (w_X8_190 _ rfl) (tt_139 _ _) rfl rfl (hft) (by decide) (Nat.le_of_ble_eq_true rfl) (fun z90 T90 I90 L90 R90 h90 => ?_)
        obtain ⟨rfl, rfl, rfl, rfl, rfl⟩ := h90
        refine r_if_eq d_X8_nextWoman_93 (by omega) (fun c93 => absurd c93 (by decide)) (fun c93 => ?_)
        refine r_aload_n d_X8_nextWoman_96 rfl ?_
        refine r_iload_n d_X8_nextWoman_97 rfl ?_
        refine r_V1v d_X8_nextWoman_98 (w_X8_193 _ rfl) (tt_139 _ _) rfl rfl (x_grow hN i4.1) (by decide) (Nat.le_of_ble_eq_true rfl) (fun T98 I98 L98 R98 h98 => ?_)
        obtain ⟨rfl, rfl, rfl, rfl⟩ := h98
        refine r_iload_n d_X8_nextWoman_101 rfl ?_
        refine r_iret d_X8_nextWoman_102 rfl ?_
        exact NXT_ok (FHM_sl FHM_rf (by omega)) (mst_ft hns hf) rfl (AMX_gw hR hN)
      · rw [if_neg hf] at hft
        have hf2 : ftA D c = false := Bool.eq_false_iff.mpr hf
        have hnu := x_isNumber (g := g) (Ls := Ls) (tl := tl) (L := L) hN.1 hN.2.1 (by unfold i32; omega) (by unfold i32; omega)
        by_cases hv : D 20 4 < D 20 5
        · rw [if_pos hv] at hnu
          refine r_iload_n d_X8_nextWoman_0 rfl ?_
          refine r_bipush d_X8_nextWoman_1 (by decide) ?_
          refine r_icmp_ne d_X8_nextWoman_3 (by omega) (by omega) (fun c3 => ?_) (fun c3 => absurd c3 (by omega))
          refine r_iload_n d_X8_nextWoman_62 rfl ?_
          refine r_bipush d_X8_nextWoman_63 (by decide) ?_
          refine r_icmp_ne d_X8_nextWoman_65 (by omega) (by omega) (fun c65 => ?_) (fun c65 => absurd c65 (by omega))
          refine r_aload_n d_X8_nextWoman_88 rfl ?_
          refine r_iload_n d_X8_nextWoman_89 rfl ?_
          refine r_V1i d_X8_nextWoman_90 (w_X8_190 _ rfl) (tt_139 _ _) rfl rfl (hft) (by decide) (Nat.le_of_ble_eq_true rfl) (fun z90 T90 I90 L90 R90 h90 => ?_)
          obtain ⟨rfl, rfl, rfl, rfl, rfl⟩ := h90
          refine r_if_eq d_X8_nextWoman_93 (by omega) (fun c93 => ?_) (fun c93 => absurd c93 (by decide))
          refine r_aload_n d_X8_nextWoman_103 rfl ?_
          refine r_V0i d_X8_nextWoman_104 (w_X8_197 _ rfl) (tt_139 _ _) rfl rfl (hnu) (by decide) (Nat.le_of_ble_eq_true rfl) (fun z104 T104 I104 L104 R104 h104 => ?_)
          obtain ⟨rfl, rfl, rfl, rfl, rfl⟩ := h104
          refine r_if_ne d_X8_nextWoman_107 (by omega) (fun c107 => absurd c107 (by decide)) (fun c107 => ?_)
          refine r_iconst d_X8_nextWoman_110 ?_
          refine r_iret d_X8_nextWoman_111 rfl ?_
          exact NXT_no FHM_rf (mst_no hns hf2 hv)
        · rw [if_neg hv] at hnu
          have hme := mst_end hns hf2 hv
          unfold endA at hme
          rw [if_neg (by omega)] at hme
          by_cases h12 : D 20 7 = 12
          · rw [if_pos h12] at hme
            by_cases q : c = 116
            · rw [if_pos q] at hme
              refine r_iload_n d_X8_nextWoman_0 rfl ?_
              refine r_bipush d_X8_nextWoman_1 (by decide) ?_
              refine r_icmp_ne d_X8_nextWoman_3 (by omega) (by omega) (fun c3 => ?_) (fun c3 => absurd c3 (by omega))
              refine r_iload_n d_X8_nextWoman_62 rfl ?_
              refine r_bipush d_X8_nextWoman_63 (by decide) ?_
              refine r_icmp_ne d_X8_nextWoman_65 (by omega) (by omega) (fun c65 => ?_) (fun c65 => absurd c65 (by omega))
              refine r_aload_n d_X8_nextWoman_88 rfl ?_
              refine r_iload_n d_X8_nextWoman_89 rfl ?_
              refine r_V1i d_X8_nextWoman_90 (w_X8_190 _ rfl) (tt_139 _ _) rfl rfl (hft) (by decide) (Nat.le_of_ble_eq_true rfl) (fun z90 T90 I90 L90 R90 h90 => ?_)
              obtain ⟨rfl, rfl, rfl, rfl, rfl⟩ := h90
              refine r_if_eq d_X8_nextWoman_93 (by omega) (fun c93 => ?_) (fun c93 => absurd c93 (by decide))
              refine r_aload_n d_X8_nextWoman_103 rfl ?_
              refine r_V0i d_X8_nextWoman_104 (w_X8_197 _ rfl) (tt_139 _ _) rfl rfl (hnu) (by decide) (Nat.le_of_ble_eq_true rfl) (fun z104 T104 I104 L104 R104 h104 => ?_)
              obtain ⟨rfl, rfl, rfl, rfl, rfl⟩ := h104
              refine r_if_ne d_X8_nextWoman_107 (by omega) (fun c107 => ?_) (fun c107 => absurd c107 (by decide))
              refine r_aload_n d_X8_nextWoman_112 rfl ?_
              refine r_geti d_X8_nextWoman_113 f_X8_204 (tt_139 _ _) (by decide) (by decide) ?_
              rw [e33]
              refine r_iconst d_X8_nextWoman_116 ?_
              refine r_isub d_X8_nextWoman_117 ?_
              refine r_istore_n d_X8_nextWoman_118 (by decide) ?_
              refine r_iload_n d_X8_nextWoman_119 rfl ?_
              refine r_bipush d_X8_nextWoman_120 (by decide) ?_
              refine r_icmp_ne d_X8_nextWoman_122 (by omega) (by omega) (fun c122 => absurd c122 (by omega)) (fun c122 => ?_)
              refine r_aload_n d_X8_nextWoman_125 rfl ?_
              refine r_getr d_X8_nextWoman_126 f_X8_94 (tt_139 _ _) (by decide) rfl (rr_139_43 _) ?_
              refine r_iload_n d_X8_nextWoman_129 rfl ?_
              refine r_aload_n d_X8_nextWoman_130 rfl ?_
              refine r_geti d_X8_nextWoman_131 f_X8_166 (tt_139 _ _) (by decide) (by decide) ?_
              rw [e49]
              refine r_iastJ (j := (D 20 1).toNat - 1) d_X8_nextWoman_134 (tt_166 _ _) (by omega) (by omega) (by omega) (kk := ?_)
              refine r_aload_n d_X8_nextWoman_135 rfl ?_
              refine r_aload_n d_X8_nextWoman_136 rfl ?_
              refine r_geti d_X8_nextWoman_137 f_X8_166 (tt_139 _ _) (by decide) (by decide) ?_
              rw [up2_ne _ _ (by decide), e49]
              refine r_iconst d_X8_nextWoman_140 ?_
              refine r_iadd d_X8_nextWoman_141 ?_
              refine r_bipush d_X8_nextWoman_142 (by decide) ?_
              refine r_V2v d_X8_nextWoman_144 (w_X8_182 _ rfl) (tt_139 _ _) rfl rfl (x_begin) (by decide) (Nat.le_of_ble_eq_true rfl) (fun T144 I144 L144 R144 h144 => ?_)
              obtain ⟨rfl, rfl, rfl, rfl⟩ := h144
              refine r_iload_n d_X8_nextWoman_147 rfl ?_
              refine r_bipush d_X8_nextWoman_148 (by decide) ?_
              refine r_icmp_ne d_X8_nextWoman_150 (by omega) (by omega) (fun c150 => absurd c150 (by omega)) (fun c150 => ?_)
              refine r_bipush d_X8_nextWoman_153 (by decide) ?_
              refine r_goto d_X8_nextWoman_155 ?_
              refine r_iret d_X8_nextWoman_159 rfl ?_
              exact NXT_ok (FHM_sl (FHM_sl (FHM_sl (FHM_row FHM_rf (by omega)) (by omega)) (by omega)) (by omega)) hme rfl (AMX_bg (ARM_166 hR))
            · rw [if_neg q] at hme
              refine r_iload_n d_X8_nextWoman_0 rfl ?_
              refine r_bipush d_X8_nextWoman_1 (by decide) ?_
              refine r_icmp_ne d_X8_nextWoman_3 (by omega) (by omega) (fun c3 => ?_) (fun c3 => absurd c3 (by omega))
              refine r_iload_n d_X8_nextWoman_62 rfl ?_
              refine r_bipush d_X8_nextWoman_63 (by decide) ?_
              refine r_icmp_ne d_X8_nextWoman_65 (by omega) (by omega) (fun c65 => ?_) (fun c65 => absurd c65 (by omega))
              refine r_aload_n d_X8_nextWoman_88 rfl ?_
              refine r_iload_n d_X8_nextWoman_89 rfl ?_
              refine r_V1i d_X8_nextWoman_90 (w_X8_190 _ rfl) (tt_139 _ _) rfl rfl (hft) (by decide) (Nat.le_of_ble_eq_true rfl) (fun z90 T90 I90 L90 R90 h90 => ?_)
              obtain ⟨rfl, rfl, rfl, rfl, rfl⟩ := h90
              refine r_if_eq d_X8_nextWoman_93 (by omega) (fun c93 => ?_) (fun c93 => absurd c93 (by decide))
              refine r_aload_n d_X8_nextWoman_103 rfl ?_
              refine r_V0i d_X8_nextWoman_104 (w_X8_197 _ rfl) (tt_139 _ _) rfl rfl (hnu) (by decide) (Nat.le_of_ble_eq_true rfl) (fun z104 T104 I104 L104 R104 h104 => ?_)
              obtain ⟨rfl, rfl, rfl, rfl, rfl⟩ := h104
              refine r_if_ne d_X8_nextWoman_107 (by omega) (fun c107 => ?_) (fun c107 => absurd c107 (by decide))
              refine r_aload_n d_X8_nextWoman_112 rfl ?_
              refine r_geti d_X8_nextWoman_113 f_X8_204 (tt_139 _ _) (by decide) (by decide) ?_
              rw [e33]
              refine r_iconst d_X8_nextWoman_116 ?_
              refine r_isub d_X8_nextWoman_117 ?_
              refine r_istore_n d_X8_nextWoman_118 (by decide) ?_
              refine r_iload_n d_X8_nextWoman_119 rfl ?_
              refine r_bipush d_X8_nextWoman_120 (by decide) ?_
              refine r_icmp_ne d_X8_nextWoman_122 (by omega) (by omega) (fun c122 => absurd c122 (by omega)) (fun c122 => ?_)
              refine r_aload_n d_X8_nextWoman_125 rfl ?_
              refine r_getr d_X8_nextWoman_126 f_X8_94 (tt_139 _ _) (by decide) rfl (rr_139_43 _) ?_
              refine r_iload_n d_X8_nextWoman_129 rfl ?_
              refine r_aload_n d_X8_nextWoman_130 rfl ?_
              refine r_geti d_X8_nextWoman_131 f_X8_166 (tt_139 _ _) (by decide) (by decide) ?_
              refine r_iastJ (j := (D 20 1).toNat - 1) d_X8_nextWoman_134 (tt_166 _ _) (by omega) (by omega) (by omega) (kk := ?_)
              refine r_aload_n d_X8_nextWoman_135 rfl ?_
              refine r_aload_n d_X8_nextWoman_136 rfl ?_
              refine r_geti d_X8_nextWoman_137 f_X8_166 (tt_139 _ _) (by decide) (by decide) ?_
              refine r_iconst d_X8_nextWoman_140 ?_
              refine r_iadd d_X8_nextWoman_141 ?_
              refine r_bipush d_X8_nextWoman_142 (by decide) ?_
              refine r_V2v d_X8_nextWoman_144 (w_X8_182 _ rfl) (tt_139 _ _) rfl rfl (x_begin) (by decide) (Nat.le_of_ble_eq_true rfl) (fun T144 I144 L144 R144 h144 => ?_)
              obtain ⟨rfl, rfl, rfl, rfl⟩ := h144
              refine r_iload_n d_X8_nextWoman_147 rfl ?_
              refine r_bipush d_X8_nextWoman_148 (by decide) ?_
              refine r_icmp_ne d_X8_nextWoman_150 (by omega) (by omega) (fun c150 => ?_) (fun c150 => absurd c150 (by omega))
              refine r_iconst d_X8_nextWoman_158 ?_
              refine r_iret d_X8_nextWoman_159 rfl ?_
              exact NXT_no (FHM_sl (FHM_sl (FHM_sl (FHM_row FHM_rf (by omega)) (by omega)) (by omega)) (by omega)) hme
          · have h14 : D 20 7 = 14 := by omega
            rw [if_neg h12, if_pos h14] at hme
            by_cases q : c = 44
            · rw [if_pos q] at hme
              by_cases q2 : D 20 1 < 3
              · rw [if_pos q2] at hme
                refine r_iload_n d_X8_nextWoman_0 rfl ?_
                refine r_bipush d_X8_nextWoman_1 (by decide) ?_
                refine r_icmp_ne d_X8_nextWoman_3 (by omega) (by omega) (fun c3 => ?_) (fun c3 => absurd c3 (by omega))
                refine r_iload_n d_X8_nextWoman_62 rfl ?_
                refine r_bipush d_X8_nextWoman_63 (by decide) ?_
                refine r_icmp_ne d_X8_nextWoman_65 (by omega) (by omega) (fun c65 => ?_) (fun c65 => absurd c65 (by omega))
                refine r_aload_n d_X8_nextWoman_88 rfl ?_
                refine r_iload_n d_X8_nextWoman_89 rfl ?_
                refine r_V1i d_X8_nextWoman_90 (w_X8_190 _ rfl) (tt_139 _ _) rfl rfl (hft) (by decide) (Nat.le_of_ble_eq_true rfl) (fun z90 T90 I90 L90 R90 h90 => ?_)
                obtain ⟨rfl, rfl, rfl, rfl, rfl⟩ := h90
                refine r_if_eq d_X8_nextWoman_93 (by omega) (fun c93 => ?_) (fun c93 => absurd c93 (by decide))
                refine r_aload_n d_X8_nextWoman_103 rfl ?_
                refine r_V0i d_X8_nextWoman_104 (w_X8_197 _ rfl) (tt_139 _ _) rfl rfl (hnu) (by decide) (Nat.le_of_ble_eq_true rfl) (fun z104 T104 I104 L104 R104 h104 => ?_)
                obtain ⟨rfl, rfl, rfl, rfl, rfl⟩ := h104
                refine r_if_ne d_X8_nextWoman_107 (by omega) (fun c107 => ?_) (fun c107 => absurd c107 (by decide))
                refine r_aload_n d_X8_nextWoman_112 rfl ?_
                refine r_geti d_X8_nextWoman_113 f_X8_204 (tt_139 _ _) (by decide) (by decide) ?_
                rw [e33]
                refine r_iconst d_X8_nextWoman_116 ?_
                refine r_isub d_X8_nextWoman_117 ?_
                refine r_istore_n d_X8_nextWoman_118 (by decide) ?_
                refine r_iload_n d_X8_nextWoman_119 rfl ?_
                refine r_bipush d_X8_nextWoman_120 (by decide) ?_
                refine r_icmp_ne d_X8_nextWoman_122 (by omega) (by omega) (fun c122 => ?_) (fun c122 => absurd c122 (by omega))
                refine r_aload_n d_X8_nextWoman_160 rfl ?_
                refine r_getr d_X8_nextWoman_161 f_X8_97 (tt_139 _ _) (by decide) rfl (rr_139_44 _) ?_
                refine r_iload_n d_X8_nextWoman_164 rfl ?_
                refine r_aload_n d_X8_nextWoman_165 rfl ?_
                refine r_geti d_X8_nextWoman_166 f_X8_166 (tt_139 _ _) (by decide) (by decide) ?_
                rw [e49]
                refine r_iastJ (j := (D 20 1).toNat - 1) d_X8_nextWoman_169 (tt_167 _ _) (by omega) (by omega) (by omega) (kk := ?_)
                refine r_iload_n d_X8_nextWoman_170 rfl ?_
                refine r_bipush d_X8_nextWoman_171 (by decide) ?_
                refine r_icmp_ne d_X8_nextWoman_173 (by omega) (by omega) (fun c173 => absurd c173 (by omega)) (fun c173 => ?_)
                refine r_aload_n d_X8_nextWoman_176 rfl ?_
                refine r_geti d_X8_nextWoman_177 f_X8_204 (tt_139 _ _) (by decide) (by decide) ?_
                rw [up2_ne _ _ (by decide), e33]
                refine r_iconst d_X8_nextWoman_180 ?_
                refine r_icmp_ge d_X8_nextWoman_181 (by omega) (by omega) (fun c181 => absurd c181 (by omega)) (fun c181 => ?_)
                refine r_bipush d_X8_nextWoman_184 (by decide) ?_
                refine r_goto d_X8_nextWoman_186 ?_
                refine r_iret d_X8_nextWoman_190 rfl ?_
                exact NXT_ok (FHM_row FHM_rf (by omega)) hme rfl ⟨ARM_sc (ARM_167 hR) (by decide), nsa_no (s := 10) rfl (by decide)⟩
              · rw [if_neg q2] at hme
                refine r_iload_n d_X8_nextWoman_0 rfl ?_
                refine r_bipush d_X8_nextWoman_1 (by decide) ?_
                refine r_icmp_ne d_X8_nextWoman_3 (by omega) (by omega) (fun c3 => ?_) (fun c3 => absurd c3 (by omega))
                refine r_iload_n d_X8_nextWoman_62 rfl ?_
                refine r_bipush d_X8_nextWoman_63 (by decide) ?_
                refine r_icmp_ne d_X8_nextWoman_65 (by omega) (by omega) (fun c65 => ?_) (fun c65 => absurd c65 (by omega))
                refine r_aload_n d_X8_nextWoman_88 rfl ?_
                refine r_iload_n d_X8_nextWoman_89 rfl ?_
                refine r_V1i d_X8_nextWoman_90 (w_X8_190 _ rfl) (tt_139 _ _) rfl rfl (hft) (by decide) (Nat.le_of_ble_eq_true rfl) (fun z90 T90 I90 L90 R90 h90 => ?_)
                obtain ⟨rfl, rfl, rfl, rfl, rfl⟩ := h90
                refine r_if_eq d_X8_nextWoman_93 (by omega) (fun c93 => ?_) (fun c93 => absurd c93 (by decide))
                refine r_aload_n d_X8_nextWoman_103 rfl ?_
                refine r_V0i d_X8_nextWoman_104 (w_X8_197 _ rfl) (tt_139 _ _) rfl rfl (hnu) (by decide) (Nat.le_of_ble_eq_true rfl) (fun z104 T104 I104 L104 R104 h104 => ?_)
                obtain ⟨rfl, rfl, rfl, rfl, rfl⟩ := h104
                refine r_if_ne d_X8_nextWoman_107 (by omega) (fun c107 => ?_) (fun c107 => absurd c107 (by decide))
                refine r_aload_n d_X8_nextWoman_112 rfl ?_
                refine r_geti d_X8_nextWoman_113 f_X8_204 (tt_139 _ _) (by decide) (by decide) ?_
                rw [e33]
                refine r_iconst d_X8_nextWoman_116 ?_
                refine r_isub d_X8_nextWoman_117 ?_
                refine r_istore_n d_X8_nextWoman_118 (by decide) ?_
                refine r_iload_n d_X8_nextWoman_119 rfl ?_
                refine r_bipush d_X8_nextWoman_120 (by decide) ?_
                refine r_icmp_ne d_X8_nextWoman_122 (by omega) (by omega) (fun c122 => ?_) (fun c122 => absurd c122 (by omega))
                refine r_aload_n d_X8_nextWoman_160 rfl ?_
                refine r_getr d_X8_nextWoman_161 f_X8_97 (tt_139 _ _) (by decide) rfl (rr_139_44 _) ?_
                refine r_iload_n d_X8_nextWoman_164 rfl ?_
                refine r_aload_n d_X8_nextWoman_165 rfl ?_
                refine r_geti d_X8_nextWoman_166 f_X8_166 (tt_139 _ _) (by decide) (by decide) ?_
                rw [e49]
                refine r_iastJ (j := (D 20 1).toNat - 1) d_X8_nextWoman_169 (tt_167 _ _) (by omega) (by omega) (by omega) (kk := ?_)
                refine r_iload_n d_X8_nextWoman_170 rfl ?_
                refine r_bipush d_X8_nextWoman_171 (by decide) ?_
                refine r_icmp_ne d_X8_nextWoman_173 (by omega) (by omega) (fun c173 => absurd c173 (by omega)) (fun c173 => ?_)
                refine r_aload_n d_X8_nextWoman_176 rfl ?_
                refine r_geti d_X8_nextWoman_177 f_X8_204 (tt_139 _ _) (by decide) (by decide) ?_
                rw [up2_ne _ _ (by decide), e33]
                refine r_iconst d_X8_nextWoman_180 ?_
                refine r_icmp_ge d_X8_nextWoman_181 (by omega) (by omega) (fun c181 => ?_) (fun c181 => absurd c181 (by omega))
                refine r_iconst d_X8_nextWoman_189 ?_
                refine r_iret d_X8_nextWoman_190 rfl ?_
                exact NXT_no (FHM_row FHM_rf (by omega)) hme
            · rw [if_neg q] at hme
              by_cases q2 : c = 59
              · rw [if_pos q2] at hme
                refine r_iload_n d_X8_nextWoman_0 rfl ?_
                refine r_bipush d_X8_nextWoman_1 (by decide) ?_
                refine r_icmp_ne d_X8_nextWoman_3 (by omega) (by omega) (fun c3 => ?_) (fun c3 => absurd c3 (by omega))
                refine r_iload_n d_X8_nextWoman_62 rfl ?_
                refine r_bipush d_X8_nextWoman_63 (by decide) ?_
                refine r_icmp_ne d_X8_nextWoman_65 (by omega) (by omega) (fun c65 => ?_) (fun c65 => absurd c65 (by omega))
                refine r_aload_n d_X8_nextWoman_88 rfl ?_
                refine r_iload_n d_X8_nextWoman_89 rfl ?_
                refine r_V1i d_X8_nextWoman_90 (w_X8_190 _ rfl) (tt_139 _ _) rfl rfl (hft) (by decide) (Nat.le_of_ble_eq_true rfl) (fun z90 T90 I90 L90 R90 h90 => ?_)
                obtain ⟨rfl, rfl, rfl, rfl, rfl⟩ := h90
                refine r_if_eq d_X8_nextWoman_93 (by omega) (fun c93 => ?_) (fun c93 => absurd c93 (by decide))
                refine r_aload_n d_X8_nextWoman_103 rfl ?_
                refine r_V0i d_X8_nextWoman_104 (w_X8_197 _ rfl) (tt_139 _ _) rfl rfl (hnu) (by decide) (Nat.le_of_ble_eq_true rfl) (fun z104 T104 I104 L104 R104 h104 => ?_)
                obtain ⟨rfl, rfl, rfl, rfl, rfl⟩ := h104
                refine r_if_ne d_X8_nextWoman_107 (by omega) (fun c107 => ?_) (fun c107 => absurd c107 (by decide))
                refine r_aload_n d_X8_nextWoman_112 rfl ?_
                refine r_geti d_X8_nextWoman_113 f_X8_204 (tt_139 _ _) (by decide) (by decide) ?_
                rw [e33]
                refine r_iconst d_X8_nextWoman_116 ?_
                refine r_isub d_X8_nextWoman_117 ?_
                refine r_istore_n d_X8_nextWoman_118 (by decide) ?_
                refine r_iload_n d_X8_nextWoman_119 rfl ?_
                refine r_bipush d_X8_nextWoman_120 (by decide) ?_
                refine r_icmp_ne d_X8_nextWoman_122 (by omega) (by omega) (fun c122 => ?_) (fun c122 => absurd c122 (by omega))
                refine r_aload_n d_X8_nextWoman_160 rfl ?_
                refine r_getr d_X8_nextWoman_161 f_X8_97 (tt_139 _ _) (by decide) rfl (rr_139_44 _) ?_
                refine r_iload_n d_X8_nextWoman_164 rfl ?_
                refine r_aload_n d_X8_nextWoman_165 rfl ?_
                refine r_geti d_X8_nextWoman_166 f_X8_166 (tt_139 _ _) (by decide) (by decide) ?_
                rw [e49]
                refine r_iastJ (j := (D 20 1).toNat - 1) d_X8_nextWoman_169 (tt_167 _ _) (by omega) (by omega) (by omega) (kk := ?_)
                refine r_iload_n d_X8_nextWoman_170 rfl ?_
                refine r_bipush d_X8_nextWoman_171 (by decide) ?_
                refine r_icmp_ne d_X8_nextWoman_173 (by omega) (by omega) (fun c173 => ?_) (fun c173 => absurd c173 (by omega))
                refine r_aload_n d_X8_nextWoman_191 rfl ?_
                refine r_iconst d_X8_nextWoman_192 ?_
                refine r_bipush d_X8_nextWoman_193 (by decide) ?_
                refine r_V2v d_X8_nextWoman_195 (w_X8_182 _ rfl) (tt_139 _ _) rfl rfl (x_begin) (by decide) (Nat.le_of_ble_eq_true rfl) (fun T195 I195 L195 R195 h195 => ?_)
                obtain ⟨rfl, rfl, rfl, rfl⟩ := h195
                refine r_iload_n d_X8_nextWoman_198 rfl ?_
                refine r_bipush d_X8_nextWoman_199 (by decide) ?_
                refine r_icmp_ne d_X8_nextWoman_201 (by omega) (by omega) (fun c201 => absurd c201 (by omega)) (fun c201 => ?_)
                refine r_bipush d_X8_nextWoman_204 (by decide) ?_
                refine r_goto d_X8_nextWoman_206 ?_
                refine r_iret d_X8_nextWoman_210 rfl ?_
                exact NXT_ok (FHM_sl (FHM_sl (FHM_sl (FHM_row FHM_rf (by omega)) (by omega)) (by omega)) (by omega)) hme rfl (AMX_bg (ARM_167 hR))
              · rw [if_neg q2] at hme
                refine r_iload_n d_X8_nextWoman_0 rfl ?_
                refine r_bipush d_X8_nextWoman_1 (by decide) ?_
                refine r_icmp_ne d_X8_nextWoman_3 (by omega) (by omega) (fun c3 => ?_) (fun c3 => absurd c3 (by omega))
                refine r_iload_n d_X8_nextWoman_62 rfl ?_
                refine r_bipush d_X8_nextWoman_63 (by decide) ?_
                refine r_icmp_ne d_X8_nextWoman_65 (by omega) (by omega) (fun c65 => ?_) (fun c65 => absurd c65 (by omega))
                refine r_aload_n d_X8_nextWoman_88 rfl ?_
                refine r_iload_n d_X8_nextWoman_89 rfl ?_
                refine r_V1i d_X8_nextWoman_90 (w_X8_190 _ rfl) (tt_139 _ _) rfl rfl (hft) (by decide) (Nat.le_of_ble_eq_true rfl) (fun z90 T90 I90 L90 R90 h90 => ?_)
                obtain ⟨rfl, rfl, rfl, rfl, rfl⟩ := h90
                refine r_if_eq d_X8_nextWoman_93 (by omega) (fun c93 => ?_) (fun c93 => absurd c93 (by decide))
                refine r_aload_n d_X8_nextWoman_103 rfl ?_
                refine r_V0i d_X8_nextWoman_104 (w_X8_197 _ rfl) (tt_139 _ _) rfl rfl (hnu) (by decide) (Nat.le_of_ble_eq_true rfl) (fun z104 T104 I104 L104 R104 h104 => ?_)
                obtain ⟨rfl, rfl, rfl, rfl, rfl⟩ := h104
                refine r_if_ne d_X8_nextWoman_107 (by omega) (fun c107 => ?_) (fun c107 => absurd c107 (by decide))
                refine r_aload_n d_X8_nextWoman_112 rfl ?_
                refine r_geti d_X8_nextWoman_113 f_X8_204 (tt_139 _ _) (by decide) (by decide) ?_
                rw [e33]
                refine r_iconst d_X8_nextWoman_116 ?_
                refine r_isub d_X8_nextWoman_117 ?_
                refine r_istore_n d_X8_nextWoman_118 (by decide) ?_
                refine r_iload_n d_X8_nextWoman_119 rfl ?_
                refine r_bipush d_X8_nextWoman_120 (by decide) ?_
                refine r_icmp_ne d_X8_nextWoman_122 (by omega) (by omega) (fun c122 => ?_) (fun c122 => absurd c122 (by omega))
                refine r_aload_n d_X8_nextWoman_160 rfl ?_
                refine r_getr d_X8_nextWoman_161 f_X8_97 (tt_139 _ _) (by decide) rfl (rr_139_44 _) ?_
                refine r_iload_n d_X8_nextWoman_164 rfl ?_
                refine r_aload_n d_X8_nextWoman_165 rfl ?_
                refine r_geti d_X8_nextWoman_166 f_X8_166 (tt_139 _ _) (by decide) (by decide) ?_
                rw [e49]
                refine r_iastJ (j := (D 20 1).toNat - 1) d_X8_nextWoman_169 (tt_167 _ _) (by omega) (by omega) (by omega) (kk := ?_)
                refine r_iload_n d_X8_nextWoman_170 rfl ?_
                refine r_bipush d_X8_nextWoman_171 (by decide) ?_
                refine r_icmp_ne d_X8_nextWoman_173 (by omega) (by omega) (fun c173 => ?_) (fun c173 => absurd c173 (by omega))
                refine r_aload_n d_X8_nextWoman_191 rfl ?_
                refine r_iconst d_X8_nextWoman_192 ?_
                refine r_bipush d_X8_nextWoman_193 (by decide) ?_
                refine r_V2v d_X8_nextWoman_195 (w_X8_182 _ rfl) (tt_139 _ _) rfl rfl (x_begin) (by decide) (Nat.le_of_ble_eq_true rfl) (fun T195 I195 L195 R195 h195 => ?_)
                obtain ⟨rfl, rfl, rfl, rfl⟩ := h195
                refine r_iload_n d_X8_nextWoman_198 rfl ?_
                refine r_bipush d_X8_nextWoman_199 (by decide) ?_
                refine r_icmp_ne d_X8_nextWoman_201 (by omega) (by omega) (fun c201 => ?_) (fun c201 => absurd c201 (by omega))
                refine r_iconst d_X8_nextWoman_209 ?_
                refine r_iret d_X8_nextWoman_210 rfl ?_
                exact NXT_no (FHM_sl (FHM_sl (FHM_sl (FHM_row FHM_rf (by omega)) (by omega)) (by omega)) (by omega)) hme
theorem x_nextGuest (hA : AMX D I) (hV : IVA D) (hc : 0 ≤ c ∧ c ≤ 126) (hs : 20 ≤ D 20 7) : Mc g 4 m_X8_nextGuest 0 0 [vr 139, vi (D 20 7), vi c] (TT Ls tl) I L (RR tl) (NXT D c Ls tl I L) := by
  refine Mc_of rfl (Nat.le_of_ble_eq_true rfl) ?_
  obtain ⟨hR, hN⟩ := id hA
  have hn := hV.1
  unfold IVN at hn
  obtain ⟨i0, i1, i2, i3, i7, i4, -, -⟩ := hn
  have e34 : I 139 34 = D 20 2 := hR.2.2.2.2.1
  have wi := fun (lo hi : Int) (h1 : -100 ≤ lo ∧ lo ≤ 200) (h2 : -100 ≤ hi ∧ hi ≤ 200) (J : sI) => x_within (g := g) (T := TT Ls tl) (I := J) (L := L) (R := RR tl) (a := c) (lo := lo) (hi := hi) (by omega) (by omega) (by omega)
  by_cases h20 : D 20 7 = 20
  · have hns : NSA D := by omega
    have hN := hN hns
    have i4 := i4 hns
    have e49 := hN.1
    have hft := x_fits (g := g) (Ls := Ls) (tl := tl) (L := L) hN i4 hc
    by_cases hf : ftA D c = true
    · rw [if_pos hf] at hft
      refine r_iload_n d_X8_nextGuest_0 rfl ?_
      refine r_bipush d_X8_nextGuest_1 (by decide) ?_
      refine r_icmp_ne d_X8_nextGuest_3 (by omega) (by omega) (fun c3 => absurd c3 (by omega)) (fun c3 => ?_)
      refine r_aload_n d_X8_nextGuest_6 rfl ?_
      refine r_iload_n d_X8_nextGuest_7 rfl ?_
      refine r_V1i d_X8_nextGuest_8 (w_X8_190 _ rfl) (tt_139 _ _) rfl rfl (hft) (by decide) (Nat.le_of_ble_eq_true rfl) (fun z8 T8 I8 L8 R8 h8 => ?_)
      obtain ⟨rfl, rfl, rfl, rfl, rfl⟩ := h8
      refine r_if_eq d_X8_nextGuest_11 (by omega) (fun c11 => absurd c11 (by decide)) (fun c11 => ?_)
      refine r_aload_n d_X8_nextGuest_14 rfl ?_
      refine r_iload_n d_X8_nextGuest_15 rfl ?_
      refine r_V1v d_X8_nextGuest_16 (w_X8_193 _ rfl) (tt_139 _ _) rfl rfl (x_grow hN i4.1) (by decide) (Nat.le_of_ble_eq_true rfl) (fun T16 I16 L16 R16 h16 => ?_)
      obtain ⟨rfl, rfl, rfl, rfl⟩ := h16
      refine r_bipush d_X8_nextGuest_19 (by decide) ?_
      refine r_iret d_X8_nextGuest_21 rfl ?_
      exact NXT_ok (FHM_sl FHM_rf (by omega)) (mst_ft hns hf) h20.symm (AMX_gw hR hN)
    · rw [if_neg hf] at hft
      have hf2 : ftA D c = false := Bool.eq_false_iff.mpr hf
      have hnu := x_isNumber (g := g) (Ls := Ls) (tl := tl) (L := L) hN.1 hN.2.1 (by unfold i32; omega) (by unfold i32; omega)
      by_cases hv : D 20 4 < D 20 5
      · rw [if_pos hv] at hnu
        refine r_iload_n d_X8_nextGuest_0 rfl ?_
        refine r_bipush d_X8_nextGuest_1 (by decide) ?_
        refine r_icmp_ne d_X8_nextGuest_3 (by omega) (by omega) (fun c3 => absurd c3 (by omega)) (fun c3 => ?_)
        refine r_aload_n d_X8_nextGuest_6 rfl ?_
        refine r_iload_n d_X8_nextGuest_7 rfl ?_
        refine r_V1i d_X8_nextGuest_8 (w_X8_190 _ rfl) (tt_139 _ _) rfl rfl (hft) (by decide) (Nat.le_of_ble_eq_true rfl) (fun z8 T8 I8 L8 R8 h8 => ?_)
        obtain ⟨rfl, rfl, rfl, rfl, rfl⟩ := h8
        refine r_if_eq d_X8_nextGuest_11 (by omega) (fun c11 => ?_) (fun c11 => absurd c11 (by decide))
        refine r_aload_n d_X8_nextGuest_22 rfl ?_
        refine r_V0i d_X8_nextGuest_23 (w_X8_197 _ rfl) (tt_139 _ _) rfl rfl (hnu) (by decide) (Nat.le_of_ble_eq_true rfl) (fun z23 T23 I23 L23 R23 h23 => ?_)
        obtain ⟨rfl, rfl, rfl, rfl, rfl⟩ := h23
        refine r_if_eq d_X8_nextGuest_26 (by omega) (fun c26 => ?_) (fun c26 => absurd c26 (by decide))
        refine r_iconst d_X8_nextGuest_46 ?_
        refine r_iret d_X8_nextGuest_47 rfl ?_
        exact NXT_no FHM_rf (mst_no hns hf2 hv)
      · rw [if_neg hv] at hnu
        have hme := mst_end hns hf2 hv
        unfold endA at hme
        rw [if_neg (by omega), if_neg (by omega), if_neg (by omega)] at hme
        have hw := wi 97 100 (by omega) (by omega)
        have t48 : (97 ≤ c ∧ c ≤ 100) ∨ c = 120 → Cp g 4 m_X8_nextGuest 0 0 (NXT D c Ls tl I L) 48 [(0, vr 139), (1, vi (D 20 7)), (2, vi c)] [] (TT Ls tl) I L (RR tl) := by
          intro q
          rw [if_pos q] at hme
          by_cases q2 : c = 120
          · rw [if_pos q2] at hme
            refine r_aload_n d_X8_nextGuest_48 rfl ?_
            refine r_getr d_X8_nextGuest_49 f_X8_100 (tt_139 _ _) (by decide) rfl (rr_139_45 _) ?_
            refine r_aload_n d_X8_nextGuest_52 rfl ?_
            refine r_geti d_X8_nextGuest_53 f_X8_207 (tt_139 _ _) (by decide) (by decide) ?_
            refine r_aload_n d_X8_nextGuest_56 rfl ?_
            refine r_geti d_X8_nextGuest_57 f_X8_166 (tt_139 _ _) (by decide) (by decide) ?_
            rw [e34, e49]
            refine r_iastJ (j := (D 20 2).toNat) d_X8_nextGuest_60 (tt_168 _ _) (by omega) (by omega) (by omega) (kk := ?_)
            refine r_aload_n d_X8_nextGuest_61 rfl ?_
            refine r_getr d_X8_nextGuest_62 f_X8_103 (tt_139 _ _) (by decide) rfl (rr_139_46 _) ?_
            refine r_aload_n d_X8_nextGuest_65 rfl ?_
            refine r_geti d_X8_nextGuest_66 f_X8_207 (tt_139 _ _) (by decide) (by decide) ?_
            rw [up2_ne _ _ (by decide), e34]
            refine r_iload_n d_X8_nextGuest_69 rfl ?_
            refine r_bipush d_X8_nextGuest_70 (by decide) ?_
            refine r_icmp_ne d_X8_nextGuest_72 (by omega) (by omega) (fun c72 => absurd c72 (by omega)) (fun c72 => ?_)
            refine r_iconst d_X8_nextGuest_75 ?_
            refine r_goto d_X8_nextGuest_76 ?_
            refine r_iastJ (j := (D 20 2).toNat) d_X8_nextGuest_83 (tt_169 _ _) (by omega) (by omega) (by omega) (kk := ?_)
            refine r_aload_n d_X8_nextGuest_84 rfl ?_
            refine r_getr d_X8_nextGuest_85 f_X8_106 (tt_139 _ _) (by decide) rfl (rr_139_47 _) ?_
            refine r_aload_n d_X8_nextGuest_88 rfl ?_
            refine r_geti d_X8_nextGuest_89 f_X8_207 (tt_139 _ _) (by decide) (by decide) ?_
            rw [up2_ne _ _ (by decide), up2_ne _ _ (by decide), e34]
            refine r_iconst d_X8_nextGuest_92 ?_
            refine r_zastJ (j := (D 20 2).toNat) d_X8_nextGuest_93 (tt_170 _ _) (by omega) (by omega) (by omega) (by omega) (kk := ?_)
            refine r_aload_n d_X8_nextGuest_94 rfl ?_
            refine r_dup d_X8_nextGuest_95 rfl ?_
            refine r_geti d_X8_nextGuest_96 f_X8_207 (tt_139 _ _) (by decide) (by decide) ?_
            rw [up2_ne _ _ (by decide), up2_ne _ _ (by decide), up2_ne _ _ (by decide), e34]
            refine r_iconst d_X8_nextGuest_99 ?_
            refine r_iadd d_X8_nextGuest_100 ?_
            refine r_puti d_X8_nextGuest_101 f_X8_207 (tt_139 _ _) (by decide) (Or.inl rfl) ?_
            refine r_bipush d_X8_nextGuest_104 (by decide) ?_
            refine r_iret d_X8_nextGuest_106 rfl ?_
            exact NXT_ok (FHM_sl (FHM_row (FHM_row (FHM_row FHM_rf (by omega)) (by omega)) (by omega)) (by omega)) hme rfl ⟨ARM_sc (ARM_cnt (j := 2) (ARM_170 (ARM_169 (ARM_168 hR))) (by decide)) (by decide), nsa_no (s := 21) rfl (by decide)⟩
          · rw [if_neg q2] at hme
            refine r_aload_n d_X8_nextGuest_48 rfl ?_
            refine r_getr d_X8_nextGuest_49 f_X8_100 (tt_139 _ _) (by decide) rfl (rr_139_45 _) ?_
            refine r_aload_n d_X8_nextGuest_52 rfl ?_
            refine r_geti d_X8_nextGuest_53 f_X8_207 (tt_139 _ _) (by decide) (by decide) ?_
            refine r_aload_n d_X8_nextGuest_56 rfl ?_
            refine r_geti d_X8_nextGuest_57 f_X8_166 (tt_139 _ _) (by decide) (by decide) ?_
            rw [e34, e49]
            refine r_iastJ (j := (D 20 2).toNat) d_X8_nextGuest_60 (tt_168 _ _) (by omega) (by omega) (by omega) (kk := ?_)
            refine r_aload_n d_X8_nextGuest_61 rfl ?_
            refine r_getr d_X8_nextGuest_62 f_X8_103 (tt_139 _ _) (by decide) rfl (rr_139_46 _) ?_
            refine r_aload_n d_X8_nextGuest_65 rfl ?_
            refine r_geti d_X8_nextGuest_66 f_X8_207 (tt_139 _ _) (by decide) (by decide) ?_
            rw [up2_ne _ _ (by decide), e34]
            refine r_iload_n d_X8_nextGuest_69 rfl ?_
            refine r_bipush d_X8_nextGuest_70 (by decide) ?_
            refine r_icmp_ne d_X8_nextGuest_72 (by omega) (by omega) (fun c72 => ?_) (fun c72 => absurd c72 (by omega))
            refine r_iload_n d_X8_nextGuest_79 rfl ?_
            refine r_bipush d_X8_nextGuest_80 (by decide) ?_
            refine r_isub d_X8_nextGuest_82 ?_
            refine r_iastJ (j := (D 20 2).toNat) d_X8_nextGuest_83 (tt_169 _ _) (by omega) (by omega) (by omega) (kk := ?_)
            refine r_aload_n d_X8_nextGuest_84 rfl ?_
            refine r_getr d_X8_nextGuest_85 f_X8_106 (tt_139 _ _) (by decide) rfl (rr_139_47 _) ?_
            refine r_aload_n d_X8_nextGuest_88 rfl ?_
            refine r_geti d_X8_nextGuest_89 f_X8_207 (tt_139 _ _) (by decide) (by decide) ?_
            rw [up2_ne _ _ (by decide), up2_ne _ _ (by decide), e34]
            refine r_iconst d_X8_nextGuest_92 ?_
            refine r_zastJ (j := (D 20 2).toNat) d_X8_nextGuest_93 (tt_170 _ _) (by omega) (by omega) (by omega) (by omega) (kk := ?_)
            refine r_aload_n d_X8_nextGuest_94 rfl ?_
            refine r_dup d_X8_nextGuest_95 rfl ?_
            refine r_geti d_X8_nextGuest_96 f_X8_207 (tt_139 _ _) (by decide) (by decide) ?_
            rw [up2_ne _ _ (by decide), up2_ne _ _ (by decide), up2_ne _ _ (by decide), e34]
            refine r_iconst d_X8_nextGuest_99 ?_
            refine r_iadd d_X8_nextGuest_100 ?_
            refine r_puti d_X8_nextGuest_101 f_X8_207 (tt_139 _ _) (by decide) (Or.inl rfl) ?_
            refine r_bipush d_X8_nextGuest_104 (by decide) ?_
            refine r_iret d_X8_nextGuest_106 rfl ?_
            exact NXT_ok (FHM_sl (FHM_row (FHM_row (FHM_row FHM_rf (by omega)) (by omega)) (by omega)) (by omega)) hme rfl ⟨ARM_sc (ARM_cnt (j := 2) (ARM_170 (ARM_169 (ARM_168 hR))) (by decide)) (by decide), nsa_no (s := 21) rfl (by decide)⟩
        by_cases q : 97 ≤ c ∧ c ≤ 100
        · rw [if_pos q] at hw
          refine r_iload_n d_X8_nextGuest_0 rfl ?_
          refine r_bipush d_X8_nextGuest_1 (by decide) ?_
          refine r_icmp_ne d_X8_nextGuest_3 (by omega) (by omega) (fun c3 => absurd c3 (by omega)) (fun c3 => ?_)
          refine r_aload_n d_X8_nextGuest_6 rfl ?_
          refine r_iload_n d_X8_nextGuest_7 rfl ?_
          refine r_V1i d_X8_nextGuest_8 (w_X8_190 _ rfl) (tt_139 _ _) rfl rfl (hft) (by decide) (Nat.le_of_ble_eq_true rfl) (fun z8 T8 I8 L8 R8 h8 => ?_)
          obtain ⟨rfl, rfl, rfl, rfl, rfl⟩ := h8
          refine r_if_eq d_X8_nextGuest_11 (by omega) (fun c11 => ?_) (fun c11 => absurd c11 (by decide))
          refine r_aload_n d_X8_nextGuest_22 rfl ?_
          refine r_V0i d_X8_nextGuest_23 (w_X8_197 _ rfl) (tt_139 _ _) rfl rfl (hnu) (by decide) (Nat.le_of_ble_eq_true rfl) (fun z23 T23 I23 L23 R23 h23 => ?_)
          obtain ⟨rfl, rfl, rfl, rfl, rfl⟩ := h23
          refine r_if_eq d_X8_nextGuest_26 (by omega) (fun c26 => absurd c26 (by decide)) (fun c26 => ?_)
          refine r_iload_n d_X8_nextGuest_29 rfl ?_
          refine r_bipush d_X8_nextGuest_30 (by decide) ?_
          refine r_bipush d_X8_nextGuest_32 (by decide) ?_
          refine r_S3i d_X8_nextGuest_34 (w_X8_162 _ rfl) (hw _) (by decide) (Nat.le_of_ble_eq_true rfl) (fun z34 T34 I34 L34 R34 h34 => ?_)
          obtain ⟨rfl, rfl, rfl, rfl, rfl⟩ := h34
          refine r_if_ne d_X8_nextGuest_37 (by omega) (fun c37 => ?_) (fun c37 => absurd c37 (by decide))
          exact t48 (Or.inl q)
        · rw [if_neg q] at hw
          by_cases q2 : c = 120
          · skip
            refine r_iload_n d_X8_nextGuest_0 rfl ?_
            refine r_bipush d_X8_nextGuest_1 (by decide) ?_
            refine r_icmp_ne d_X8_nextGuest_3 (by omega) (by omega) (fun c3 => absurd c3 (by omega)) (fun c3 => ?_)
            refine r_aload_n d_X8_nextGuest_6 rfl ?_
            refine r_iload_n d_X8_nextGuest_7 rfl ?_
            refine r_V1i d_X8_nextGuest_8 (w_X8_190 _ rfl) (tt_139 _ _) rfl rfl (hft) (by decide) (Nat.le_of_ble_eq_true rfl) (fun z8 T8 I8 L8 R8 h8 => ?_)
            obtain ⟨rfl, rfl, rfl, rfl, rfl⟩ := h8
            refine r_if_eq d_X8_nextGuest_11 (by omega) (fun c11 => ?_) (fun c11 => absurd c11 (by decide))
            refine r_aload_n d_X8_nextGuest_22 rfl ?_
            refine r_V0i d_X8_nextGuest_23 (w_X8_197 _ rfl) (tt_139 _ _) rfl rfl (hnu) (by decide) (Nat.le_of_ble_eq_true rfl) (fun z23 T23 I23 L23 R23 h23 => ?_)
            obtain ⟨rfl, rfl, rfl, rfl, rfl⟩ := h23
            refine r_if_eq d_X8_nextGuest_26 (by omega) (fun c26 => absurd c26 (by decide)) (fun c26 => ?_)
            refine r_iload_n d_X8_nextGuest_29 rfl ?_
            refine r_bipush d_X8_nextGuest_30 (by decide) ?_
            refine r_bipush d_X8_nextGuest_32 (by decide) ?_
            refine r_S3i d_X8_nextGuest_34 (w_X8_162 _ rfl) (hw _) (by decide) (Nat.le_of_ble_eq_true rfl) (fun z34 T34 I34 L34 R34 h34 => ?_)
            obtain ⟨rfl, rfl, rfl, rfl, rfl⟩ := h34
            refine r_if_ne d_X8_nextGuest_37 (by omega) (fun c37 => absurd c37 (by decide)) (fun c37 => ?_)
            refine r_iload_n d_X8_nextGuest_40 rfl ?_
            refine r_bipush d_X8_nextGuest_41 (by decide) ?_
            refine r_icmp_eq d_X8_nextGuest_43 (by omega) (by omega) (fun c43 => ?_) (fun c43 => absurd c43 (by omega))
            exact t48 (Or.inr q2)
          · rw [if_neg (by omega)] at hme
            refine r_iload_n d_X8_nextGuest_0 rfl ?_
            refine r_bipush d_X8_nextGuest_1 (by decide) ?_
            refine r_icmp_ne d_X8_nextGuest_3 (by omega) (by omega) (fun c3 => absurd c3 (by omega)) (fun c3 => ?_)
            refine r_aload_n d_X8_nextGuest_6 rfl ?_
            refine r_iload_n d_X8_nextGuest_7 rfl ?_
            refine r_V1i d_X8_nextGuest_8 (w_X8_190 _ rfl) (tt_139 _ _) rfl rfl (hft) (by decide) (Nat.le_of_ble_eq_true rfl) (fun z8 T8 I8 L8 R8 h8 => ?_)
            obtain ⟨rfl, rfl, rfl, rfl, rfl⟩ := h8
            refine r_if_eq d_X8_nextGuest_11 (by omega) (fun c11 => ?_) (fun c11 => absurd c11 (by decide))
            refine r_aload_n d_X8_nextGuest_22 rfl ?_
            refine r_V0i d_X8_nextGuest_23 (w_X8_197 _ rfl) (tt_139 _ _) rfl rfl (hnu) (by decide) (Nat.le_of_ble_eq_true rfl) (fun z23 T23 I23 L23 R23 h23 => ?_)
            obtain ⟨rfl, rfl, rfl, rfl, rfl⟩ := h23
            refine r_if_eq d_X8_nextGuest_26 (by omega) (fun c26 => absurd c26 (by decide)) (fun c26 => ?_)
            refine r_iload_n d_X8_nextGuest_29 rfl ?_
            refine r_bipush d_X8_nextGuest_30 (by decide) ?_
            refine r_bipush d_X8_nextGuest_32 (by decide) ?_
            refine r_S3i d_X8_nextGuest_34 (w_X8_162 _ rfl) (hw _) (by decide) (Nat.le_of_ble_eq_true rfl) (fun z34 T34 I34 L34 R34 h34 => ?_)
            obtain ⟨rfl, rfl, rfl, rfl, rfl⟩ := h34
            refine r_if_ne d_X8_nextGuest_37 (by omega) (fun c37 => absurd c37 (by decide)) (fun c37 => ?_)
            refine r_iload_n d_X8_nextGuest_40 rfl ?_
            refine r_bipush d_X8_nextGuest_41 (by decide) ?_
            refine r_icmp_eq d_X8_nextGuest_43 (by omega) (by omega) (fun c43 => absurd c43 (by omega)) (fun c43 => ?_)
            refine r_iconst d_X8_nextGuest_46 ?_
            refine r_iret d_X8_nextGuest_47 rfl ?_
            exact NXT_no FHM_rf hme
  · have hm : mstA D c = plnA D c := mst_pln (by omega)
    unfold plnA at hm
    rw [if_neg (by omega), if_neg (by omega), if_neg (by omega), if_neg (by omega), if_neg (by omega), if_neg (by omega), if_neg (by omega), if_neg (by omega)] at hm
    by_cases q1 : D 20 7 = 21 ∧ c = 104
    · rw [if_pos q1] at hm
      refine r_iload_n d_X8_nextGuest_0 rfl ?_
      refine r_bipush d_X8_nextGuest_1 (by decide) ?_
      refine r_icmp_ne d_X8_nextGuest_3 (by omega) (by omega) (fun c3 => ?_) (fun c3 => absurd c3 (by omega))
      refine r_iload_n d_X8_nextGuest_107 rfl ?_
      refine r_bipush d_X8_nextGuest_108 (by decide) ?_
      refine r_icmp_ne d_X8_nextGuest_110 (by omega) (by omega) (fun c110 => absurd c110 (by omega)) (fun c110 => ?_)
      refine r_iload_n d_X8_nextGuest_113 rfl ?_
      refine r_bipush d_X8_nextGuest_114 (by decide) ?_
      refine r_icmp_ne d_X8_nextGuest_116 (by omega) (by omega) (fun c116 => absurd c116 (by omega)) (fun c116 => ?_)
      refine r_aload_n d_X8_nextGuest_119 rfl ?_
      refine r_getr d_X8_nextGuest_120 f_X8_106 (tt_139 _ _) (by decide) rfl (rr_139_47 _) ?_
      refine r_aload_n d_X8_nextGuest_123 rfl ?_
      refine r_geti d_X8_nextGuest_124 f_X8_207 (tt_139 _ _) (by decide) (by decide) ?_
      rw [e34]
      refine r_iconst d_X8_nextGuest_127 ?_
      refine r_isub d_X8_nextGuest_128 ?_
      refine r_iconst d_X8_nextGuest_129 ?_
      refine r_zastJ (j := (D 20 2).toNat - 1) d_X8_nextGuest_130 (tt_170 _ _) (by omega) (by omega) (by omega) (by omega) (kk := ?_)
      refine r_bipush d_X8_nextGuest_131 (by decide) ?_
      refine r_iret d_X8_nextGuest_133 rfl ?_
      exact NXT_ok (FHM_row FHM_rf (by omega)) hm rfl ⟨ARM_sc (ARM_170 hR) (by decide), nsa_no (s := 22) rfl (by decide)⟩
    · rw [if_neg q1] at hm
      have t134 : Cp g 4 m_X8_nextGuest 0 0 (NXT D c Ls tl I L) 134 [(0, vr 139), (1, vi (D 20 7)), (2, vi c)] [] (TT Ls tl) I L (RR tl) := by
        by_cases q2 : D 20 7 = 21 ∨ D 20 7 = 22
        · rw [if_pos q2] at hm
          have hw := wi 49 57 (by omega) (by omega)
          by_cases q3 : 49 ≤ c ∧ c ≤ 57
          · rw [if_pos q3] at hm hw
            refine r_iload_n d_X8_nextGuest_134 rfl ?_
            refine r_bipush d_X8_nextGuest_135 (by decide) ?_
            refine r_icmp_ge d_X8_nextGuest_137 (by omega) (by omega) (fun c137 => absurd c137 (by omega)) (fun c137 => ?_)
            refine r_aload_n d_X8_nextGuest_140 rfl ?_
            refine r_getr d_X8_nextGuest_141 f_X8_109 (tt_139 _ _) (by decide) rfl (rr_139_48 _) ?_
            refine r_aload_n d_X8_nextGuest_144 rfl ?_
            refine r_geti d_X8_nextGuest_145 f_X8_207 (tt_139 _ _) (by decide) (by decide) ?_
            rw [e34]
            refine r_iconst d_X8_nextGuest_148 ?_
            refine r_isub d_X8_nextGuest_149 ?_
            refine r_iload_n d_X8_nextGuest_150 rfl ?_
            refine r_bipush d_X8_nextGuest_151 (by decide) ?_
            refine r_isub d_X8_nextGuest_153 ?_
            refine r_iastJ (j := (D 20 2).toNat - 1) d_X8_nextGuest_154 (tt_171 _ _) (by omega) (by omega) (by omega) (kk := ?_)
            refine r_iload_n d_X8_nextGuest_155 rfl ?_
            refine r_bipush d_X8_nextGuest_156 (by decide) ?_
            refine r_bipush d_X8_nextGuest_158 (by decide) ?_
            refine r_S3i d_X8_nextGuest_160 (w_X8_162 _ rfl) (hw _) (by decide) (Nat.le_of_ble_eq_true rfl) (fun z160 T160 I160 L160 R160 h160 => ?_)
            obtain ⟨rfl, rfl, rfl, rfl, rfl⟩ := h160
            refine r_if_eq d_X8_nextGuest_163 (by omega) (fun c163 => absurd c163 (by decide)) (fun c163 => ?_)
            refine r_bipush d_X8_nextGuest_166 (by decide) ?_
            refine r_goto d_X8_nextGuest_168 ?_
            refine r_iret d_X8_nextGuest_172 rfl ?_
            exact NXT_ok (FHM_row FHM_rf (by omega)) hm rfl ⟨ARM_sc (ARM_171 hR) (by decide), nsa_no (s := 23) rfl (by decide)⟩
          · rw [if_neg q3] at hm hw
            refine r_iload_n d_X8_nextGuest_134 rfl ?_
            refine r_bipush d_X8_nextGuest_135 (by decide) ?_
            refine r_icmp_ge d_X8_nextGuest_137 (by omega) (by omega) (fun c137 => absurd c137 (by omega)) (fun c137 => ?_)
            refine r_aload_n d_X8_nextGuest_140 rfl ?_
            refine r_getr d_X8_nextGuest_141 f_X8_109 (tt_139 _ _) (by decide) rfl (rr_139_48 _) ?_
            refine r_aload_n d_X8_nextGuest_144 rfl ?_
            refine r_geti d_X8_nextGuest_145 f_X8_207 (tt_139 _ _) (by decide) (by decide) ?_
            rw [e34]
            refine r_iconst d_X8_nextGuest_148 ?_
            refine r_isub d_X8_nextGuest_149 ?_
            refine r_iload_n d_X8_nextGuest_150 rfl ?_
            refine r_bipush d_X8_nextGuest_151 (by decide) ?_
            refine r_isub d_X8_nextGuest_153 ?_
            refine r_iastJ (j := (D 20 2).toNat - 1) d_X8_nextGuest_154 (tt_171 _ _) (by omega) (by omega) (by omega) (kk := ?_)
            refine r_iload_n d_X8_nextGuest_155 rfl ?_
            refine r_bipush d_X8_nextGuest_156 (by decide) ?_
            refine r_bipush d_X8_nextGuest_158 (by decide) ?_
            refine r_S3i d_X8_nextGuest_160 (w_X8_162 _ rfl) (hw _) (by decide) (Nat.le_of_ble_eq_true rfl) (fun z160 T160 I160 L160 R160 h160 => ?_)
            obtain ⟨rfl, rfl, rfl, rfl, rfl⟩ := h160
            refine r_if_eq d_X8_nextGuest_163 (by omega) (fun c163 => ?_) (fun c163 => absurd c163 (by decide))
            refine r_iconst d_X8_nextGuest_171 ?_
            refine r_iret d_X8_nextGuest_172 rfl ?_
            exact NXT_no (FHM_row FHM_rf (by omega)) hm
        · rw [if_neg q2] at hm
          have e34b : up2 (up2 (up2 I 139 49 (-1)) 139 50 0) 139 51 44 139 34 = D 20 2 := e34
          by_cases q3 : c = 44 ∧ D 20 2 < 8
          · rw [if_pos q3] at hm
            refine r_iload_n d_X8_nextGuest_134 rfl ?_
            refine r_bipush d_X8_nextGuest_135 (by decide) ?_
            refine r_icmp_ge d_X8_nextGuest_137 (by omega) (by omega) (fun c137 => ?_) (fun c137 => absurd c137 (by omega))
            refine r_aload_n d_X8_nextGuest_173 rfl ?_
            refine r_iconst d_X8_nextGuest_174 ?_
            refine r_bipush d_X8_nextGuest_175 (by decide) ?_
            refine r_V2v d_X8_nextGuest_177 (w_X8_182 _ rfl) (tt_139 _ _) rfl rfl (x_begin) (by decide) (Nat.le_of_ble_eq_true rfl) (fun T177 I177 L177 R177 h177 => ?_)
            obtain ⟨rfl, rfl, rfl, rfl⟩ := h177
            refine r_iload_n d_X8_nextGuest_180 rfl ?_
            refine r_bipush d_X8_nextGuest_181 (by decide) ?_
            refine r_icmp_ne d_X8_nextGuest_183 (by omega) (by omega) (fun c183 => absurd c183 (by omega)) (fun c183 => ?_)
            refine r_aload_n d_X8_nextGuest_186 rfl ?_
            refine r_geti d_X8_nextGuest_187 f_X8_207 (tt_139 _ _) (by decide) (by decide) ?_
            rw [e34b]
            refine r_bipush d_X8_nextGuest_190 (by decide) ?_
            refine r_icmp_ge d_X8_nextGuest_192 (by omega) (by omega) (fun c192 => absurd c192 (by omega)) (fun c192 => ?_)
            refine r_bipush d_X8_nextGuest_195 (by decide) ?_
            refine r_goto d_X8_nextGuest_197 ?_
            refine r_iret d_X8_nextGuest_201 rfl ?_
            exact NXT_ok (FHM_sl (FHM_sl (FHM_sl FHM_rf (by omega)) (by omega)) (by omega)) hm rfl (AMX_bg hR)
          · rw [if_neg q3] at hm
            by_cases q4 : c = 44
            · skip
              refine r_iload_n d_X8_nextGuest_134 rfl ?_
              refine r_bipush d_X8_nextGuest_135 (by decide) ?_
              refine r_icmp_ge d_X8_nextGuest_137 (by omega) (by omega) (fun c137 => ?_) (fun c137 => absurd c137 (by omega))
              refine r_aload_n d_X8_nextGuest_173 rfl ?_
              refine r_iconst d_X8_nextGuest_174 ?_
              refine r_bipush d_X8_nextGuest_175 (by decide) ?_
              refine r_V2v d_X8_nextGuest_177 (w_X8_182 _ rfl) (tt_139 _ _) rfl rfl (x_begin) (by decide) (Nat.le_of_ble_eq_true rfl) (fun T177 I177 L177 R177 h177 => ?_)
              obtain ⟨rfl, rfl, rfl, rfl⟩ := h177
              refine r_iload_n d_X8_nextGuest_180 rfl ?_
              refine r_bipush d_X8_nextGuest_181 (by decide) ?_
              refine r_icmp_ne d_X8_nextGuest_183 (by omega) (by omega) (fun c183 => absurd c183 (by omega)) (fun c183 => ?_)
              refine r_aload_n d_X8_nextGuest_186 rfl ?_
              refine r_geti d_X8_nextGuest_187 f_X8_207 (tt_139 _ _) (by decide) (by decide) ?_
              rw [e34b]
              refine r_bipush d_X8_nextGuest_190 (by decide) ?_
              refine r_icmp_ge d_X8_nextGuest_192 (by omega) (by omega) (fun c192 => ?_) (fun c192 => absurd c192 (by omega))
              refine r_iconst d_X8_nextGuest_200 ?_
              refine r_iret d_X8_nextGuest_201 rfl ?_
              exact NXT_no (FHM_sl (FHM_sl (FHM_sl FHM_rf (by omega)) (by omega)) (by omega)) hm
            · skip
              refine r_iload_n d_X8_nextGuest_134 rfl ?_
              refine r_bipush d_X8_nextGuest_135 (by decide) ?_
              refine r_icmp_ge d_X8_nextGuest_137 (by omega) (by omega) (fun c137 => ?_) (fun c137 => absurd c137 (by omega))
              refine r_aload_n d_X8_nextGuest_173 rfl ?_
              refine r_iconst d_X8_nextGuest_174 ?_
              refine r_bipush d_X8_nextGuest_175 (by decide) ?_
              refine r_V2v d_X8_nextGuest_177 (w_X8_182 _ rfl) (tt_139 _ _) rfl rfl (x_begin) (by decide) (Nat.le_of_ble_eq_true rfl) (fun T177 I177 L177 R177 h177 => ?_)
              obtain ⟨rfl, rfl, rfl, rfl⟩ := h177
              refine r_iload_n d_X8_nextGuest_180 rfl ?_
              refine r_bipush d_X8_nextGuest_181 (by decide) ?_
              refine r_icmp_ne d_X8_nextGuest_183 (by omega) (by omega) (fun c183 => ?_) (fun c183 => absurd c183 (by omega))
              refine r_iconst d_X8_nextGuest_200 ?_
              refine r_iret d_X8_nextGuest_201 rfl ?_
              exact NXT_no (FHM_sl (FHM_sl (FHM_sl FHM_rf (by omega)) (by omega)) (by omega)) hm
      by_cases q2 : D 20 7 = 21
      · skip
        refine r_iload_n d_X8_nextGuest_0 rfl ?_
        refine r_bipush d_X8_nextGuest_1 (by decide) ?_
        refine r_icmp_ne d_X8_nextGuest_3 (by omega) (by omega) (fun c3 => ?_) (fun c3 => absurd c3 (by omega))
        refine r_iload_n d_X8_nextGuest_107 rfl ?_
        refine r_bipush d_X8_nextGuest_108 (by decide) ?_
        refine r_icmp_ne d_X8_nextGuest_110 (by omega) (by omega) (fun c110 => absurd c110 (by omega)) (fun c110 => ?_)
        refine r_iload_n d_X8_nextGuest_113 rfl ?_
        refine r_bipush d_X8_nextGuest_114 (by decide) ?_
        refine r_icmp_ne d_X8_nextGuest_116 (by omega) (by omega) (fun c116 => ?_) (fun c116 => absurd c116 (by omega))
        exact t134
      · skip
        refine r_iload_n d_X8_nextGuest_0 rfl ?_
        refine r_bipush d_X8_nextGuest_1 (by decide) ?_
        refine r_icmp_ne d_X8_nextGuest_3 (by omega) (by omega) (fun c3 => ?_) (fun c3 => absurd c3 (by omega))
        refine r_iload_n d_X8_nextGuest_107 rfl ?_
        refine r_bipush d_X8_nextGuest_108 (by decide) ?_
        refine r_icmp_ne d_X8_nextGuest_110 (by omega) (by omega) (fun c110 => ?_) (fun c110 => absurd c110 (by omega))
        exact t134
/-- rows that the reference had -/
def ROW (D : Sg) (I : sI) : Prop := I 159 = D 0 ∧ I 160 = D 1 ∧ I 161 = D 2 ∧ I 162 = D 3 ∧ I 164 = D 5 ∧ I 165 = D 7 ∧ I 166 = D 8 ∧ I 167 = D 9 ∧ I 168 = D 10 ∧ I 169 = D 11 ∧ I 170 = D 12 ∧ I 171 = D 13
theorem x_readHouse {pg : Nat → Int} {len : Nat} {D0 : Sg} (hP : PGM pg len I) (h0 : iniA D0) (h4 : ∀ i, D0 4 i = -1) (hrow : ROW D0 I) : Mc g 5 m_X8_readHouse 0 0 [vr 139] (TT Ls tl) I L (RR tl) (qV fun T' I' L' R' => T' = TT Ls tl ∧ R' = RR tl ∧ L' = L ∧ FHM I I' ∧ ∃ p D, stpA pg len D0 p D ∧ I' 139 30 = (p : Int) ∧ I' 139 31 = (if p = len ∧ D 20 7 = 23 then 1 else 0) ∧ (p = len → AMX D I' ∧ IVA D)) := by
  refine Mc_of rfl (Nat.le_of_ble_eq_true rfl) ?_
  obtain ⟨p1, p2, p3⟩ := hP
  obtain ⟨z0, z1, z2, z3, z7⟩ := id h0
  obtain ⟨Q, hQ⟩ : ∃ Q : sQ, Q = (qV fun T' I' L' R' => T' = TT Ls tl ∧ R' = RR tl ∧ L' = L ∧ FHM I I' ∧ ∃ p D, stpA pg len D0 p D ∧ I' 139 30 = (p : Int) ∧ I' 139 31 = (if p = len ∧ D 20 7 = 23 then 1 else 0) ∧ (p = len → AMX D I' ∧ IVA D)) := ⟨_, rfl⟩
  rw [← hQ]
  have t125 : ∀ (p : Nat) (D : Sg) (J : sI), stpA pg len D0 p D → IVA D → FHM I J → (p = len → AMX D J) → Cp g 5 m_X8_readHouse 0 0 Q 125 [(0, vr 139), (1, vi (D 20 7)), (2, vi (p : Int))] [] (TT Ls tl) J L (RR tl) := by
    intro p D J hst hV f hA
    have hpl := hst.2.1
    have hn := hV.1
    unfold IVN at hn
    obtain ⟨-, -, -, -, i7, -, -, -⟩ := hn
    have e23 : up2 J 139 30 (p : Int) 139 23 = (len : Int) := by rw [up2_nj _ _ (by decide), f.2 23 (by omega)]; exact p1
    have fin : ∀ z : Int, z = (if p = len ∧ D 20 7 = 23 then 1 else 0) → Q none (TT Ls tl) (up2 (up2 J 139 30 (p : Int)) 139 31 z) L (RR tl) := fun z hz => by
      rw [hQ]
      refine ⟨rfl, rfl, rfl, rfl, FHM_sl (FHM_sl f (by omega)) (by omega), p, D, hst, by rw [up2_nj _ _ (by decide), up2_at], by rw [up2_at, hz], fun hp => ⟨?_, hV⟩⟩
      obtain ⟨⟨a, b, e⟩, hN⟩ := hA hp
      have f1 : ∀ x, x ≠ 139 → up2 (up2 J 139 30 (p : Int)) 139 31 z x = J x := fun x hx => by rw [up2_ne _ _ hx, up2_ne _ _ hx]
      have f2 : ∀ k, k ≠ 30 → k ≠ 31 → up2 (up2 J 139 30 (p : Int)) 139 31 z 139 k = J 139 k := fun k h1 h2 => by rw [up2_nj _ _ h2, up2_nj _ _ h1]
      refine ⟨⟨?_, fun i hi => by rw [f1 163 (by decide)]; exact b i hi, ?_⟩, fun hs => ?_⟩
      · rw [f1 159 (by decide), f1 160 (by decide), f1 161 (by decide), f1 162 (by decide), f1 164 (by decide), f1 165 (by decide), f1 166 (by decide), f1 167 (by decide), f1 168 (by decide), f1 169 (by decide), f1 170 (by decide), f1 171 (by decide)]
        exact a
      · rw [f2 32 (by decide) (by decide), f2 33 (by decide) (by decide), f2 34 (by decide) (by decide), f2 35 (by decide) (by decide)]
        exact e
      · unfold NBM
        rw [f2 49 (by decide) (by decide), f2 50 (by decide) (by decide), f2 51 (by decide) (by decide)]
        exact hN hs
    by_cases c1 : p = len
    · by_cases c2 : D 20 7 = 23
      · skip
        refine r_aload_n d_X8_readHouse_125 rfl ?_
        refine r_iload_n d_X8_readHouse_126 rfl ?_
        refine r_puti d_X8_readHouse_127 f_X8_219 (tt_139 _ _) (by decide) (Or.inl rfl) ?_
        refine r_aload_n d_X8_readHouse_130 rfl ?_
        refine r_iload_n d_X8_readHouse_131 rfl ?_
        refine r_aload_n d_X8_readHouse_132 rfl ?_
        refine r_geti d_X8_readHouse_133 f_X8_159 (tt_139 _ _) (by decide) (by decide) ?_
        rw [e23]
        refine r_icmp_ne d_X8_readHouse_136 (by omega) (by omega) (fun c136 => absurd c136 (by omega)) (fun c136 => ?_)
        refine r_iload_n d_X8_readHouse_139 rfl ?_
        refine r_bipush d_X8_readHouse_140 (by decide) ?_
        refine r_icmp_ne d_X8_readHouse_142 (by omega) (by omega) (fun c142 => absurd c142 (by omega)) (fun c142 => ?_)
        refine r_iconst d_X8_readHouse_145 ?_
        refine r_goto d_X8_readHouse_146 ?_
        refine r_puti d_X8_readHouse_150 f_X8_222 (tt_139 _ _) (by decide) (Or.inr ⟨rfl, by omega⟩) ?_
        refine r_vret d_X8_readHouse_153 rfl ?_
        exact fin 1 (by rw [if_pos ⟨c1, c2⟩])
      · skip
        refine r_aload_n d_X8_readHouse_125 rfl ?_
        refine r_iload_n d_X8_readHouse_126 rfl ?_
        refine r_puti d_X8_readHouse_127 f_X8_219 (tt_139 _ _) (by decide) (Or.inl rfl) ?_
        refine r_aload_n d_X8_readHouse_130 rfl ?_
        refine r_iload_n d_X8_readHouse_131 rfl ?_
        refine r_aload_n d_X8_readHouse_132 rfl ?_
        refine r_geti d_X8_readHouse_133 f_X8_159 (tt_139 _ _) (by decide) (by decide) ?_
        rw [e23]
        refine r_icmp_ne d_X8_readHouse_136 (by omega) (by omega) (fun c136 => absurd c136 (by omega)) (fun c136 => ?_)
        refine r_iload_n d_X8_readHouse_139 rfl ?_
        refine r_bipush d_X8_readHouse_140 (by decide) ?_
        refine r_icmp_ne d_X8_readHouse_142 (by omega) (by omega) (fun c142 => ?_) (fun c142 => absurd c142 (by omega))
        refine r_iconst d_X8_readHouse_149 ?_
        refine r_puti d_X8_readHouse_150 f_X8_222 (tt_139 _ _) (by decide) (Or.inr ⟨rfl, by omega⟩) ?_
        refine r_vret d_X8_readHouse_153 rfl ?_
        exact fin 0 (by rw [if_neg (fun q => c2 q.2)])
    · skip
      refine r_aload_n d_X8_readHouse_125 rfl ?_
      refine r_iload_n d_X8_readHouse_126 rfl ?_
      refine r_puti d_X8_readHouse_127 f_X8_219 (tt_139 _ _) (by decide) (Or.inl rfl) ?_
      refine r_aload_n d_X8_readHouse_130 rfl ?_
      refine r_iload_n d_X8_readHouse_131 rfl ?_
      refine r_aload_n d_X8_readHouse_132 rfl ?_
      refine r_geti d_X8_readHouse_133 f_X8_159 (tt_139 _ _) (by decide) (by decide) ?_
      rw [e23]
      refine r_icmp_ne d_X8_readHouse_136 (by omega) (by omega) (fun c136 => ?_) (fun c136 => absurd c136 (by omega))
      refine r_iconst d_X8_readHouse_149 ?_
      refine r_puti d_X8_readHouse_150 f_X8_222 (tt_139 _ _) (by decide) (Or.inr ⟨rfl, by omega⟩) ?_
      refine r_vret d_X8_readHouse_153 rfl ?_
      exact fin 0 (by rw [if_neg (fun q => c1 q.1)])
  have loop : ∀ (k p : Nat) (D : Sg) (J : sI), p + k = len → runA pg D0 p = some D → IVA D → FHM I J → AMX D J → Cp g 5 m_X8_readHouse 0 0 Q 26 [(0, vr 139), (1, vi (D 20 7)), (2, vi (p : Int)), (3, vi 1)] [] (TT Ls tl) J L (RR tl) := by
    intro k
    induction k with
    | zero =>
      intro p D J hpk hrun hV f hA
      have e23 : J 139 23 = (len : Int) := by rw [f.2 23 (by omega)]; exact p1
      refine r_iload_n d_X8_readHouse_26 rfl ?_
      refine r_aload_n d_X8_readHouse_27 rfl ?_
      refine r_geti d_X8_readHouse_28 f_X8_159 (tt_139 _ _) (by decide) (by decide) ?_
      rw [e23]
      refine r_icmp_ge d_X8_readHouse_31 (by omega) (by omega) (fun c31 => ?_) (fun c31 => absurd c31 (by omega))
      exact CpL (t125 p D J ⟨hrun, by omega, Or.inl (by omega)⟩ hV f (fun _ => hA)) (by repeat (first | exact trivial | refine ⟨rfl, ?_⟩))
    | succ k ih =>
      intro p D J hpk hrun hV f hA
      have e23 : J 139 23 = (len : Int) := by rw [f.2 23 (by omega)]; exact p1
      obtain ⟨g1, g2⟩ := p3 p (by omega)
      have e157 : J 157 p = pg p := by rw [f.1 157 (by decide) (by omega)]; exact g1
      have hn := hV.1
      unfold IVN at hn
      obtain ⟨-, -, -, -, i7, -, -, -⟩ := hn
      have t85 : ∀ (z : Int) (J2 : sI), FHM J J2 → ((mstA D (pg p) = none ∧ z = -1) ∨ ∃ E, mstA D (pg p) = some E ∧ z = E 20 7 ∧ AMX E J2) → Cp g 5 m_X8_readHouse 0 0 Q 85 [(0, vr 139), (1, vi (D 20 7)), (2, vi (p : Int)), (3, vi 1), (4, vi (pg p))] [vi z] (TT Ls tl) J2 L (RR tl) := by
        intro z J2 f2 hz
        have e232 : J2 139 23 = (len : Int) := by rw [f2.2 23 (by omega)]; exact e23
        rcases hz with ⟨hm, hz⟩ | ⟨E, hm, hz, hE⟩
        · subst hz
          refine r_istore d_X8_readHouse_85 (by decide) ?_
          refine r_iload d_X8_readHouse_87 rfl ?_
          refine r_iconst d_X8_readHouse_89 ?_
          refine r_icmp_eq d_X8_readHouse_90 (by omega) (by omega) (fun c90 => ?_) (fun c90 => absurd c90 (by decide))
          refine r_iconst d_X8_readHouse_97 ?_
          refine r_istore_n d_X8_readHouse_98 (by decide) ?_
          refine r_iload_n d_X8_readHouse_99 rfl ?_
          refine r_if_eq d_X8_readHouse_100 (by omega) (fun c100 => ?_) (fun c100 => absurd c100 (by decide))
          refine r_iload_n d_X8_readHouse_108 rfl ?_
          refine r_istore_n d_X8_readHouse_109 (by decide) ?_
          refine r_iload_n d_X8_readHouse_110 rfl ?_
          refine r_iload_n d_X8_readHouse_111 rfl ?_
          refine r_if_eq d_X8_readHouse_112 (by omega) (fun c112 => ?_) (fun c112 => absurd c112 (by decide))
          refine r_iconst d_X8_readHouse_119 ?_
          refine r_iadd d_X8_readHouse_120 ?_
          refine r_istore_n d_X8_readHouse_121 (by decide) ?_
          refine r_goto d_X8_readHouse_122 ?_
          refine r_iload_n d_X8_readHouse_26 rfl ?_
          refine r_aload_n d_X8_readHouse_27 rfl ?_
          refine r_geti d_X8_readHouse_28 f_X8_159 (tt_139 _ _) (by decide) (by decide) ?_
          rw [e232]
          refine r_icmp_ge d_X8_readHouse_31 (by omega) (by omega) (fun c31 => absurd c31 (by omega)) (fun c31 => ?_)
          refine r_iload_n d_X8_readHouse_34 rfl ?_
          refine r_if_eq d_X8_readHouse_35 (by omega) (fun c35 => ?_) (fun c35 => absurd c35 (by decide))
          exact CpL (t125 p D J2 ⟨hrun, by omega, Or.inr hm⟩ hV (FHM_tr f f2) (fun h => absurd h (by omega))) (by repeat (first | exact trivial | refine ⟨rfl, ?_⟩ | refine ⟨by rw [Int.add_zero]; rfl, ?_⟩))
        · have hVE := iva_step hV g2 hm
          have hnE := hVE.1
          unfold IVN at hnE
          obtain ⟨-, -, -, -, j7, -, -, -⟩ := hnE
          rw [hz]
          refine r_istore d_X8_readHouse_85 (by decide) ?_
          refine r_iload d_X8_readHouse_87 rfl ?_
          refine r_iconst d_X8_readHouse_89 ?_
          refine r_icmp_eq d_X8_readHouse_90 (by omega) (by omega) (fun c90 => absurd c90 (by omega)) (fun c90 => ?_)
          refine r_iconst d_X8_readHouse_93 ?_
          refine r_goto d_X8_readHouse_94 ?_
          refine r_istore_n d_X8_readHouse_98 (by decide) ?_
          refine r_iload_n d_X8_readHouse_99 rfl ?_
          refine r_if_eq d_X8_readHouse_100 (by omega) (fun c100 => absurd c100 (by decide)) (fun c100 => ?_)
          refine r_iload d_X8_readHouse_103 rfl ?_
          refine r_goto d_X8_readHouse_105 ?_
          refine r_istore_n d_X8_readHouse_109 (by decide) ?_
          refine r_iload_n d_X8_readHouse_110 rfl ?_
          refine r_iload_n d_X8_readHouse_111 rfl ?_
          refine r_if_eq d_X8_readHouse_112 (by omega) (fun c112 => absurd c112 (by decide)) (fun c112 => ?_)
          refine r_iconst d_X8_readHouse_115 ?_
          refine r_goto d_X8_readHouse_116 ?_
          refine r_iadd d_X8_readHouse_120 ?_
          refine r_istore_n d_X8_readHouse_121 (by decide) ?_
          refine r_goto d_X8_readHouse_122 ?_
          exact CpL (ih (p + 1) E J2 (by omega) (run_suc hrun hm) hVE (FHM_tr f f2) hE) (by repeat (first | exact trivial | refine ⟨rfl, ?_⟩))
      by_cases s1 : D 20 7 < 10
      · skip
        refine r_iload_n d_X8_readHouse_26 rfl ?_
        refine r_aload_n d_X8_readHouse_27 rfl ?_
        refine r_geti d_X8_readHouse_28 f_X8_159 (tt_139 _ _) (by decide) (by decide) ?_
        rw [e23]
        refine r_icmp_ge d_X8_readHouse_31 (by omega) (by omega) (fun c31 => absurd c31 (by omega)) (fun c31 => ?_)
        refine r_iload_n d_X8_readHouse_34 rfl ?_
        refine r_if_eq d_X8_readHouse_35 (by omega) (fun c35 => absurd c35 (by decide)) (fun c35 => ?_)
        refine r_aload_n d_X8_readHouse_38 rfl ?_
        refine r_getr d_X8_readHouse_39 f_X8_66 (tt_139 _ _) (by decide) rfl (rr_139_24 _) ?_
        refine r_iload_n d_X8_readHouse_42 rfl ?_
        refine r_baldJ d_X8_readHouse_43 (tt_157 _ _) rfl (by omega) (kk := ?_)
        rw [e157]
        refine r_istore d_X8_readHouse_44 (by decide) ?_
        refine r_iload_n d_X8_readHouse_46 rfl ?_
        refine r_bipush d_X8_readHouse_47 (by decide) ?_
        refine r_icmp_ge d_X8_readHouse_49 (by omega) (by omega) (fun c49 => absurd c49 (by omega)) (fun c49 => ?_)
        refine r_aload_n d_X8_readHouse_52 rfl ?_
        refine r_iload_n d_X8_readHouse_53 rfl ?_
        refine r_iload d_X8_readHouse_54 rfl ?_
        refine r_V2i d_X8_readHouse_56 (w_X8_210 _ rfl) (tt_139 _ _) rfl rfl (x_nextRoom hA hV g2 s1) (by decide) (Nat.le_of_ble_eq_true rfl) (fun z56 T56 I56 L56 R56 h56 => ?_)
        obtain ⟨rfl, rfl, rfl, f2, hz⟩ := h56
        refine r_goto d_X8_readHouse_59 ?_
        exact CpL (t85 z56 I56 f2 hz) (by repeat (first | exact trivial | refine ⟨rfl, ?_⟩))
      · by_cases s2 : D 20 7 < 20
        · skip
          refine r_iload_n d_X8_readHouse_26 rfl ?_
          refine r_aload_n d_X8_readHouse_27 rfl ?_
          refine r_geti d_X8_readHouse_28 f_X8_159 (tt_139 _ _) (by decide) (by decide) ?_
          rw [e23]
          refine r_icmp_ge d_X8_readHouse_31 (by omega) (by omega) (fun c31 => absurd c31 (by omega)) (fun c31 => ?_)
          refine r_iload_n d_X8_readHouse_34 rfl ?_
          refine r_if_eq d_X8_readHouse_35 (by omega) (fun c35 => absurd c35 (by decide)) (fun c35 => ?_)
          refine r_aload_n d_X8_readHouse_38 rfl ?_
          refine r_getr d_X8_readHouse_39 f_X8_66 (tt_139 _ _) (by decide) rfl (rr_139_24 _) ?_
          refine r_iload_n d_X8_readHouse_42 rfl ?_
          refine r_baldJ d_X8_readHouse_43 (tt_157 _ _) rfl (by omega) (kk := ?_)
          rw [e157]
          refine r_istore d_X8_readHouse_44 (by decide) ?_
          refine r_iload_n d_X8_readHouse_46 rfl ?_
          refine r_bipush d_X8_readHouse_47 (by decide) ?_
          refine r_icmp_ge d_X8_readHouse_49 (by omega) (by omega) (fun c49 => ?_) (fun c49 => absurd c49 (by omega))
          refine r_iload_n d_X8_readHouse_62 rfl ?_
          refine r_bipush d_X8_readHouse_63 (by decide) ?_
          refine r_icmp_ge d_X8_readHouse_65 (by omega) (by omega) (fun c65 => absurd c65 (by omega)) (fun c65 => ?_)
          refine r_aload_n d_X8_readHouse_68 rfl ?_
          refine r_iload_n d_X8_readHouse_69 rfl ?_
          refine r_iload d_X8_readHouse_70 rfl ?_
          refine r_V2i d_X8_readHouse_72 (w_X8_213 _ rfl) (tt_139 _ _) rfl rfl (x_nextWoman hA hV g2 ⟨by omega, s2⟩) (by decide) (Nat.le_of_ble_eq_true rfl) (fun z72 T72 I72 L72 R72 h72 => ?_)
          obtain ⟨rfl, rfl, rfl, f2, hz⟩ := h72
          refine r_goto d_X8_readHouse_75 ?_
          exact CpL (t85 z72 I72 f2 hz) (by repeat (first | exact trivial | refine ⟨rfl, ?_⟩))
        · skip
          refine r_iload_n d_X8_readHouse_26 rfl ?_
          refine r_aload_n d_X8_readHouse_27 rfl ?_
          refine r_geti d_X8_readHouse_28 f_X8_159 (tt_139 _ _) (by decide) (by decide) ?_
          rw [e23]
          refine r_icmp_ge d_X8_readHouse_31 (by omega) (by omega) (fun c31 => absurd c31 (by omega)) (fun c31 => ?_)
          refine r_iload_n d_X8_readHouse_34 rfl ?_
          refine r_if_eq d_X8_readHouse_35 (by omega) (fun c35 => absurd c35 (by decide)) (fun c35 => ?_)
          refine r_aload_n d_X8_readHouse_38 rfl ?_
          refine r_getr d_X8_readHouse_39 f_X8_66 (tt_139 _ _) (by decide) rfl (rr_139_24 _) ?_
          refine r_iload_n d_X8_readHouse_42 rfl ?_
          refine r_baldJ d_X8_readHouse_43 (tt_157 _ _) rfl (by omega) (kk := ?_)
          rw [e157]
          refine r_istore d_X8_readHouse_44 (by decide) ?_
          refine r_iload_n d_X8_readHouse_46 rfl ?_
          refine r_bipush d_X8_readHouse_47 (by decide) ?_
          refine r_icmp_ge d_X8_readHouse_49 (by omega) (by omega) (fun c49 => ?_) (fun c49 => absurd c49 (by omega))
          refine r_iload_n d_X8_readHouse_62 rfl ?_
          refine r_bipush d_X8_readHouse_63 (by decide) ?_
          refine r_icmp_ge d_X8_readHouse_65 (by omega) (by omega) (fun c65 => ?_) (fun c65 => absurd c65 (by omega))
          refine r_aload_n d_X8_readHouse_78 rfl ?_
          refine r_iload_n d_X8_readHouse_79 rfl ?_
          refine r_iload d_X8_readHouse_80 rfl ?_
          refine r_V2i d_X8_readHouse_82 (w_X8_216 _ rfl) (tt_139 _ _) rfl rfl (x_nextGuest hA hV g2 (by omega)) (by decide) (Nat.le_of_ble_eq_true rfl) (fun z82 T82 I82 L82 R82 h82 => ?_)
          obtain ⟨rfl, rfl, rfl, f2, hz⟩ := h82
          exact CpL (t85 z82 I82 f2 hz) (by repeat (first | exact trivial | refine ⟨rfl, ?_⟩))
  refine r_aload_n d_X8_readHouse_0 rfl ?_
  refine r_iconst d_X8_readHouse_1 ?_
  refine r_puti d_X8_readHouse_2 f_X8_179 (tt_139 _ _) (by decide) (Or.inl rfl) ?_
  refine r_aload_n d_X8_readHouse_5 rfl ?_
  refine r_iconst d_X8_readHouse_6 ?_
  refine r_puti d_X8_readHouse_7 f_X8_204 (tt_139 _ _) (by decide) (Or.inl rfl) ?_
  refine r_aload_n d_X8_readHouse_10 rfl ?_
  refine r_iconst d_X8_readHouse_11 ?_
  refine r_puti d_X8_readHouse_12 f_X8_207 (tt_139 _ _) (by decide) (Or.inl rfl) ?_
  refine r_aload_n d_X8_readHouse_15 rfl ?_
  refine r_iconst d_X8_readHouse_16 ?_
  refine r_puti d_X8_readHouse_17 f_X8_201 (tt_139 _ _) (by decide) (Or.inl rfl) ?_
  refine r_iconst d_X8_readHouse_20 ?_
  refine r_istore_n d_X8_readHouse_21 (by decide) ?_
  refine r_iconst d_X8_readHouse_22 ?_
  refine r_istore_n d_X8_readHouse_23 (by decide) ?_
  refine r_iconst d_X8_readHouse_24 ?_
  refine r_istore_n d_X8_readHouse_25 (by decide) ?_
  refine CpL (loop len 0 D0 _ (by omega) rfl (iva_ini h0 h4) (FHM_sl (FHM_sl (FHM_sl (FHM_sl FHM_rf (by omega)) (by omega)) (by omega)) (by omega)) ?_) (by repeat (first | exact trivial | refine ⟨rfl, ?_⟩ | refine ⟨by rw [z7]; rfl, ?_⟩))
  refine ⟨⟨hrow, fun i hi => by omega, ⟨?_, ?_, ?_, ?_⟩⟩, fun h => by unfold NSA at h; omega⟩
  · rw [z0]; rfl
  · rw [z1]; rfl
  · rw [z2]; rfl
  · rw [z3]; rfl
end X9u
