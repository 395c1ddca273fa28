section C34
variable {g : sG} {Ls : Nat} {tl : List Nat} {I L : sI} {σ : Sg} {nr nw ng hb : Nat}
theorem c_clear (hh : hb = 8 ∨ hb = 35) : Mc g 0 m_X2_clear 0 0 [vr hb] (TT Ls tl) I L (RR tl) (qV fun T' I' L' R' => T' = TT Ls tl ∧ R' = RR tl ∧ L' = L ∧ (∀ a, a ≠ hb → I' a = I a) ∧ I' hb 3 = 0 ∧ I' hb 4 = 0 ∧ I' hb 5 = 0 ∧ I' hb 6 = 0) := by
  refine Mc_of rfl (Nat.le_of_ble_eq_true rfl) ?_
  refine r_aload_n d_X2_clear_0 rfl ?_
  refine r_iconst d_X2_clear_1 ?_
  refine r_puti d_X2_clear_2 f_X2_35 (th_0 _ _ hh) (by decide) (Or.inl rfl) ?_
  refine r_aload_n d_X2_clear_5 rfl ?_
  refine r_iconst d_X2_clear_6 ?_
  refine r_puti d_X2_clear_7 f_X2_39 (th_0 _ _ hh) (by decide) (Or.inl rfl) ?_
  refine r_aload_n d_X2_clear_10 rfl ?_
  refine r_iconst d_X2_clear_11 ?_
  refine r_puti d_X2_clear_12 f_X2_42 (th_0 _ _ hh) (by decide) (Or.inl rfl) ?_
  refine r_aload_n d_X2_clear_15 rfl ?_
  refine r_iconst d_X2_clear_16 ?_
  refine r_puti d_X2_clear_17 f_X2_45 (th_0 _ _ hh) (by decide) (Or.inl rfl) ?_
  refine r_vret d_X2_clear_20 rfl ?_
  refine ⟨rfl, rfl, rfl, rfl, fun a ha => ?_, ?_⟩
  · rw [up2_ne _ _ ha, up2_ne _ _ ha, up2_ne _ _ ha, up2_ne _ _ ha]
  · simp [up2]
theorem c_settle (hh : hb = 8 ∨ hb = 35) (hV : HV σ nr nw ng) (hX : HX hb σ nr nw ng I) : Mc g 1 m_X2_settle 0 0 [vr hb] (TT Ls tl) I L (RR tl) (qV fun T' I' L' R' => T' = TT Ls tl ∧ R' = RR tl ∧ L' = L ∧ fst4 hb I I' ∧ HS hb σ nr ng I') := by
  refine Mc_of rfl (Nat.le_of_ble_eq_true rfl) ?_
  obtain ⟨v1, v2, v3, v4, v5, v6, v7⟩ := id hV
  have hb8 : ∀ q, q ≤ ng → 0 ≤ bareS σ q ∧ bareS σ q ≤ q * 396 := by
    intro q
    induction q with
    | zero => intro _; show (0 : Int) ≤ 0 ∧ (0 : Int) ≤ _; omega
    | succ q ih =>
      intro hq
      have hg := v6 q (by omega)
      unfold GV at hg
      have h1 := ih (by omega)
      have h2 := mul_bd (show 0 ≤ 44 - σ 10 q ∧ 44 - σ 10 q ≤ 44 by omega) (show 0 ≤ σ 13 q ∧ σ 13 q ≤ 9 by omega)
      show 0 ≤ bareS σ q + (44 - σ 10 q) * σ 13 q ∧ bareS σ q + (44 - σ 10 q) * σ 13 q ≤ _
      omega
  have guests : ∀ (k b : Nat) (I1 : sI), b + k = ng → fst4 hb I I1 → I1 hb 11 = bareS σ b → (∀ q, q < b → I1 (hb + 24) q = (fmS σ q nr : Int)) → ARV σ b (I1 (hb + 25)) → (∀ r, r < nr → I1 (hb + 26) r = pmS σ r b) → Cp g 1 m_X2_settle 0 0 (qV fun T' I' L' R' => T' = TT Ls tl ∧ R' = RR tl ∧ L' = L ∧ fst4 hb I I' ∧ HS hb σ nr ng I') 31 [(0, vr hb), (1, vi (b : Int))] [] (TT Ls tl) I1 L (RR tl) := by
    intro k
    induction k with
    | zero =>
      intro b I1 hbk hf p1 p2 p3 p4
      have hX1 := HX_fst hV hX hf
      have hn : I1 hb 5 = (ng : Int) := hX1.2.2.1
      have hb' : b = ng := by omega
      subst hb'
      refine r_iload_n d_X2_settle_31 rfl ?_
      refine r_aload_n d_X2_settle_32 rfl ?_
      refine r_geti d_X2_settle_33 f_X2_42 (th_0 _ _ hh) (by decide) (by decide) ?_
      refine r_icmp_ge d_X2_settle_36 (by omega) (by omega) (fun c36 => ?_) (fun c36 => absurd c36 (by omega))
      refine r_vret d_X2_settle_146 rfl ?_
      exact ⟨rfl, rfl, rfl, rfl, hf, p2, p3, p4, p1⟩
    | succ k ih =>
      intro b I1 hbk hf p1 p2 p3 p4
      have hX1 := HX_fst hV hX hf
      have hn : I1 hb 5 = (ng : Int) := hX1.2.2.1
      have hbn : b < ng := by omega
      have hgv := v6 b hbn
      unfold GV at hgv
      have e10 : I1 (hb + 15 + b) 0 = σ 10 b := hX1.2.2.2.2.2.2.1 b hbn 0 (by omega)
      have e13 : I1 (hb + 15 + b) 3 = σ 13 b := hX1.2.2.2.2.2.2.1 b hbn 3 (by omega)
      have ebr : I1 hb 11 + (44 - I1 (hb + 15 + b) 0) * I1 (hb + 15 + b) 3 = bareS σ (b + 1) := by rw [p1, e10, e13]; rfl
      have rooms : ∀ (k2 c : Nat) (I2 : sI), c + k2 = nr → fst4 hb I I2 → I2 hb 11 = bareS σ (b + 1) → (∀ q, q < b → I2 (hb + 24) q = (fmS σ q nr : Int)) → I2 (hb + 24) b = (fmS σ b c : Int) → ARV σ b (I2 (hb + 25)) → (∀ r, r < nr → I2 (hb + 26) r = if r < c then pmS σ r (b + 1) else pmS σ r b) → Cp g 1 m_X2_settle 0 0 (qV fun T' I' L' R' => T' = TT Ls tl ∧ R' = RR tl ∧ L' = L ∧ fst4 hb I I' ∧ HS hb σ nr ng I') 77 [(0, vr hb), (1, vi (b : Int)), (2, vi (c : Int))] [] (TT Ls tl) I2 L (RR tl) := by
        intro k2
        induction k2 with
        | zero =>
          intro c I2 hck hf2 q1 q2 q3 q4 q5
          have hc : c = nr := by omega
          subst hc
          have hX2 := HX_fst hV hX hf2
          have hnr : I2 hb 3 = (c : Int) := hX2.1
          refine r_iload_n d_X2_settle_77 rfl ?_
          refine r_aload_n d_X2_settle_78 rfl ?_
          refine r_geti d_X2_settle_79 f_X2_35 (th_0 _ _ hh) (by decide) (by decide) ?_
          refine r_icmp_ge d_X2_settle_82 (by omega) (by omega) (fun c82 => ?_) (fun c82 => absurd c82 (by omega))
          refine r_aload_n d_X2_settle_135 rfl ?_
          refine r_iload_n d_X2_settle_136 rfl ?_
          refine r_V1v d_X2_settle_137 (w_X2_61 _ rfl) (th_0 _ _ hh) rfl rfl (c_queue (σ := σ) hh (by omega) (fun i hi => by have h := v6 i (by omega); unfold GV at h; exact ⟨hX2.2.2.2.2.2.2.1 i (by omega) 0 (by omega), by omega, by omega⟩) q4) (by decide) (Nat.le_of_ble_eq_true rfl) (fun T137 I137 L137 R137 h137 => ?_)
          obtain ⟨rfl, rfl, rfl, w1, w2⟩ := h137
          refine r_iinc d_X2_settle_140 rfl (by decide) ?_
          refine r_goto d_X2_settle_143 ?_
          refine CpL (ih (b + 1) I137 (by omega) ⟨fun a ha => ?_, fun k hk => ?_⟩ ?_ (fun q hq => ?_) w2 (fun r hr => ?_)) (by repeat (first | exact trivial | refine ⟨rfl, ?_⟩))
          · rw [w1 a (by omega)]; exact hf2.1 a ha
          · rw [w1 hb (by omega)]; exact hf2.2 k hk
          · rw [w1 hb (by omega)]; exact q1
          · rw [w1 _ (by omega)]
            by_cases e : q = b
            · rw [e]; exact q3
            · exact q2 q (by omega)
          · rw [w1 _ (by omega), q5 r hr, if_pos hr]
        | succ k2 ih2 =>
          intro c I2 hck hf2 q1 q2 q3 q4 q5
          have hc : c < nr := by omega
          have hX2 := HX_fst hV hX hf2
          have hnr : I2 hb 3 = (nr : Int) := hX2.1
          have g10 : I2 (hb + 15 + b) 0 = σ 10 b := hX2.2.2.2.2.2.2.1 b hbn 0 (by omega)
          have hpm := q5 c hc
          rw [if_neg (by omega)] at hpm
          have hpb := pmS_bd (r := c) v6 b (by omega)
          have hlt := fmS_lt (σ := σ) (q := b) c
          have hle : 2 ^ c ≤ 2 ^ 7 := Nat.pow_le_pow_right (by omega) (by omega)
          have hcf := c_fits (g := g) (Ls := Ls) (tl := tl) (L := L) hh hV hX2 hc hbn
          by_cases hfit : fitS σ c b = true
          · rw [if_pos hfit] at hcf
            have ef : sor (I2 (hb + 24) b) (sshl 1 (c : Int)) = (fmS σ b (c + 1) : Int) := by
              rw [q3, sshl_one c (by omega), sor_nat (by omega) (by omega)]
              show _ = (((if fitS σ c b = true then fmS σ b c ||| 2 ^ c else fmS σ b c) : Nat) : Int)
              rw [if_pos hfit]
            have ep : (if I2 (hb + 15 + b) 0 < I2 (hb + 26) c then I2 (hb + 15 + b) 0 else I2 (hb + 26) c) = pmS σ c (b + 1) := by
              rw [g10, hpm]
              show _ = (if fitS σ c b = true then (if σ 10 b < pmS σ c b then σ 10 b else pmS σ c b) else pmS σ c b)
              rw [if_pos hfit]
            refine r_iload_n d_X2_settle_77 rfl ?_
            refine r_aload_n d_X2_settle_78 rfl ?_
            refine r_geti d_X2_settle_79 f_X2_35 (th_0 _ _ hh) (by decide) (by decide) ?_
            refine r_icmp_ge d_X2_settle_82 (by omega) (by omega) (fun c82 => absurd c82 (by omega)) (fun c82 => ?_)
            refine r_aload_n d_X2_settle_85 rfl ?_
            refine r_iload_n d_X2_settle_86 rfl ?_
            refine r_iload_n d_X2_settle_87 rfl ?_
            refine r_V2i d_X2_settle_88 (w_X2_51 _ rfl) (th_0 _ _ hh) rfl rfl (hcf) (by decide) (Nat.le_of_ble_eq_true rfl) (fun z88 T88 I88 L88 R88 h88 => ?_)
            obtain ⟨rfl, rfl, rfl, rfl, rfl⟩ := h88
            refine r_if_eq d_X2_settle_91 (by omega) (fun c91 => absurd c91 (by decide)) (fun c91 => ?_)
            refine r_aload_n d_X2_settle_94 rfl ?_
            refine r_getr d_X2_settle_95 f_X2_26 (th_0 _ _ hh) (by decide) rfl (rh_8 _ hh) ?_
            refine r_iload_n d_X2_settle_98 rfl ?_
            refine r_dup2 d_X2_settle_99 rfl rfl ?_
            refine r_ialdJ d_X2_settle_100 (th_24 _ _ hh) rfl (by omega) (kk := ?_)
            refine r_iconst d_X2_settle_101 ?_
            refine r_iload_n d_X2_settle_102 rfl ?_
            refine r_ishl d_X2_settle_103 ?_
            refine r_ior d_X2_settle_104 ?_
            rw [ef]
            refine r_iastJ d_X2_settle_105 (th_24 _ _ hh) (by omega) rfl (by omega) (kk := ?_)
            refine r_aload_n d_X2_settle_106 rfl ?_
            refine r_getr d_X2_settle_107 f_X2_32 (th_0 _ _ hh) (by decide) rfl (rh_10 _ hh) ?_
            refine r_iload_n d_X2_settle_110 rfl ?_
            refine r_aload_n d_X2_settle_111 rfl ?_
            refine r_getr d_X2_settle_112 f_X2_32 (th_0 _ _ hh) (by decide) rfl (rh_10 _ hh) ?_
            refine r_iload_n d_X2_settle_115 rfl ?_
            refine r_ialdJ d_X2_settle_116 (th_26 _ _ hh) rfl (by omega) (kk := ?_)
            refine r_aload_n d_X2_settle_117 rfl ?_
            refine r_getr d_X2_settle_118 f_X2_19 (th_0 _ _ hh) (by decide) rfl (rh_2 _ hh) ?_
            refine r_iload_n d_X2_settle_121 rfl ?_
            refine r_aaldJ d_X2_settle_122 (th_14 _ _ hh) (by decide) rfl (by omega) (rh2_14 _ hh (by omega)) (kk := ?_)
            refine r_iconst d_X2_settle_123 ?_
            refine r_ialdJ (j := 0) d_X2_settle_124 (th2_14 _ _ hh (by omega)) rfl (by omega) (kk := ?_)
            refine r_mmin d_X2_settle_125 (w_X2_55 _ rfl) (by decide) (Nat.le_of_ble_eq_true rfl) (by rw [up2_ne _ _ (by omega)]; omega) (by rw [up2_ne _ _ (by omega)]; omega) ?_
            rw [up2_ne _ _ (show hb + 15 + b ≠ hb + 24 by omega), up2_ne _ _ (show hb + 26 ≠ hb + 24 by omega), ep]
            refine r_iastJ d_X2_settle_128 (th_26 _ _ hh) (by omega) rfl (by omega) (kk := ?_)
            refine r_iinc d_X2_settle_129 rfl (by decide) ?_
            refine r_goto d_X2_settle_132 ?_
            refine CpL (ih2 (c + 1) _ (by omega) ⟨fun a ha => ?_, fun k hk => ?_⟩ ?_ (fun q hq => ?_) ?_ ?_ (fun r hr => ?_)) (by repeat (first | exact trivial | refine ⟨rfl, ?_⟩))
            · rw [up2_ne _ _ (by omega), up2_ne _ _ (by omega)]; exact hf2.1 a ha
            · rw [up2_ne _ _ (by omega), up2_ne _ _ (by omega)]; exact hf2.2 k hk
            · rw [up2_ne _ _ (by omega), up2_ne _ _ (by omega)]; exact q1
            · rw [up2_ne _ _ (by omega), up2_nj _ _ (by omega)]; exact q2 q hq
            · rw [up2_ne _ _ (by omega), up2_at]
            · rw [up2_ne _ _ (by omega), up2_ne _ _ (by omega)]; exact q4
            · by_cases e : r = c
              · rw [e, up2_at, if_pos (by omega)]
              · rw [up2_nj _ _ e, up2_ne _ _ (by omega), q5 r hr]
                by_cases l : r < c
                · rw [if_pos l, if_pos (by omega)]
                · rw [if_neg l, if_neg (by omega)]
          · rw [if_neg hfit] at hcf
            refine r_iload_n d_X2_settle_77 rfl ?_
            refine r_aload_n d_X2_settle_78 rfl ?_
            refine r_geti d_X2_settle_79 f_X2_35 (th_0 _ _ hh) (by decide) (by decide) ?_
            refine r_icmp_ge d_X2_settle_82 (by omega) (by omega) (fun c82 => absurd c82 (by omega)) (fun c82 => ?_)
            refine r_aload_n d_X2_settle_85 rfl ?_
            refine r_iload_n d_X2_settle_86 rfl ?_
            refine r_iload_n d_X2_settle_87 rfl ?_
            refine r_V2i d_X2_settle_88 (w_X2_51 _ rfl) (th_0 _ _ hh) rfl rfl (hcf) (by decide) (Nat.le_of_ble_eq_true rfl) (fun z88 T88 I88 L88 R88 h88 => ?_)
            obtain ⟨rfl, rfl, rfl, rfl, rfl⟩ := h88
            refine r_if_eq d_X2_settle_91 (by omega) (fun c91 => ?_) (fun c91 => absurd c91 (by decide))
            refine r_iinc d_X2_settle_129 rfl (by decide) ?_
            refine r_goto d_X2_settle_132 ?_
            refine CpL (ih2 (c + 1) _ (by omega) hf2 q1 q2 ?_ q4 (fun r hr => ?_)) (by repeat (first | exact trivial | refine ⟨rfl, ?_⟩))
            · rw [q3]
              show _ = (((if fitS σ c b = true then fmS σ b c ||| 2 ^ c else fmS σ b c) : Nat) : Int)
              rw [if_neg hfit]
            · rw [q5 r hr]
              by_cases l : r < c
              · rw [if_pos l, if_pos (by omega)]
              · rw [if_neg l]
                by_cases e : r = c
                · rw [if_pos (by omega), e]
                  show _ = (if fitS σ c b = true then (if σ 10 b < pmS σ c b then σ 10 b else pmS σ c b) else pmS σ c b)
                  rw [if_neg hfit]
                · rw [if_neg (by omega)]
      refine r_iload_n d_X2_settle_31 rfl ?_
      refine r_aload_n d_X2_settle_32 rfl ?_
      refine r_geti d_X2_settle_33 f_X2_42 (th_0 _ _ hh) (by decide) (by decide) ?_
      refine r_icmp_ge d_X2_settle_36 (by omega) (by omega) (fun c36 => absurd c36 (by omega)) (fun c36 => ?_)
      refine r_aload_n d_X2_settle_39 rfl ?_
      refine r_dup d_X2_settle_40 rfl ?_
      refine r_geti d_X2_settle_41 f_X2_48 (th_0 _ _ hh) (by decide) (by decide) ?_
      refine r_bipush d_X2_settle_44 (by decide) ?_
      refine r_aload_n d_X2_settle_46 rfl ?_
      refine r_getr d_X2_settle_47 f_X2_19 (th_0 _ _ hh) (by decide) rfl (rh_2 _ hh) ?_
      refine r_iload_n d_X2_settle_50 rfl ?_
      refine r_aaldJ d_X2_settle_51 (th_14 _ _ hh) (by decide) rfl (by omega) (rh2_14 _ hh (by omega)) (kk := ?_)
      refine r_iconst d_X2_settle_52 ?_
      refine r_ialdJ (j := 0) d_X2_settle_53 (th2_14 _ _ hh (by omega)) rfl (by omega) (kk := ?_)
      refine r_isub d_X2_settle_54 ?_
      refine r_aload_n d_X2_settle_55 rfl ?_
      refine r_getr d_X2_settle_56 f_X2_19 (th_0 _ _ hh) (by decide) rfl (rh_2 _ hh) ?_
      refine r_iload_n d_X2_settle_59 rfl ?_
      refine r_aaldJ d_X2_settle_60 (th_14 _ _ hh) (by decide) rfl (by omega) (rh2_14 _ hh (by omega)) (kk := ?_)
      refine r_iconst d_X2_settle_61 ?_
      refine r_ialdJ (j := 3) d_X2_settle_62 (th2_14 _ _ hh (by omega)) rfl (by omega) (kk := ?_)
      refine r_imul d_X2_settle_63 ?_
      refine r_iadd d_X2_settle_64 ?_
      rw [ebr]
      refine r_puti d_X2_settle_65 f_X2_48 (th_0 _ _ hh) (by decide) (Or.inl rfl) ?_
      refine r_aload_n d_X2_settle_68 rfl ?_
      refine r_getr d_X2_settle_69 f_X2_26 (th_0 _ _ hh) (by decide) rfl (rh_8 _ hh) ?_
      refine r_iload_n d_X2_settle_72 rfl ?_
      refine r_iconst d_X2_settle_73 ?_
      refine r_iastJ d_X2_settle_74 (th_24 _ _ hh) (by omega) rfl (by omega) (kk := ?_)
      refine r_iconst d_X2_settle_75 ?_
      refine r_istore_n d_X2_settle_76 (by decide) ?_
      refine CpL (rooms nr 0 _ (by omega) ⟨fun a ha => ?_, fun k hk => ?_⟩ ?_ (fun q hq => ?_) ?_ ?_ (fun r hr => ?_)) (by repeat (first | exact trivial | refine ⟨rfl, ?_⟩))
      · rw [up2_ne _ _ (by omega), up2_ne _ _ (by omega)]; exact hf.1 a ha
      · rw [up2_ne _ _ (by omega), up2_nj _ _ hk]; exact hf.2 k hk
      · rw [up2_ne _ _ (by omega), up2_at]
      · rw [up2_nj _ _ (by omega), up2_ne _ _ (by omega)]; exact p2 q hq
      · rw [up2_at]; rfl
      · rw [up2_ne _ _ (by omega), up2_ne _ _ (by omega)]; exact p3
      · rw [up2_ne _ _ (by omega), up2_ne _ _ (by omega), if_neg (by omega)]; exact p4 r hr
  have first : ∀ (k b : Nat) (I1 : sI), b + k = nr → fst4 hb I I1 → I1 hb 11 = 0 → (∀ r, r < b → I1 (hb + 26) r = 99) → Cp g 1 m_X2_settle 0 0 (qV fun T' I' L' R' => T' = TT Ls tl ∧ R' = RR tl ∧ L' = L ∧ fst4 hb I I' ∧ HS hb σ nr ng I') 7 [(0, vr hb), (1, vi (b : Int))] [] (TT Ls tl) I1 L (RR tl) := by
    intro k
    induction k with
    | zero =>
      intro b I1 hbk hf p1 p2
      have hX1 := HX_fst hV hX hf
      have hn : I1 hb 3 = (nr : Int) := hX1.1
      refine r_iload_n d_X2_settle_7 rfl ?_
      refine r_aload_n d_X2_settle_8 rfl ?_
      refine r_geti d_X2_settle_9 f_X2_35 (th_0 _ _ hh) (by decide) (by decide) ?_
      refine r_icmp_ge d_X2_settle_12 (by omega) (by omega) (fun c12 => ?_) (fun c12 => absurd c12 (by omega))
      refine r_iconst d_X2_settle_29 ?_
      refine r_istore_n d_X2_settle_30 (by decide) ?_
      exact CpL (guests ng 0 I1 (by omega) hf p1 (fun q hq => absurd hq (by omega)) ⟨fun _ => 0, fun i hi => absurd hi (by omega), fun i j h1 h2 => absurd h2 (by omega)⟩ (fun r hr => p2 r (by omega))) (by repeat (first | exact trivial | refine ⟨rfl, ?_⟩))
    | succ k ih =>
      intro b I1 hbk hf p1 p2
      have hX1 := HX_fst hV hX hf
      have hn : I1 hb 3 = (nr : Int) := hX1.1
      refine r_iload_n d_X2_settle_7 rfl ?_
      refine r_aload_n d_X2_settle_8 rfl ?_
      refine r_geti d_X2_settle_9 f_X2_35 (th_0 _ _ hh) (by decide) (by decide) ?_
      refine r_icmp_ge d_X2_settle_12 (by omega) (by omega) (fun c12 => absurd c12 (by omega)) (fun c12 => ?_)
      refine r_aload_n d_X2_settle_15 rfl ?_
      refine r_getr d_X2_settle_16 f_X2_32 (th_0 _ _ hh) (by decide) rfl (rh_10 _ hh) ?_
      refine r_iload_n d_X2_settle_19 rfl ?_
      refine r_bipush d_X2_settle_20 (by decide) ?_
      refine r_iastJ d_X2_settle_22 (th_26 _ _ hh) (by omega) rfl (by omega) (kk := ?_)
      refine r_iinc d_X2_settle_23 rfl (by decide) ?_
      refine r_goto d_X2_settle_26 ?_
      refine CpL (ih (b + 1) _ (by omega) ⟨fun a ha => ?_, fun k hk => ?_⟩ ?_ (fun r hr => ?_)) (by repeat (first | exact trivial | refine ⟨rfl, ?_⟩))
      · rw [up2_ne _ _ (by omega)]; exact hf.1 a ha
      · rw [up2_ne _ _ (by omega)]; exact hf.2 k hk
      · rw [up2_ne _ _ (by omega)]; exact p1
      · by_cases e : r = b
        · rw [e, up2_at]
        · rw [up2_nj _ _ e]; exact p2 r (by omega)
  refine r_aload_n d_X2_settle_0 rfl ?_
  refine r_iconst d_X2_settle_1 ?_
  refine r_puti d_X2_settle_2 f_X2_48 (th_0 _ _ hh) (by decide) (Or.inl rfl) ?_
  refine r_iconst d_X2_settle_5 ?_
  refine r_istore_n d_X2_settle_6 (by decide) ?_
  exact CpL (first nr 0 _ (by omega) ⟨fun a ha => up2_ne _ _ (by omega), fun k hk => up2_nj _ _ hk⟩ (up2_at _ _ _ _) (fun r hr => absurd hr (by omega))) (by repeat (first | exact trivial | refine ⟨rfl, ?_⟩))
end C34
