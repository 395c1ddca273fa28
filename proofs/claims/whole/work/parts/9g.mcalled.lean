theorem WRX_ex {σ : Sg} {ℓ ab : Int} {nr nW ng : Nat} {how : Int} (hS : SV σ ℓ nr nW) (hg8 : ng ≤ 8) (hg : ∀ q, q < ng → GV σ q) (h7 : nr < 7) : ∃ W : Nat → Int, ∀ bit z, WRT σ ℓ ab nr nW ng how bit z → z = W bit := by
  have h : ∀ bit : Nat, ∃ c : Int, ∀ z, WRT σ ℓ ab nr nW ng how bit z → z = c := fun bit => by
    by_cases hx : ∃ z, WRT σ ℓ ab nr nW ng how bit z
    · obtain ⟨c, hc⟩ := hx
      exact ⟨c, fun z hz => WRT_uq hS hg8 hg h7 hz hc⟩
    · exact ⟨0, fun z hz => absurd ⟨z, hz⟩ hx⟩
  exact Classical.axiomOfChoice h
theorem cd_neg {σ : Sg} {W : Nat → Int} : ∀ n, (cdX σ W n).1 = -1 → (cdX σ W n).2 = -1
  | 0, _ => rfl
  | n + 1, h => by
    unfold cdX at h ⊢
    split at h
    · exact absurd h (by show ¬ (n : Int) = -1; omega)
    · next hn => rw [if_neg hn]; exact cd_neg n h
theorem cd_bd {σ : Sg} {W : Nat → Int} : ∀ n, (∀ r, r < n → σ 6 r = -1 → σ 4 r ≠ -1 → 0 ≤ W (chn σ r) ∧ W (chn σ r) ≤ 96000000) → -1 ≤ (cdX σ W n).2 ∧ (cdX σ W n).2 ≤ 96000000
  | 0, _ => by show (-1 : Int) ≤ -1 ∧ (-1 : Int) ≤ 96000000; omega
  | n + 1, h => by
    have ih := cd_bd n (fun r hr => h r (by omega))
    unfold cdX
    split
    · next hc => have := h n (by omega) hc.1.1 hc.1.2; show -1 ≤ W (chn σ n) ∧ W (chn σ n) ≤ 96000000; omega
    · exact ih
def cmS (σ : Sg) (W : Nat → Int) (n : Nat) : Int := if (cdX σ W n).1 = -1 then 0 else (cdX σ W n).2
section X9g
variable {g : sG} {Ls : Nat} {T : sT} {R : sR} {I L : sI} {σ δ : Sg} {ℓ ab : Int} {nr nw nW ng : Nat} {tl : List Nat} {ukd unn : Nat → Int} {utr utw : Nat → Nat → Nat}
theorem x_called (hM : MS σ ℓ nr nw ng tl ukd unn utr utw I) {how q : Int} (hh : i32 how) (hq : I 139 25 = q) (hq2 : 0 ≤ q ∧ q ≤ 16) : Mc g 9 m_X8_called 0 0 [vr 139, vi how] (TT Ls tl) I L (RR tl) (AKM σ ℓ nr nw ng Ls tl ukd unn utr utw I L (aCalled σ ℓ nr nw ng how q)) := by
  refine Mc_of rfl (Nat.le_of_ble_eq_true rfl) ?_
  obtain ⟨hV, h3, hcan, hA, hX, hl, hwm, hN, hR⟩ := id hM
  have hh2 : -2147483648 ≤ how ∧ how ≤ 2147483647 := hh
  have e0 := hX.1
  have s1 := hV.1.1
  have hgi := x_isGiving (g := g) (T := TT Ls tl) (I := I) (L := L) (R := RR tl) hh2
  have ref : ∀ z : Int, dfC nr how q = z → z ≠ 0 → AKM σ ℓ nr nw ng Ls tl ukd unn utr utw I L (aCalled σ ℓ nr nw ng how q) (some (vi z)) (TT Ls tl) I L (RR tl) := fun z h1 h2 => AKM_no hM hq ⟨fun _ => ⟨h1.symm, rfl⟩, fun h => absurd (h1.symm.trans h) h2⟩
  by_cases k1 : 0 < nr
  · by_cases k2 : how = 0 ∨ how = 1
    · rw [if_pos k2] at hgi
      by_cases k4 : nr ≤ 6 ∧ q < 16
      · have ez : dfC nr how q = 0 := by unfold dfC; rw [if_pos k1, if_pos k2, if_pos k4]
        obtain ⟨a1, a2⟩ := MS_ask hM (v := I 139 25 + 1)
        obtain ⟨m1, m2⟩ := MS_all a1
        obtain ⟨I0, hI0⟩ : ∃ I0 : sI, I0 = up2 (up2 (up2 I 139 25 (I 139 25 + 1)) 139 56 (up2 I 139 25 (I 139 25 + 1) 139 8)) 139 55 (-1) := ⟨_, rfl⟩
        rw [← hI0] at m1 m2
        have f0 : FQ I I0 := FQ_tr a2 (FP_FQ m2)
        have e25 : I0 139 25 = q + 1 := by rw [m2.2 25 (by omega), up2_at, hq]
        obtain ⟨hw, rfl⟩ : ∃ hw : Nat, how = (hw : Int) := ⟨how.toNat, by omega⟩
        obtain ⟨W, hW⟩ := WRX_ex (ab := -1) (how := (hw : Int)) hV.1 hV.2.1 hV.2.2.1 (show nr < 7 by omega)
        obtain ⟨Q, hQ⟩ : ∃ Q : sQ, Q = AKM σ ℓ nr nw ng Ls tl ukd unn utr utw I L (aCalled σ ℓ nr nw ng (hw : Int) q) := ⟨_, rfl⟩
        rw [← hQ]
        have loop : ∀ (k n : Nat) (I1 : sI), n + k = nr → FM I0 I1 → KNM σ ℓ (-1) nr nw ng I1 → (∀ r, r < n → σ 6 r = -1 → σ 4 r ≠ -1 → WRT σ ℓ (-1) nr nw ng (hw : Int) (chn σ r) (W (chn σ r)) ∧ (0 ≤ W (chn σ r) ∧ W (chn σ r) ≤ 96000000)) → Cp g 9 m_X8_called 0 0 Q 62 [(0, vr 139), (1, vi (hw : Int)), (2, vi (cdX σ W n).1), (3, vi (cmS σ W n)), (4, vi (n : Int))] [] (TT Ls tl) I1 L (RR tl) := by
          intro k
          induction k with
          | zero =>
            intro n I1 hk f hN1 hd
            have er : I1 139 0 = (nr : Int) := (MX_fm m1.2.2.2.2.1 f).1
            have en : n = nr := by omega
            refine r_iload d_X8_called_62 rfl ?_
            refine r_aload_n d_X8_called_64 rfl ?_
            refine r_geti d_X8_called_65 f_X8_232 (tt_139 _ _) (by decide) (by decide) ?_
            refine r_icmp_ge d_X8_called_68 (by omega) (by omega) (fun c68 => ?_) (fun c68 => absurd c68 (by omega))
            refine r_iload_n d_X8_called_137 rfl ?_
            refine r_iret d_X8_called_138 rfl ?_
            rw [hQ]
            refine ⟨_, rfl, rfl, rfl, rfl, FQ_tr f0 (FP_FQ (FM_FP f)), MS_fp a1 (FP_tr m2 (FM_FP f)) hN1, ?_⟩
            rw [f.2 25 (by omega), e25]
            exact ⟨fun h => absurd ez h, fun _ => ⟨rfl, W, fun r hr _ h6 h4 => (hd r (by omega) h6 h4).1, by rw [en]⟩⟩
          | succ k ih =>
            intro n I1 hk f hN1 hd
            have hnn : n < nr := by omega
            have hX1 := MX_fm m1.2.2.2.2.1 f
            have er : I1 139 0 = (nr : Int) := hX1.1
            have hic := x_isCalled (g := g) (Ls := Ls) (tl := tl) (L := L) hV hX1 (room := (n : Int)) (by unfold i32; omega)
            rw [Int.toNat_natCast] at hic
            have es : cdX σ W (n + 1) = if (σ 6 n = -1 ∧ σ 4 n ≠ -1) ∧ (cdX σ W n).2 < W (chn σ n) then ((n : Int), W (chn σ n)) else cdX σ W n := rfl
            have crg := cd_rg (σ := σ) (W := W) n
            have cbd := cd_bd (σ := σ) (W := W) n (fun r hr h6 h4 => (hd r hr h6 h4).2)
            by_cases kc : σ 6 n = -1 ∧ σ 4 n ≠ -1
            · rw [if_pos ⟨by omega, kc⟩] at hic
              have t89 : ∀ I2 : sI, FM I0 I2 → KNM σ ℓ (-1) nr nw ng I2 → (0 ≤ W (chn σ n) ∧ W (chn σ n) ≤ 96000000) → WRT σ ℓ (-1) nr nw ng (hw : Int) (chn σ n) (W (chn σ n)) → Cp g 9 m_X8_called 0 0 Q 89 [(0, vr 139), (1, vi (hw : Int)), (2, vi (cdX σ W n).1), (3, vi (cmS σ W n)), (4, vi (n : Int)), (5, vi (W (chn σ n)))] [] (TT Ls tl) I2 L (RR tl) := by
                intro I2 f2 hN2 hb2 hwr
                have hd2 : ∀ r, r < n + 1 → σ 6 r = -1 → σ 4 r ≠ -1 → WRT σ ℓ (-1) nr nw ng (hw : Int) (chn σ r) (W (chn σ r)) ∧ (0 ≤ W (chn σ r) ∧ W (chn σ r) ≤ 96000000) := fun r hr h6 h4 => by
                  by_cases e : r = n
                  · rw [e]; exact ⟨hwr, hb2⟩
                  · exact hd r (by omega) h6 h4
                by_cases c5 : (cdX σ W n).1 = -1
                · have hn := cd_neg n c5
                  rw [if_pos ⟨kc, by omega⟩] at es
                  have e1 : (cdX σ W (n + 1)).1 = (n : Int) := by rw [es]
                  have e2 : cmS σ W (n + 1) = W (chn σ n) := by unfold cmS; rw [es, if_neg (by show ¬ (n : Int) = -1; omega)]
                  refine r_iload_n d_X8_called_89 rfl ?_
                  refine r_iconst d_X8_called_90 ?_
                  refine r_icmp_eq d_X8_called_91 (by omega) (by omega) (fun c91 => ?_) (fun c91 => absurd c91 (by exact fun q => q c5))
                  refine r_iconst d_X8_called_100 ?_
                  refine r_goto d_X8_called_101 ?_
                  refine r_istore d_X8_called_105 (by decide) ?_
                  refine r_iload d_X8_called_107 rfl ?_
                  refine r_if_eq d_X8_called_109 (by omega) (fun c109 => absurd c109 (by decide)) (fun c109 => ?_)
                  refine r_iload d_X8_called_112 rfl ?_
                  refine r_goto d_X8_called_114 ?_
                  refine r_istore_n d_X8_called_118 (by decide) ?_
                  refine r_iload d_X8_called_119 rfl ?_
                  refine r_if_eq d_X8_called_121 (by omega) (fun c121 => absurd c121 (by decide)) (fun c121 => ?_)
                  refine r_iload d_X8_called_124 rfl ?_
                  refine r_goto d_X8_called_126 ?_
                  refine r_istore_n d_X8_called_130 (by decide) ?_
                  refine r_iinc d_X8_called_131 rfl (by decide) ?_
                  refine r_goto d_X8_called_134 ?_
                  exact CpL (ih (n + 1) I2 (by omega) f2 hN2 hd2) (by repeat (first | exact trivial | refine ⟨rfl, ?_⟩ | refine ⟨by rw [e1]; rfl, ?_⟩ | refine ⟨by rw [e2]; rfl, ?_⟩))
                · have ecm : cmS σ W n = (cdX σ W n).2 := by unfold cmS; rw [if_neg c5]
                  by_cases c6 : (cdX σ W n).2 < W (chn σ n)
                  · rw [if_pos ⟨kc, c6⟩] at es
                    have e1 : (cdX σ W (n + 1)).1 = (n : Int) := by rw [es]
                    have e2 : cmS σ W (n + 1) = W (chn σ n) := by unfold cmS; rw [es, if_neg (by show ¬ (n : Int) = -1; omega)]
                    refine r_iload_n d_X8_called_89 rfl ?_
                    refine r_iconst d_X8_called_90 ?_
                    refine r_icmp_eq d_X8_called_91 (by omega) (by omega) (fun c91 => absurd c91 (by exact c5)) (fun c91 => ?_)
                    refine r_iload d_X8_called_94 rfl ?_
                    refine r_iload_n d_X8_called_96 rfl ?_
                    refine r_icmp_le d_X8_called_97 (by omega) (by omega) (fun c97 => absurd c97 (by omega)) (fun c97 => ?_)
                    refine r_iconst d_X8_called_100 ?_
                    refine r_goto d_X8_called_101 ?_
                    refine r_istore d_X8_called_105 (by decide) ?_
                    refine r_iload d_X8_called_107 rfl ?_
                    refine r_if_eq d_X8_called_109 (by omega) (fun c109 => absurd c109 (by decide)) (fun c109 => ?_)
                    refine r_iload d_X8_called_112 rfl ?_
                    refine r_goto d_X8_called_114 ?_
                    refine r_istore_n d_X8_called_118 (by decide) ?_
                    refine r_iload d_X8_called_119 rfl ?_
                    refine r_if_eq d_X8_called_121 (by omega) (fun c121 => absurd c121 (by decide)) (fun c121 => ?_)
                    refine r_iload d_X8_called_124 rfl ?_
                    refine r_goto d_X8_called_126 ?_
                    refine r_istore_n d_X8_called_130 (by decide) ?_
                    refine r_iinc d_X8_called_131 rfl (by decide) ?_
                    refine r_goto d_X8_called_134 ?_
                    exact CpL (ih (n + 1) I2 (by omega) f2 hN2 hd2) (by repeat (first | exact trivial | refine ⟨rfl, ?_⟩ | refine ⟨by rw [e1]; rfl, ?_⟩ | refine ⟨by rw [e2]; rfl, ?_⟩))
                  · rw [if_neg (fun h => c6 h.2)] at es
                    have e1 : (cdX σ W (n + 1)).1 = (cdX σ W n).1 := by rw [es]
                    have e2 : cmS σ W (n + 1) = cmS σ W n := by unfold cmS; rw [es]
                    refine r_iload_n d_X8_called_89 rfl ?_
                    refine r_iconst d_X8_called_90 ?_
                    refine r_icmp_eq d_X8_called_91 (by omega) (by omega) (fun c91 => absurd c91 (by exact c5)) (fun c91 => ?_)
                    refine r_iload d_X8_called_94 rfl ?_
                    refine r_iload_n d_X8_called_96 rfl ?_
                    refine r_icmp_le d_X8_called_97 (by omega) (by omega) (fun c97 => ?_) (fun c97 => absurd c97 (by omega))
                    refine r_iconst d_X8_called_104 ?_
                    refine r_istore d_X8_called_105 (by decide) ?_
                    refine r_iload d_X8_called_107 rfl ?_
                    refine r_if_eq d_X8_called_109 (by omega) (fun c109 => ?_) (fun c109 => absurd c109 (by decide))
                    refine r_iload_n d_X8_called_117 rfl ?_
                    refine r_istore_n d_X8_called_118 (by decide) ?_
                    refine r_iload d_X8_called_119 rfl ?_
                    refine r_if_eq d_X8_called_121 (by omega) (fun c121 => ?_) (fun c121 => absurd c121 (by decide))
                    refine r_iload_n d_X8_called_129 rfl ?_
                    refine r_istore_n d_X8_called_130 (by decide) ?_
                    refine r_iinc d_X8_called_131 rfl (by decide) ?_
                    refine r_goto d_X8_called_134 ?_
                    exact CpL (ih (n + 1) I2 (by omega) f2 hN2 hd2) (by repeat (first | exact trivial | refine ⟨rfl, ?_⟩ | refine ⟨by rw [e1]; rfl, ?_⟩ | refine ⟨by rw [e2]; rfl, ?_⟩))
              refine r_iload d_X8_called_62 rfl ?_
              refine r_aload_n d_X8_called_64 rfl ?_
              refine r_geti d_X8_called_65 f_X8_232 (tt_139 _ _) (by decide) (by decide) ?_
              refine r_icmp_ge d_X8_called_68 (by omega) (by omega) (fun c68 => absurd c68 (by omega)) (fun c68 => ?_)
              refine r_aload_n d_X8_called_71 rfl ?_
              refine r_iload d_X8_called_72 rfl ?_
              refine r_V1i d_X8_called_74 (w_X8_441 _ rfl) (tt_139 _ _) rfl rfl (hic) (by decide) (Nat.le_of_ble_eq_true rfl) (fun z74 T74 I74 L74 R74 h74 => ?_)
              obtain ⟨rfl, rfl, rfl, rfl, rfl⟩ := h74
              refine r_if_eq d_X8_called_77 (by omega) (fun c77 => absurd c77 (by decide)) (fun c77 => ?_)
              refine r_aload_n d_X8_called_80 rfl ?_
              refine r_iload_n d_X8_called_81 rfl ?_
              refine r_iload d_X8_called_82 rfl ?_
              refine r_V2i d_X8_called_84 (w_X8_444 _ rfl) (tt_139 _ _) rfl rfl (x_worthOfCall (MB_fm m1 f hN1) (hw := hw) (r := n) (by omega) k4.1 hnn kc.2 kc.1) (by decide) (Nat.le_of_ble_eq_true rfl) (fun z84 T84 I84 L84 R84 h84 => ?_)
              obtain ⟨rfl, rfl, rfl, y1, y2, y3, y4⟩ := h84
              refine r_istore d_X8_called_87 (by decide) ?_
              have hz := hW _ z84 y4
              rw [hz] at y3 y4
              exact CpL (t89 I84 (FM_tr f y1) y2 y3 y4) (by repeat (first | exact trivial | refine ⟨rfl, ?_⟩ | refine ⟨by rw [hz]; rfl, ?_⟩))
            · rw [if_neg (fun p => kc p.2)] at hic
              rw [if_neg (fun h => kc h.1)] at es
              have e1 : (cdX σ W (n + 1)).1 = (cdX σ W n).1 := by rw [es]
              have e2 : cmS σ W (n + 1) = cmS σ W n := by unfold cmS; rw [es]
              refine r_iload d_X8_called_62 rfl ?_
              refine r_aload_n d_X8_called_64 rfl ?_
              refine r_geti d_X8_called_65 f_X8_232 (tt_139 _ _) (by decide) (by decide) ?_
              refine r_icmp_ge d_X8_called_68 (by omega) (by omega) (fun c68 => absurd c68 (by omega)) (fun c68 => ?_)
              refine r_aload_n d_X8_called_71 rfl ?_
              refine r_iload d_X8_called_72 rfl ?_
              refine r_V1i d_X8_called_74 (w_X8_441 _ rfl) (tt_139 _ _) rfl rfl (hic) (by decide) (Nat.le_of_ble_eq_true rfl) (fun z74 T74 I74 L74 R74 h74 => ?_)
              obtain ⟨rfl, rfl, rfl, rfl, rfl⟩ := h74
              refine r_if_eq d_X8_called_77 (by omega) (fun c77 => ?_) (fun c77 => absurd c77 (by decide))
              refine r_iinc d_X8_called_131 rfl (by decide) ?_
              refine r_goto d_X8_called_134 ?_
              refine CpL (ih (n + 1) I1 (by omega) f hN1 (fun r hr h6 h4 => ?_)) (by repeat (first | exact trivial | refine ⟨rfl, ?_⟩ | refine ⟨by rw [e1]; rfl, ?_⟩ | refine ⟨by rw [e2]; rfl, ?_⟩))
              by_cases e : r = n
              · rw [e] at h6 h4; exact absurd ⟨h6, h4⟩ kc
              · exact hd r (by omega) h6 h4
        refine r_aload_n d_X8_called_0 rfl ?_
        refine r_geti d_X8_called_1 f_X8_232 (tt_139 _ _) (by decide) (by decide) ?_
        refine r_if_ne d_X8_called_4 (by omega) (fun c4 => ?_) (fun c4 => absurd c4 (by omega))
        refine r_iload_n d_X8_called_10 rfl ?_
        refine r_S1i d_X8_called_11 (w_X8_403 _ rfl) (hgi) (by decide) (Nat.le_of_ble_eq_true rfl) (fun z11 T11 I11 L11 R11 h11 => ?_)
        obtain ⟨rfl, rfl, rfl, rfl, rfl⟩ := h11
        refine r_if_ne d_X8_called_14 (by omega) (fun c14 => ?_) (fun c14 => absurd c14 (by decide))
        refine r_aload_n d_X8_called_20 rfl ?_
        refine r_geti d_X8_called_21 f_X8_232 (tt_139 _ _) (by decide) (by decide) ?_
        refine r_bipush d_X8_called_24 (by decide) ?_
        refine r_icmp_gt d_X8_called_26 (by omega) (by omega) (fun c26 => absurd c26 (by omega)) (fun c26 => ?_)
        refine r_aload_n d_X8_called_29 rfl ?_
        refine r_geti d_X8_called_30 f_X8_435 (tt_139 _ _) (by decide) (by decide) ?_
        refine r_bipush d_X8_called_33 (by decide) ?_
        refine r_icmp_ne d_X8_called_35 (by omega) (by omega) (fun c35 => ?_) (fun c35 => absurd c35 (by omega))
        refine r_aload_n d_X8_called_41 rfl ?_
        refine r_dup d_X8_called_42 rfl ?_
        refine r_geti d_X8_called_43 f_X8_435 (tt_139 _ _) (by decide) (by decide) ?_
        refine r_iconst d_X8_called_46 ?_
        refine r_iadd d_X8_called_47 ?_
        refine r_puti d_X8_called_48 f_X8_435 (tt_139 _ _) (by decide) (Or.inl rfl) ?_
        refine r_aload_n d_X8_called_51 rfl ?_
        refine r_V0v d_X8_called_52 (w_X8_400 _ rfl) (tt_139 _ _) rfl rfl (x_allWomen) (by decide) (Nat.le_of_ble_eq_true rfl) (fun T52 I52 L52 R52 h52 => ?_)
        obtain ⟨rfl, rfl, rfl, rfl⟩ := h52
        refine r_iconst d_X8_called_55 ?_
        refine r_istore_n d_X8_called_56 (by decide) ?_
        refine r_iconst d_X8_called_57 ?_
        refine r_istore_n d_X8_called_58 (by decide) ?_
        refine r_iconst d_X8_called_59 ?_
        refine r_istore d_X8_called_60 (by decide) ?_
        rw [← hI0]
        exact CpL (loop _ 0 I0 (Nat.zero_add _) FM_rf m1.2.2.2.2.2.2.1 (fun j hj => absurd hj (by omega))) (by repeat (first | exact trivial | refine ⟨rfl, ?_⟩))
      · by_cases k5 : nr ≤ 6
        · skip
          refine r_aload_n d_X8_called_0 rfl ?_
          refine r_geti d_X8_called_1 f_X8_232 (tt_139 _ _) (by decide) (by decide) ?_
          refine r_if_ne d_X8_called_4 (by omega) (fun c4 => ?_) (fun c4 => absurd c4 (by omega))
          refine r_iload_n d_X8_called_10 rfl ?_
          refine r_S1i d_X8_called_11 (w_X8_403 _ rfl) (hgi) (by decide) (Nat.le_of_ble_eq_true rfl) (fun z11 T11 I11 L11 R11 h11 => ?_)
          obtain ⟨rfl, rfl, rfl, rfl, rfl⟩ := h11
          refine r_if_ne d_X8_called_14 (by omega) (fun c14 => ?_) (fun c14 => absurd c14 (by decide))
          refine r_aload_n d_X8_called_20 rfl ?_
          refine r_geti d_X8_called_21 f_X8_232 (tt_139 _ _) (by decide) (by decide) ?_
          refine r_bipush d_X8_called_24 (by decide) ?_
          refine r_icmp_gt d_X8_called_26 (by omega) (by omega) (fun c26 => absurd c26 (by omega)) (fun c26 => ?_)
          refine r_aload_n d_X8_called_29 rfl ?_
          refine r_geti d_X8_called_30 f_X8_435 (tt_139 _ _) (by decide) (by decide) ?_
          refine r_bipush d_X8_called_33 (by decide) ?_
          refine r_icmp_ne d_X8_called_35 (by omega) (by omega) (fun c35 => absurd c35 (by omega)) (fun c35 => ?_)
          refine r_bipush d_X8_called_38 (by decide) ?_
          refine r_iret d_X8_called_40 rfl ?_
          exact ref _ (by unfold dfC; rw [if_pos k1, if_pos k2, if_neg k4]) (by decide)
        · skip
          refine r_aload_n d_X8_called_0 rfl ?_
          refine r_geti d_X8_called_1 f_X8_232 (tt_139 _ _) (by decide) (by decide) ?_
          refine r_if_ne d_X8_called_4 (by omega) (fun c4 => ?_) (fun c4 => absurd c4 (by omega))
          refine r_iload_n d_X8_called_10 rfl ?_
          refine r_S1i d_X8_called_11 (w_X8_403 _ rfl) (hgi) (by decide) (Nat.le_of_ble_eq_true rfl) (fun z11 T11 I11 L11 R11 h11 => ?_)
          obtain ⟨rfl, rfl, rfl, rfl, rfl⟩ := h11
          refine r_if_ne d_X8_called_14 (by omega) (fun c14 => ?_) (fun c14 => absurd c14 (by decide))
          refine r_aload_n d_X8_called_20 rfl ?_
          refine r_geti d_X8_called_21 f_X8_232 (tt_139 _ _) (by decide) (by decide) ?_
          refine r_bipush d_X8_called_24 (by decide) ?_
          refine r_icmp_gt d_X8_called_26 (by omega) (by omega) (fun c26 => ?_) (fun c26 => absurd c26 (by omega))
          refine r_bipush d_X8_called_38 (by decide) ?_
          refine r_iret d_X8_called_40 rfl ?_
          exact ref _ (by unfold dfC; rw [if_pos k1, if_pos k2, if_neg k4]) (by decide)
    · rw [if_neg k2] at hgi
      refine r_aload_n d_X8_called_0 rfl ?_
      refine r_geti d_X8_called_1 f_X8_232 (tt_139 _ _) (by decide) (by decide) ?_
      refine r_if_ne d_X8_called_4 (by omega) (fun c4 => ?_) (fun c4 => absurd c4 (by omega))
      refine r_iload_n d_X8_called_10 rfl ?_
      refine r_S1i d_X8_called_11 (w_X8_403 _ rfl) (hgi) (by decide) (Nat.le_of_ble_eq_true rfl) (fun z11 T11 I11 L11 R11 h11 => ?_)
      obtain ⟨rfl, rfl, rfl, rfl, rfl⟩ := h11
      refine r_if_ne d_X8_called_14 (by omega) (fun c14 => absurd c14 (by decide)) (fun c14 => ?_)
      refine r_bipush d_X8_called_17 (by decide) ?_
      refine r_iret d_X8_called_19 rfl ?_
      exact ref _ (by unfold dfC; rw [if_pos k1, if_neg k2]) (by decide)
  · skip
    refine r_aload_n d_X8_called_0 rfl ?_
    refine r_geti d_X8_called_1 f_X8_232 (tt_139 _ _) (by decide) (by decide) ?_
    refine r_if_ne d_X8_called_4 (by omega) (fun c4 => absurd c4 (by omega)) (fun c4 => ?_)
    refine r_bipush d_X8_called_7 (by decide) ?_
    refine r_iret d_X8_called_9 rfl ?_
    exact ref _ (by unfold dfC; rw [if_neg k1]) (by decide)
end X9g
