theorem choS_bd {σ : Sg} {ℓ ab : Int} {pm : Nat → Int} {kd : Int} {nr : Nat} {δ : Sg} {w : Nat} : -1 ≤ choS σ ℓ ab pm kd nr δ w ∧ choS σ ℓ ab pm kd nr δ w < nr := amin_rng _ _ _
theorem ffS_bd {en : Nat → Bool} {δ : Sg} {nW : Nat} : -1 ≤ ffS en δ nW ∧ ffS en δ nW < nW := amin_rng _ _ _
def PX (pm : Nat → Int) (nr : Nat) (I : sI) : Prop := ∀ r, r < nr → I 34 r = pm r ∧ 0 ≤ pm r ∧ pm r ≤ 99
section C6
variable {g : sG} {Ls : Nat} {tl : List Nat} {I L : sI} {σ δ : Sg} {ℓ ab : Int} {nr nW : Nat} {pm : Nat → Int}
theorem c_chosenBy (hS : SV σ ℓ nr nW) (hK : KX σ ℓ ab nr nW I) (hP : PX pm nr I) (hV : DV δ nr nW) (hD : DX δ nr nW I) {w : Nat} (hw : w < nW) {kd : Int} (hk : kd = 2 ∨ kd = 3 ∨ kd = 4) : Mc g 2 m_X0_chosenBy 0 0 [vr 63, vi (w : Int), vi kd] (TT Ls tl) I L (RR tl) (qI fun z T' I' L' R' => z = choS σ ℓ ab pm kd nr δ w ∧ same (TT Ls tl) I L (RR tl) T' I' L' R') := by
  refine Mc_of rfl (Nat.le_of_ble_eq_true rfl) ?_
  have hn := hK.1
  have h8 := hS.1
  have h4 := hS.2.1
  unfold choS
  obtain ⟨A, hA0⟩ : ∃ A : Nat → Int, A = amin (fun r => decide (δ 1 r = -1 ∧ δ 0 r ≤ δ 4 w) && mayS σ ℓ ab δ w r) (fun r => ahdS σ pm kd r * 6 + absI (δ 5 w - σ 0 r)) := ⟨_, rfl⟩
  rw [← hA0]
  have ew := hD.2 w hw
  have qw := hV.2 w hw
  have loop : ∀ (k b : Nat) (x : Int), b + k = nr → (0 ≤ x ∧ x ≤ 1000) → (A b = -1 ∨ x = ahdS σ pm kd (A b).toNat * 6 + absI (δ 5 w - σ 0 (A b).toNat)) → Cp g 2 m_X0_chosenBy 0 0 (qI fun z T' I' L' R' => z = A nr ∧ same (TT Ls tl) I L (RR tl) T' I' L' R') 8 [(0, vr 63), (1, vi (w : Int)), (2, vi kd), (3, vi (A b)), (4, vi x), (5, vi (b : Int))] [] (TT Ls tl) I L (RR tl) := by
    intro k
    induction k with
    | zero =>
      intro b x hbk _ _
      refine r_iload d_X0_chosenBy_8 rfl ?_
      refine r_aload_n d_X0_chosenBy_10 rfl ?_
      refine r_getr d_X0_chosenBy_11 f_X0_46 (tt_63 _ _) (by decide) rfl (rr_63_7 _) ?_
      refine r_geti d_X0_chosenBy_14 f_X0_67 (tt_8 _ _) (by decide) (by decide) ?_
      refine r_icmp_ge d_X0_chosenBy_17 (by omega) (by omega) (fun c17 => ?_) (fun c17 => absurd c17 (by omega))
      refine r_iload_n d_X0_chosenBy_150 rfl ?_
      refine r_iret d_X0_chosenBy_151 rfl ?_
      exact ⟨_, rfl, by rw [show b = nr by omega], same_rf⟩
    | succ k ih =>
      intro b x hbk hxr hx
      have hb : b < nr := by omega
      have hrv := hS.2.2.1 b hb
      unfold RV at hrv
      have hbd := begS_bd hS hV hw hb
      have hab := absI_bd qw.2 hrv.1
      obtain ⟨eg, eb, -⟩ := hD.1 b hb
      have qb := hV.1 b hb
      have e0 : I (10 + b) 0 = σ 0 b := hK.2.1 b hb 0 (by omega)
      have e2 : I (10 + b) 2 = σ 2 b := hK.2.1 b hb 2 (by omega)
      obtain ⟨ep, qp⟩ := hP b hb
      have hrg := amin_rng (fun r => decide (δ 1 r = -1 ∧ δ 0 r ≤ δ 4 w) && mayS σ ℓ ab δ w r) (fun r => ahdS σ pm kd r * 6 + absI (δ 5 w - σ 0 r)) b
      rw [← hA0] at hrg
      have haq : 0 ≤ ahdS σ pm kd b ∧ ahdS σ pm kd b ≤ 99 := by
        unfold ahdS
        split
        · omega
        · split <;> omega
      have ea : (if 0 ≤ I 71 w - I (10 + b) 0 then I 71 w - I (10 + b) 0 else -(I 71 w - I (10 + b) 0)) = absI (δ 5 w - σ 0 b) := by rw [e0, ew.2]; rfl
      have skp : A (b + 1) = A b → (A (b + 1) = -1 ∨ x = ahdS σ pm kd (A (b + 1)).toNat * 6 + absI (δ 5 w - σ 0 (A (b + 1)).toNat)) := fun h => by rw [h]; exact hx
      refine r_iload d_X0_chosenBy_8 rfl ?_
      refine r_aload_n d_X0_chosenBy_10 rfl ?_
      refine r_getr d_X0_chosenBy_11 f_X0_46 (tt_63 _ _) (by decide) rfl (rr_63_7 _) ?_
      refine r_geti d_X0_chosenBy_14 f_X0_67 (tt_8 _ _) (by decide) (by decide) ?_
      refine r_icmp_ge d_X0_chosenBy_17 (by omega) (by omega) (fun c17 => absurd c17 (by omega)) (fun c17 => ?_)
      refine r_aload_n d_X0_chosenBy_20 rfl ?_
      refine r_getr d_X0_chosenBy_21 f_X0_37 (tt_63 _ _) (by decide) rfl (rr_63_9 _) ?_
      refine r_iload d_X0_chosenBy_24 rfl ?_
      refine r_ialdJ d_X0_chosenBy_26 (tt_74 _ _) rfl (by omega) (kk := ?_)
      refine r_iconst d_X0_chosenBy_27 ?_
      refine r_icmp_ne d_X0_chosenBy_28 (by omega) (by omega) (fun c28 => ?_) (fun c28 => ?_)
      · have hA : A (b + 1) = A b := by rw [hA0]; exact amin_no (Or.inl (by simp; intro h1 h2; omega))
        have hx' := skp hA
        have hr' := hxr
        refine r_iinc d_X0_chosenBy_144 rfl (by decide) ?_
        refine r_goto d_X0_chosenBy_147 ?_
        exact CpL (ih (b + 1) _ (by omega) hr' hx') (by repeat (first | exact trivial | refine ⟨rfl, ?_⟩ | refine ⟨by rw [hA]; rfl, ?_⟩))
      · refine r_aload_n d_X0_chosenBy_31 rfl ?_
        refine r_getr d_X0_chosenBy_32 f_X0_34 (tt_63 _ _) (by decide) rfl (rr_63_8 _) ?_
        refine r_iload d_X0_chosenBy_35 rfl ?_
        refine r_ialdJ d_X0_chosenBy_37 (tt_73 _ _) rfl (by omega) (kk := ?_)
        refine r_aload_n d_X0_chosenBy_38 rfl ?_
        refine r_getr d_X0_chosenBy_39 f_X0_24 (tt_63 _ _) (by decide) rfl (rr_63_4 _) ?_
        refine r_iload_n d_X0_chosenBy_42 rfl ?_
        refine r_ialdJ d_X0_chosenBy_43 (tt_70 _ _) rfl (by omega) (kk := ?_)
        refine r_icmp_gt d_X0_chosenBy_44 (by omega) (by omega) (fun c44 => ?_) (fun c44 => ?_)
        · have hA : A (b + 1) = A b := by rw [hA0]; exact amin_no (Or.inl (by simp; intro h1 h2; omega))
          have hx' := skp hA
          have hr' := hxr
          refine r_iinc d_X0_chosenBy_144 rfl (by decide) ?_
          refine r_goto d_X0_chosenBy_147 ?_
          exact CpL (ih (b + 1) _ (by omega) hr' hx') (by repeat (first | exact trivial | refine ⟨rfl, ?_⟩ | refine ⟨by rw [hA]; rfl, ?_⟩))
        · refine r_aload_n d_X0_chosenBy_47 rfl ?_
          refine r_iload_n d_X0_chosenBy_48 rfl ?_
          refine r_iload d_X0_chosenBy_49 rfl ?_
          refine r_V2i d_X0_chosenBy_51 (w_X0_104 _ rfl) (tt_63 _ _) rfl rfl (c_readyBy hS hK hV hD hw hb) (by decide) (Nat.le_of_ble_eq_true rfl) (fun z51 T51 I51 L51 R51 h51 => ?_)
          obtain ⟨rfl, rfl, rfl, rfl, rfl⟩ := h51
          refine r_iconst d_X0_chosenBy_54 ?_
          refine r_icmp_eq d_X0_chosenBy_55 (by split <;> omega) (by omega) (fun c55 => ?_) (fun c55 => ?_)
          · have hA : A (b + 1) = A b := by
              rw [hA0]
              refine amin_no (Or.inl ?_)
              cases hm : mayS σ ℓ ab δ w b with
              | false => simp [hm]
              | true => rw [if_pos hm] at c55; omega
            have hx' := skp hA
            have hr' := hxr
            refine r_iinc d_X0_chosenBy_144 rfl (by decide) ?_
            refine r_goto d_X0_chosenBy_147 ?_
            exact CpL (ih (b + 1) _ (by omega) hr' hx') (by repeat (first | exact trivial | refine ⟨rfl, ?_⟩ | refine ⟨by rw [hA]; rfl, ?_⟩))
          · have hm : (decide (δ 1 b = -1 ∧ δ 0 b ≤ δ 4 w) && mayS σ ℓ ab δ w b) = true := by
              cases hm : mayS σ ℓ ab δ w b with
              | true => simp; omega
              | false => rw [if_neg (by rw [hm]; decide)] at c55; omega
            refine r_aload_n d_X0_chosenBy_58 rfl ?_
            refine r_getr d_X0_chosenBy_59 f_X0_46 (tt_63 _ _) (by decide) rfl (rr_63_7 _) ?_
            refine r_getr d_X0_chosenBy_62 f_X0_107 (tt_8 _ _) (by decide) rfl (rr_8_0 _) ?_
            refine r_iload d_X0_chosenBy_65 rfl ?_
            refine r_aaldJ d_X0_chosenBy_67 (tt_9 _ _) (by decide) rfl (by omega) (rr2_9 _ (by omega)) (kk := ?_)
            refine r_astore d_X0_chosenBy_68 (by decide) ?_
            refine r_iload_n d_X0_chosenBy_70 rfl ?_
            refine r_iconst d_X0_chosenBy_71 ?_
            refine r_icmp_ne d_X0_chosenBy_72 (by omega) (by omega) (fun c72 => ?_) (fun c72 => ?_)
            · refine r_iload_n d_X0_chosenBy_82 rfl ?_
              refine r_iconst d_X0_chosenBy_83 ?_
              refine r_icmp_ne d_X0_chosenBy_84 (by omega) (by omega) (fun c84 => ?_) (fun c84 => ?_)
              · have eh : (0 : Int) = ahdS σ pm kd b := by unfold ahdS; rw [if_neg c72, if_neg c84]
                refine r_iconst d_X0_chosenBy_100 ?_
                rw [eh]
                refine r_istore d_X0_chosenBy_101 (by decide) ?_
                refine r_iload d_X0_chosenBy_103 rfl ?_
                refine r_bipush d_X0_chosenBy_105 (by decide) ?_
                refine r_imul d_X0_chosenBy_107 ?_
                refine r_aload_n d_X0_chosenBy_108 rfl ?_
                refine r_getr d_X0_chosenBy_109 f_X0_28 (tt_63 _ _) (by decide) rfl (rr_63_5 _) ?_
                refine r_iload_n d_X0_chosenBy_112 rfl ?_
                refine r_ialdJ d_X0_chosenBy_113 (tt_71 _ _) rfl (by omega) (kk := ?_)
                refine r_aload d_X0_chosenBy_114 rfl ?_
                refine r_iconst d_X0_chosenBy_116 ?_
                refine r_ialdJ (j := 0) d_X0_chosenBy_117 (tt2_9 _ _ (by omega)) rfl (by omega) (kk := ?_)
                refine r_isub d_X0_chosenBy_118 ?_
                refine r_mabs d_X0_chosenBy_119 (w_X0_110 _ rfl) (by decide) (Nat.le_of_ble_eq_true rfl) (by omega) ?_
                rw [ea]
                refine r_iadd d_X0_chosenBy_122 ?_
                refine r_istore d_X0_chosenBy_123 (by decide) ?_
                refine r_iload_n d_X0_chosenBy_125 rfl ?_
                refine r_iconst d_X0_chosenBy_126 ?_
                refine r_icmp_eq d_X0_chosenBy_127 (by omega) (by omega) (fun c127 => ?_) (fun c127 => ?_)
                · have hor : A b = -1 ∨ ahdS σ pm kd b * 6 + absI (δ 5 w - σ 0 b) < ahdS σ pm kd (A b).toNat * 6 + absI (δ 5 w - σ 0 (A b).toNat) := Or.inl c127
                  have hA : A (b + 1) = (b : Int) := by rw [hA0] at hor ⊢; exact amin_yes hm hor
                  have hx' : A (b + 1) = -1 ∨ ahdS σ pm kd b * 6 + absI (δ 5 w - σ 0 b) = ahdS σ pm kd (A (b + 1)).toNat * 6 + absI (δ 5 w - σ 0 (A (b + 1)).toNat) := by rw [hA]; exact Or.inr rfl
                  have hr' : 0 ≤ ahdS σ pm kd b * 6 + absI (δ 5 w - σ 0 b) ∧ ahdS σ pm kd b * 6 + absI (δ 5 w - σ 0 b) ≤ 1000 := by omega
                  refine r_iload d_X0_chosenBy_137 rfl ?_
                  refine r_istore_n d_X0_chosenBy_139 (by decide) ?_
                  refine r_iload d_X0_chosenBy_140 rfl ?_
                  refine r_istore d_X0_chosenBy_142 (by decide) ?_
                  refine r_iinc d_X0_chosenBy_144 rfl (by decide) ?_
                  refine r_goto d_X0_chosenBy_147 ?_
                  exact CpL (ih (b + 1) _ (by omega) hr' hx') (by repeat (first | exact trivial | refine ⟨rfl, ?_⟩ | refine ⟨by rw [hA]; rfl, ?_⟩))
                · refine r_iload d_X0_chosenBy_130 rfl ?_
                  refine r_iload d_X0_chosenBy_132 rfl ?_
                  refine r_icmp_ge d_X0_chosenBy_134 (by omega) (by omega) (fun c134 => ?_) (fun c134 => ?_)
                  · have hA : A (b + 1) = A b := by
                      rw [hA0]
                      rw [hA0] at hx c127
                      refine amin_no (Or.inr ⟨c127, ?_⟩)
                      rcases hx with h | h
                      · exact absurd h c127
                      · show ahdS σ pm kd _ * 6 + absI (δ 5 w - σ 0 _) ≤ _
                        omega
                    have hx' := skp hA
                    have hr' := hxr
                    refine r_iinc d_X0_chosenBy_144 rfl (by decide) ?_
                    refine r_goto d_X0_chosenBy_147 ?_
                    exact CpL (ih (b + 1) _ (by omega) hr' hx') (by repeat (first | exact trivial | refine ⟨rfl, ?_⟩ | refine ⟨by rw [hA]; rfl, ?_⟩))
                  · have hor : A b = -1 ∨ ahdS σ pm kd b * 6 + absI (δ 5 w - σ 0 b) < ahdS σ pm kd (A b).toNat * 6 + absI (δ 5 w - σ 0 (A b).toNat) := Or.inr (by rcases hx with h | h; exact absurd h c127; omega)
                    have hA : A (b + 1) = (b : Int) := by rw [hA0] at hor ⊢; exact amin_yes hm hor
                    have hx' : A (b + 1) = -1 ∨ ahdS σ pm kd b * 6 + absI (δ 5 w - σ 0 b) = ahdS σ pm kd (A (b + 1)).toNat * 6 + absI (δ 5 w - σ 0 (A (b + 1)).toNat) := by rw [hA]; exact Or.inr rfl
                    have hr' : 0 ≤ ahdS σ pm kd b * 6 + absI (δ 5 w - σ 0 b) ∧ ahdS σ pm kd b * 6 + absI (δ 5 w - σ 0 b) ≤ 1000 := by omega
                    refine r_iload d_X0_chosenBy_137 rfl ?_
                    refine r_istore_n d_X0_chosenBy_139 (by decide) ?_
                    refine r_iload d_X0_chosenBy_140 rfl ?_
                    refine r_istore d_X0_chosenBy_142 (by decide) ?_
                    refine r_iinc d_X0_chosenBy_144 rfl (by decide) ?_
                    refine r_goto d_X0_chosenBy_147 ?_
                    exact CpL (ih (b + 1) _ (by omega) hr' hx') (by repeat (first | exact trivial | refine ⟨rfl, ?_⟩ | refine ⟨by rw [hA]; rfl, ?_⟩))
              · have eh : I 34 b = ahdS σ pm kd b := by unfold ahdS; rw [if_neg c72, if_pos c84]; exact ep
                refine r_aload_n d_X0_chosenBy_87 rfl ?_
                refine r_getr d_X0_chosenBy_88 f_X0_46 (tt_63 _ _) (by decide) rfl (rr_63_7 _) ?_
                refine r_getr d_X0_chosenBy_91 f_X0_131 (tt_8 _ _) (by decide) rfl (rr_8_10 _) ?_
                refine r_iload d_X0_chosenBy_94 rfl ?_
                refine r_ialdJ d_X0_chosenBy_96 (tt_34 _ _) rfl (by omega) (kk := ?_)
                refine r_goto d_X0_chosenBy_97 ?_
                rw [eh]
                refine r_istore d_X0_chosenBy_101 (by decide) ?_
                refine r_iload d_X0_chosenBy_103 rfl ?_
                refine r_bipush d_X0_chosenBy_105 (by decide) ?_
                refine r_imul d_X0_chosenBy_107 ?_
                refine r_aload_n d_X0_chosenBy_108 rfl ?_
                refine r_getr d_X0_chosenBy_109 f_X0_28 (tt_63 _ _) (by decide) rfl (rr_63_5 _) ?_
                refine r_iload_n d_X0_chosenBy_112 rfl ?_
                refine r_ialdJ d_X0_chosenBy_113 (tt_71 _ _) rfl (by omega) (kk := ?_)
                refine r_aload d_X0_chosenBy_114 rfl ?_
                refine r_iconst d_X0_chosenBy_116 ?_
                refine r_ialdJ (j := 0) d_X0_chosenBy_117 (tt2_9 _ _ (by omega)) rfl (by omega) (kk := ?_)
                refine r_isub d_X0_chosenBy_118 ?_
                refine r_mabs d_X0_chosenBy_119 (w_X0_110 _ rfl) (by decide) (Nat.le_of_ble_eq_true rfl) (by omega) ?_
                rw [ea]
                refine r_iadd d_X0_chosenBy_122 ?_
                refine r_istore d_X0_chosenBy_123 (by decide) ?_
                refine r_iload_n d_X0_chosenBy_125 rfl ?_
                refine r_iconst d_X0_chosenBy_126 ?_
                refine r_icmp_eq d_X0_chosenBy_127 (by omega) (by omega) (fun c127 => ?_) (fun c127 => ?_)
                · have hor : A b = -1 ∨ ahdS σ pm kd b * 6 + absI (δ 5 w - σ 0 b) < ahdS σ pm kd (A b).toNat * 6 + absI (δ 5 w - σ 0 (A b).toNat) := Or.inl c127
                  have hA : A (b + 1) = (b : Int) := by rw [hA0] at hor ⊢; exact amin_yes hm hor
                  have hx' : A (b + 1) = -1 ∨ ahdS σ pm kd b * 6 + absI (δ 5 w - σ 0 b) = ahdS σ pm kd (A (b + 1)).toNat * 6 + absI (δ 5 w - σ 0 (A (b + 1)).toNat) := by rw [hA]; exact Or.inr rfl
                  have hr' : 0 ≤ ahdS σ pm kd b * 6 + absI (δ 5 w - σ 0 b) ∧ ahdS σ pm kd b * 6 + absI (δ 5 w - σ 0 b) ≤ 1000 := by omega
                  refine r_iload d_X0_chosenBy_137 rfl ?_
                  refine r_istore_n d_X0_chosenBy_139 (by decide) ?_
                  refine r_iload d_X0_chosenBy_140 rfl ?_
                  refine r_istore d_X0_chosenBy_142 (by decide) ?_
                  refine r_iinc d_X0_chosenBy_144 rfl (by decide) ?_
                  refine r_goto d_X0_chosenBy_147 ?_
                  exact CpL (ih (b + 1) _ (by omega) hr' hx') (by repeat (first | exact trivial | refine ⟨rfl, ?_⟩ | refine ⟨by rw [hA]; rfl, ?_⟩))
                · refine r_iload d_X0_chosenBy_130 rfl ?_
                  refine r_iload d_X0_chosenBy_132 rfl ?_
                  refine r_icmp_ge d_X0_chosenBy_134 (by omega) (by omega) (fun c134 => ?_) (fun c134 => ?_)
                  · have hA : A (b + 1) = A b := by
                      rw [hA0]
                      rw [hA0] at hx c127
                      refine amin_no (Or.inr ⟨c127, ?_⟩)
                      rcases hx with h | h
                      · exact absurd h c127
                      · show ahdS σ pm kd _ * 6 + absI (δ 5 w - σ 0 _) ≤ _
                        omega
                    have hx' := skp hA
                    have hr' := hxr
                    refine r_iinc d_X0_chosenBy_144 rfl (by decide) ?_
                    refine r_goto d_X0_chosenBy_147 ?_
                    exact CpL (ih (b + 1) _ (by omega) hr' hx') (by repeat (first | exact trivial | refine ⟨rfl, ?_⟩ | refine ⟨by rw [hA]; rfl, ?_⟩))
                  · have hor : A b = -1 ∨ ahdS σ pm kd b * 6 + absI (δ 5 w - σ 0 b) < ahdS σ pm kd (A b).toNat * 6 + absI (δ 5 w - σ 0 (A b).toNat) := Or.inr (by rcases hx with h | h; exact absurd h c127; omega)
                    have hA : A (b + 1) = (b : Int) := by rw [hA0] at hor ⊢; exact amin_yes hm hor
                    have hx' : A (b + 1) = -1 ∨ ahdS σ pm kd b * 6 + absI (δ 5 w - σ 0 b) = ahdS σ pm kd (A (b + 1)).toNat * 6 + absI (δ 5 w - σ 0 (A (b + 1)).toNat) := by rw [hA]; exact Or.inr rfl
                    have hr' : 0 ≤ ahdS σ pm kd b * 6 + absI (δ 5 w - σ 0 b) ∧ ahdS σ pm kd b * 6 + absI (δ 5 w - σ 0 b) ≤ 1000 := by omega
                    refine r_iload d_X0_chosenBy_137 rfl ?_
                    refine r_istore_n d_X0_chosenBy_139 (by decide) ?_
                    refine r_iload d_X0_chosenBy_140 rfl ?_
                    refine r_istore d_X0_chosenBy_142 (by decide) ?_
                    refine r_iinc d_X0_chosenBy_144 rfl (by decide) ?_
                    refine r_goto d_X0_chosenBy_147 ?_
                    exact CpL (ih (b + 1) _ (by omega) hr' hx') (by repeat (first | exact trivial | refine ⟨rfl, ?_⟩ | refine ⟨by rw [hA]; rfl, ?_⟩))
            · have eh : I (10 + b) 2 = ahdS σ pm kd b := by unfold ahdS; rw [if_pos c72]; exact e2
              refine r_aload d_X0_chosenBy_75 rfl ?_
              refine r_iconst d_X0_chosenBy_77 ?_
              refine r_ialdJ (j := 2) d_X0_chosenBy_78 (tt2_9 _ _ (by omega)) rfl (by omega) (kk := ?_)
              refine r_goto d_X0_chosenBy_79 ?_
              rw [eh]
              refine r_istore d_X0_chosenBy_101 (by decide) ?_
              refine r_iload d_X0_chosenBy_103 rfl ?_
              refine r_bipush d_X0_chosenBy_105 (by decide) ?_
              refine r_imul d_X0_chosenBy_107 ?_
              refine r_aload_n d_X0_chosenBy_108 rfl ?_
              refine r_getr d_X0_chosenBy_109 f_X0_28 (tt_63 _ _) (by decide) rfl (rr_63_5 _) ?_
              refine r_iload_n d_X0_chosenBy_112 rfl ?_
              refine r_ialdJ d_X0_chosenBy_113 (tt_71 _ _) rfl (by omega) (kk := ?_)
              refine r_aload d_X0_chosenBy_114 rfl ?_
              refine r_iconst d_X0_chosenBy_116 ?_
              refine r_ialdJ (j := 0) d_X0_chosenBy_117 (tt2_9 _ _ (by omega)) rfl (by omega) (kk := ?_)
              refine r_isub d_X0_chosenBy_118 ?_
              refine r_mabs d_X0_chosenBy_119 (w_X0_110 _ rfl) (by decide) (Nat.le_of_ble_eq_true rfl) (by omega) ?_
              rw [ea]
              refine r_iadd d_X0_chosenBy_122 ?_
              refine r_istore d_X0_chosenBy_123 (by decide) ?_
              refine r_iload_n d_X0_chosenBy_125 rfl ?_
              refine r_iconst d_X0_chosenBy_126 ?_
              refine r_icmp_eq d_X0_chosenBy_127 (by omega) (by omega) (fun c127 => ?_) (fun c127 => ?_)
              · have hor : A b = -1 ∨ ahdS σ pm kd b * 6 + absI (δ 5 w - σ 0 b) < ahdS σ pm kd (A b).toNat * 6 + absI (δ 5 w - σ 0 (A b).toNat) := Or.inl c127
                have hA : A (b + 1) = (b : Int) := by rw [hA0] at hor ⊢; exact amin_yes hm hor
                have hx' : A (b + 1) = -1 ∨ ahdS σ pm kd b * 6 + absI (δ 5 w - σ 0 b) = ahdS σ pm kd (A (b + 1)).toNat * 6 + absI (δ 5 w - σ 0 (A (b + 1)).toNat) := by rw [hA]; exact Or.inr rfl
                have hr' : 0 ≤ ahdS σ pm kd b * 6 + absI (δ 5 w - σ 0 b) ∧ ahdS σ pm kd b * 6 + absI (δ 5 w - σ 0 b) ≤ 1000 := by omega
                refine r_iload d_X0_chosenBy_137 rfl ?_
                refine r_istore_n d_X0_chosenBy_139 (by decide) ?_
                refine r_iload d_X0_chosenBy_140 rfl ?_
                refine r_istore d_X0_chosenBy_142 (by decide) ?_
                refine r_iinc d_X0_chosenBy_144 rfl (by decide) ?_
                refine r_goto d_X0_chosenBy_147 ?_
                exact CpL (ih (b + 1) _ (by omega) hr' hx') (by repeat (first | exact trivial | refine ⟨rfl, ?_⟩ | refine ⟨by rw [hA]; rfl, ?_⟩))
              · refine r_iload d_X0_chosenBy_130 rfl ?_
                refine r_iload d_X0_chosenBy_132 rfl ?_
                refine r_icmp_ge d_X0_chosenBy_134 (by omega) (by omega) (fun c134 => ?_) (fun c134 => ?_)
                · have hA : A (b + 1) = A b := by
                    rw [hA0]
                    rw [hA0] at hx c127
                    refine amin_no (Or.inr ⟨c127, ?_⟩)
                    rcases hx with h | h
                    · exact absurd h c127
                    · show ahdS σ pm kd _ * 6 + absI (δ 5 w - σ 0 _) ≤ _
                      omega
                  have hx' := skp hA
                  have hr' := hxr
                  refine r_iinc d_X0_chosenBy_144 rfl (by decide) ?_
                  refine r_goto d_X0_chosenBy_147 ?_
                  exact CpL (ih (b + 1) _ (by omega) hr' hx') (by repeat (first | exact trivial | refine ⟨rfl, ?_⟩ | refine ⟨by rw [hA]; rfl, ?_⟩))
                · have hor : A b = -1 ∨ ahdS σ pm kd b * 6 + absI (δ 5 w - σ 0 b) < ahdS σ pm kd (A b).toNat * 6 + absI (δ 5 w - σ 0 (A b).toNat) := Or.inr (by rcases hx with h | h; exact absurd h c127; omega)
                  have hA : A (b + 1) = (b : Int) := by rw [hA0] at hor ⊢; exact amin_yes hm hor
                  have hx' : A (b + 1) = -1 ∨ ahdS σ pm kd b * 6 + absI (δ 5 w - σ 0 b) = ahdS σ pm kd (A (b + 1)).toNat * 6 + absI (δ 5 w - σ 0 (A (b + 1)).toNat) := by rw [hA]; exact Or.inr rfl
                  have hr' : 0 ≤ ahdS σ pm kd b * 6 + absI (δ 5 w - σ 0 b) ∧ ahdS σ pm kd b * 6 + absI (δ 5 w - σ 0 b) ≤ 1000 := by omega
                  refine r_iload d_X0_chosenBy_137 rfl ?_
                  refine r_istore_n d_X0_chosenBy_139 (by decide) ?_
                  refine r_iload d_X0_chosenBy_140 rfl ?_
                  refine r_istore d_X0_chosenBy_142 (by decide) ?_
                  refine r_iinc d_X0_chosenBy_144 rfl (by decide) ?_
                  refine r_goto d_X0_chosenBy_147 ?_
                  exact CpL (ih (b + 1) _ (by omega) hr' hx') (by repeat (first | exact trivial | refine ⟨rfl, ?_⟩ | refine ⟨by rw [hA]; rfl, ?_⟩))
  refine r_iconst d_X0_chosenBy_0 ?_
  refine r_istore_n d_X0_chosenBy_1 (by decide) ?_
  refine r_iconst d_X0_chosenBy_2 ?_
  refine r_istore d_X0_chosenBy_3 (by decide) ?_
  refine r_iconst d_X0_chosenBy_5 ?_
  refine r_istore d_X0_chosenBy_6 (by decide) ?_
  exact CpL (loop nr 0 0 (by omega) (by omega) (Or.inl (by rw [hA0]; rfl))) (by repeat (first | exact trivial | refine ⟨rfl, ?_⟩ | refine ⟨by rw [hA0]; rfl, ?_⟩))
theorem PX_frb {I I' : sI} {lo hi : Nat} (h : PX pm nr I) (hf : frb lo hi I I') (hlo : 35 ≤ lo) : PX pm nr I' := fun r hr => by rw [hf 34 (by omega)]; exact h r hr
theorem DV_free {w : Nat} {x : Int} (hD : DV δ nr nW) (hx : 0 ≤ x ∧ x ≤ 268435456) : DV (up2 δ 4 w x) nr nW := by
  refine ⟨fun r hr => ?_, fun v hv => ?_⟩
  · simp only [up2, Nat.reduceEqDiff, if_false]; exact hD.1 r hr
  · have := hD.2 v hv
    simp only [up2, Nat.reduceEqDiff, if_false, if_true]
    split
    · omega
    · exact this
theorem c_planFree (hS : SV σ ℓ nr nW) (hK : KX σ ℓ ab nr nW I) (hP : PX pm nr I) (hV : DV δ nr nW) (hD : DX δ nr nW I) {en : Nat → Bool} (hE : ∀ w, w < nW → I 72 w = if en w = true then 1 else 0) {kd : Int} (hk : kd = 2 ∨ kd = 3 ∨ kd = 4) : Mc g 3 m_X0_planFree 0 0 [vr 63, vi kd] (TT Ls tl) I L (RR tl) (qV fun T' I' L' R' => pst 70 77 (TT Ls tl) I L (RR tl) T' I' L' R' ∧ DX (frX σ ℓ ab pm kd nr nW 100 en δ) nr nW I') := by
  refine Mc_of rfl (Nat.le_of_ble_eq_true rfl) ?_
  have h8 := hS.1
  have h4 := hS.2.1
  obtain ⟨F, hF⟩ : ∃ F : Sg, F = frX σ ℓ ab pm kd nr nW 100 en δ := ⟨_, rfl⟩
  rw [← hF]
  have outer : ∀ (k b : Nat) (en1 : Nat → Bool) (δ1 : Sg) (I1 : sI), b + k = 100 → frb 70 77 I I1 → DV δ1 nr nW → DX δ1 nr nW I1 → (∀ w, w < nW → I1 72 w = if en1 w = true then 1 else 0) → F = frX σ ℓ ab pm kd nr nW k en1 δ1 → Cp g 3 m_X0_planFree 0 0 (qV fun T' I' L' R' => pst 70 77 (TT Ls tl) I L (RR tl) T' I' L' R' ∧ DX F nr nW I') 2 [(0, vr 63), (1, vi kd), (2, vi (b : Int))] [] (TT Ls tl) I1 L (RR tl) := by
    intro k
    induction k with
    | zero =>
      intro b en1 δ1 I1 hbk hf hV1 hD1 hE1 hF1
      refine r_iload_n d_X0_planFree_2 rfl ?_
      refine r_bipush d_X0_planFree_3 (by decide) ?_
      refine r_icmp_ge d_X0_planFree_5 (by omega) (by omega) (fun c5 => ?_) (fun c5 => absurd c5 (by omega))
      refine r_vret d_X0_planFree_95 rfl ?_
      exact ⟨rfl, ⟨rfl, hf, rfl, rfl⟩, by rw [hF1]; exact hD1⟩
    | succ k ih =>
      intro b en1 δ1 I1 hbk hf hV1 hD1 hE1 hF1
      have hK1 := KX_frb h8 h4 hK hf
      have hP1 := PX_frb hP hf (by omega)
      have hfr := ffS_bd (en := en1) (δ := δ1) (nW := nW)
      unfold frX at hF1
      have hc1 := c_freeFirst (g := g) (Ls := Ls) (tl := tl) (L := L) hS hK1 hV1 hD1 hE1
      generalize ffS en1 δ1 nW = fw at hfr hF1 hc1
      refine r_iload_n d_X0_planFree_2 rfl ?_
      refine r_bipush d_X0_planFree_3 (by decide) ?_
      refine r_icmp_ge d_X0_planFree_5 (by omega) (by omega) (fun c5 => absurd c5 (by omega)) (fun c5 => ?_)
      refine r_aload_n d_X0_planFree_8 rfl ?_
      refine r_V0i d_X0_planFree_9 (w_X0_121 _ rfl) (tt_63 _ _) rfl rfl (hc1) (by decide) (Nat.le_of_ble_eq_true rfl) (fun z9 T9 I9 L9 R9 h9 => ?_)
      obtain ⟨rfl, rfl, rfl, rfl, rfl⟩ := h9
      refine r_istore_n d_X0_planFree_12 (by decide) ?_
      refine r_iload_n d_X0_planFree_13 rfl ?_
      refine r_iconst d_X0_planFree_14 ?_
      refine r_icmp_ne d_X0_planFree_15 (by omega) (by omega) (fun c15 => ?_) (fun c15 => ?_)
      · rw [if_neg c15] at hF1
        obtain ⟨w, rfl⟩ : ∃ w : Nat, z9 = (w : Int) := ⟨z9.toNat, by omega⟩
        simp only [Int.toNat_natCast] at hF1
        have hw : w < nW := by omega
        have hcr := choS_bd (σ := σ) (ℓ := ℓ) (ab := ab) (pm := pm) (kd := kd) (nr := nr) (δ := δ1) (w := w)
        have hc2 := c_chosenBy (g := g) (Ls := Ls) (tl := tl) (L := L) hS hK1 hP1 hV1 hD1 hw hk
        have ew := hD1.2 w hw
        have qw := hV1.2 w hw
        have hng := ngS_bd hV1 (q := δ1 4 w) (by omega) nr (by omega)
        generalize choS σ ℓ ab pm kd nr δ1 w = r at hcr hF1 hc2
        refine r_aload_n d_X0_planFree_19 rfl ?_
        refine r_iload_n d_X0_planFree_20 rfl ?_
        refine r_iload_n d_X0_planFree_21 rfl ?_
        refine r_V2i d_X0_planFree_22 (w_X0_125 _ rfl) (tt_63 _ _) rfl rfl (hc2) (by decide) (Nat.le_of_ble_eq_true rfl) (fun z22 T22 I22 L22 R22 h22 => ?_)
        obtain ⟨rfl, rfl, rfl, rfl, rfl⟩ := h22
        refine r_istore d_X0_planFree_25 (by decide) ?_
        refine r_iload d_X0_planFree_27 rfl ?_
        refine r_iconst d_X0_planFree_29 ?_
        refine r_icmp_eq d_X0_planFree_30 (by omega) (by omega) (fun c30 => ?_) (fun c30 => ?_)
        · rw [if_pos c30] at hF1
          refine r_aload_n d_X0_planFree_43 rfl ?_
          refine r_aload_n d_X0_planFree_44 rfl ?_
          refine r_getr d_X0_planFree_45 f_X0_24 (tt_63 _ _) (by decide) rfl (rr_63_4 _) ?_
          refine r_iload_n d_X0_planFree_48 rfl ?_
          refine r_ialdJ d_X0_planFree_49 (tt_70 _ _) rfl (by omega) (kk := ?_)
          rw [ew.1]
          refine r_V1i d_X0_planFree_50 (w_X0_128 _ rfl) (tt_63 _ _) rfl rfl (c_nextGone hS hK1 hV1 hD1 (by omega)) (by decide) (Nat.le_of_ble_eq_true rfl) (fun z50 T50 I50 L50 R50 h50 => ?_)
          obtain ⟨rfl, rfl, rfl, rfl, rfl⟩ := h50
          refine r_istore d_X0_planFree_53 (by decide) ?_
          refine r_aload_n d_X0_planFree_55 rfl ?_
          refine r_getr d_X0_planFree_56 f_X0_31 (tt_63 _ _) (by decide) rfl (rr_63_6 _) ?_
          refine r_iload_n d_X0_planFree_59 rfl ?_
          refine r_iload d_X0_planFree_60 rfl ?_
          refine r_iconst d_X0_planFree_62 ?_
          refine r_icmp_ne d_X0_planFree_63 (by omega) (by omega) (fun c63 => ?_) (fun c63 => ?_)
          · have hen : decide (ngS δ1 (δ1 4 w) nr = -1) = false := decide_eq_false c63
            refine r_iconst d_X0_planFree_70 ?_
            refine r_zastJ d_X0_planFree_71 (tt_72 _ _) (by omega) rfl (by omega) (by omega) (kk := ?_)
            refine r_aload_n d_X0_planFree_72 rfl ?_
            refine r_getr d_X0_planFree_73 f_X0_24 (tt_63 _ _) (by decide) rfl (rr_63_4 _) ?_
            refine r_iload_n d_X0_planFree_76 rfl ?_
            refine r_aload_n d_X0_planFree_77 rfl ?_
            refine r_getr d_X0_planFree_78 f_X0_24 (tt_63 _ _) (by decide) rfl (rr_63_4 _) ?_
            refine r_iload_n d_X0_planFree_81 rfl ?_
            refine r_ialdJ d_X0_planFree_82 (tt_70 _ _) rfl (by omega) (kk := ?_)
            simp only [up2, Nat.reduceEqDiff, if_false]
            rw [ew.1]
            refine r_iload d_X0_planFree_83 rfl ?_
            refine r_mmax d_X0_planFree_85 (w_X0_115 _ rfl) (by decide) (Nat.le_of_ble_eq_true rfl) (by omega) (by omega) ?_
            refine r_iastJ d_X0_planFree_88 (tt_70 _ _) (by omega) rfl (by omega) (kk := ?_)
            skip
            refine r_iinc d_X0_planFree_89 rfl (by decide) ?_
            refine r_goto d_X0_planFree_92 ?_
            first
              | exact CpL (ih (b + 1) en1 _ _ (by omega) (frb_tr hf hf2) (DV_step hS hV1 hw (show r < nr by omega)) hD2 (fun v hv => by rw [h72]; exact hE1 v hv) hF1) (by repeat (first | exact trivial | refine ⟨rfl, ?_⟩))
              | refine CpL (ih (b + 1) (fun v => if v = w then decide (ngS δ1 (δ1 4 w) nr = -1) else en1 v) (up2 δ1 4 w (if δ1 4 w < ngS δ1 (δ1 4 w) nr then ngS δ1 (δ1 4 w) nr else δ1 4 w)) _ (by omega) (frb_up (frb_up hf (by omega)) (by omega)) (DV_free hV1 (by split <;> omega)) ⟨fun r hr => ?_, fun v hv => ?_⟩ (fun v hv => ?_) hF1) (by repeat (first | exact trivial | refine ⟨rfl, ?_⟩))
                · simp only [up2, Nat.reduceEqDiff, if_false]; exact hD1.1 r hr
                · have h0 := hD1.2 v hv
                  by_cases e : v = w
                  · subst e; simp only [up2, Nat.reduceEqDiff, if_false, if_true]; exact ⟨trivial, h0.2⟩
                  · simp only [up2, Nat.reduceEqDiff, if_false, if_true, e]; exact h0
                · have h0 := hE1 v hv
                  by_cases e : v = w
                  · subst e; simp only [up2, Nat.reduceEqDiff, if_false, if_true, hen]; try rfl
                  · simp only [up2, Nat.reduceEqDiff, if_false, if_true, e]; exact h0
          · have hen : decide (ngS δ1 (δ1 4 w) nr = -1) = true := decide_eq_true c63
            refine r_iconst d_X0_planFree_66 ?_
            refine r_goto d_X0_planFree_67 ?_
            refine r_zastJ d_X0_planFree_71 (tt_72 _ _) (by omega) rfl (by omega) (by omega) (kk := ?_)
            refine r_aload_n d_X0_planFree_72 rfl ?_
            refine r_getr d_X0_planFree_73 f_X0_24 (tt_63 _ _) (by decide) rfl (rr_63_4 _) ?_
            refine r_iload_n d_X0_planFree_76 rfl ?_
            refine r_aload_n d_X0_planFree_77 rfl ?_
            refine r_getr d_X0_planFree_78 f_X0_24 (tt_63 _ _) (by decide) rfl (rr_63_4 _) ?_
            refine r_iload_n d_X0_planFree_81 rfl ?_
            refine r_ialdJ d_X0_planFree_82 (tt_70 _ _) rfl (by omega) (kk := ?_)
            simp only [up2, Nat.reduceEqDiff, if_false]
            rw [ew.1]
            refine r_iload d_X0_planFree_83 rfl ?_
            refine r_mmax d_X0_planFree_85 (w_X0_115 _ rfl) (by decide) (Nat.le_of_ble_eq_true rfl) (by omega) (by omega) ?_
            refine r_iastJ d_X0_planFree_88 (tt_70 _ _) (by omega) rfl (by omega) (kk := ?_)
            skip
            refine r_iinc d_X0_planFree_89 rfl (by decide) ?_
            refine r_goto d_X0_planFree_92 ?_
            first
              | exact CpL (ih (b + 1) en1 _ _ (by omega) (frb_tr hf hf2) (DV_step hS hV1 hw (show r < nr by omega)) hD2 (fun v hv => by rw [h72]; exact hE1 v hv) hF1) (by repeat (first | exact trivial | refine ⟨rfl, ?_⟩))
              | refine CpL (ih (b + 1) (fun v => if v = w then decide (ngS δ1 (δ1 4 w) nr = -1) else en1 v) (up2 δ1 4 w (if δ1 4 w < ngS δ1 (δ1 4 w) nr then ngS δ1 (δ1 4 w) nr else δ1 4 w)) _ (by omega) (frb_up (frb_up hf (by omega)) (by omega)) (DV_free hV1 (by split <;> omega)) ⟨fun r hr => ?_, fun v hv => ?_⟩ (fun v hv => ?_) hF1) (by repeat (first | exact trivial | refine ⟨rfl, ?_⟩))
                · simp only [up2, Nat.reduceEqDiff, if_false]; exact hD1.1 r hr
                · have h0 := hD1.2 v hv
                  by_cases e : v = w
                  · subst e; simp only [up2, Nat.reduceEqDiff, if_false, if_true]; exact ⟨trivial, h0.2⟩
                  · simp only [up2, Nat.reduceEqDiff, if_false, if_true, e]; exact h0
                · have h0 := hE1 v hv
                  by_cases e : v = w
                  · subst e; simp only [up2, Nat.reduceEqDiff, if_false, if_true, hen]; try rfl
                  · simp only [up2, Nat.reduceEqDiff, if_false, if_true, e]; exact h0
        · rw [if_neg c30] at hF1
          obtain ⟨r, rfl⟩ : ∃ r : Nat, z22 = (r : Int) := ⟨z22.toNat, by omega⟩
          simp only [Int.toNat_natCast] at hF1
          refine r_aload_n d_X0_planFree_33 rfl ?_
          refine r_iload_n d_X0_planFree_34 rfl ?_
          refine r_iload d_X0_planFree_35 rfl ?_
          refine r_V2v d_X0_planFree_37 (w_X0_100 _ rfl) (tt_63 _ _) rfl rfl (c_assign hS hK1 hV1 hD1 hw (show r < nr by omega)) (by decide) (Nat.le_of_ble_eq_true rfl) (fun T37 I37 L37 R37 h37 => ?_)
          obtain ⟨⟨rfl, hf2, rfl, rfl⟩, hD2, h72⟩ := h37
          refine r_goto d_X0_planFree_40 ?_
          skip
          refine r_iinc d_X0_planFree_89 rfl (by decide) ?_
          refine r_goto d_X0_planFree_92 ?_
          first
            | exact CpL (ih (b + 1) en1 _ _ (by omega) (frb_tr hf hf2) (DV_step hS hV1 hw (show r < nr by omega)) hD2 (fun v hv => by rw [h72]; exact hE1 v hv) hF1) (by repeat (first | exact trivial | refine ⟨rfl, ?_⟩))
            | refine CpL (ih (b + 1) (fun v => if v = w then decide (ngS δ1 (δ1 4 w) nr = -1) else en1 v) (up2 δ1 4 w (if δ1 4 w < ngS δ1 (δ1 4 w) nr then ngS δ1 (δ1 4 w) nr else δ1 4 w)) _ (by omega) (frb_up (frb_up hf (by omega)) (by omega)) (DV_free hV1 (by split <;> omega)) ⟨fun r hr => ?_, fun v hv => ?_⟩ (fun v hv => ?_) hF1) (by repeat (first | exact trivial | refine ⟨rfl, ?_⟩))
              · simp only [up2, Nat.reduceEqDiff, if_false]; exact hD1.1 r hr
              · have h0 := hD1.2 v hv
                by_cases e : v = w
                · subst e; simp only [up2, Nat.reduceEqDiff, if_false, if_true]; exact ⟨trivial, h0.2⟩
                · simp only [up2, Nat.reduceEqDiff, if_false, if_true, e]; exact h0
              · have h0 := hE1 v hv
                by_cases e : v = w
                · subst e; simp only [up2, Nat.reduceEqDiff, if_false, if_true, hen]; try rfl
                · simp only [up2, Nat.reduceEqDiff, if_false, if_true, e]; exact h0
      · refine r_vret d_X0_planFree_18 rfl ?_
        rw [if_pos c15] at hF1
        exact ⟨rfl, ⟨rfl, hf, rfl, rfl⟩, by rw [hF1]; exact hD1⟩
  refine r_iconst d_X0_planFree_0 ?_
  refine r_istore_n d_X0_planFree_1 (by decide) ?_
  exact CpL (outer 100 0 en δ I (by omega) frb_rf hV hD hE hF) (by repeat (first | exact trivial | refine ⟨rfl, ?_⟩))
end C6
