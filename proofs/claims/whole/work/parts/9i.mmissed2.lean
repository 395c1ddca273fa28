section X9i
variable {g : sG} {Ls : Nat} {T : sT} {R : sR} {I L : sI} {σ δ : Sg} {ℓ ab : Int} {nr nw nW ng : Nat} {tl : List Nat} {ukd unn : Nat → Int} {utr utw : Nat → Nat → Nat}
theorem up55 {v : Int} (hM : MS σ ℓ nr nw ng tl ukd unn utr utw I) : FP I (up2 I 139 55 v) ∧ MS σ ℓ nr nw ng tl ukd unn utr utw (up2 I 139 55 v) := by
  have f : FP I (up2 I 139 55 v) := ⟨fun a h _ => by rw [up2_ne _ _ h], fun k hk => by rw [up2_nj _ _ (by omega)]⟩
  refine ⟨f, MS_fp hM f ?_⟩
  obtain ⟨hV, h3, hcan, hA, hX, hl, hw, hN, hR⟩ := id hM
  exact KNM_fr hN (by rw [up2_ne _ _ (by decide)]) (by rw [up2_ne _ _ (by decide)])
theorem x_missed (hM : MS σ ℓ nr nw ng tl ukd unn utr utw I) (h0w : 0 < nr → 0 < nw) {rule how q : Int} (hr : i32 rule) (hh : i32 how) (hq : I 139 25 = q) (hq2 : 0 ≤ q ∧ q ≤ 16) : Mc g 13 m_X8_missed 0 0 [vr 139, vi rule, vi how] (TT Ls tl) I L (RR tl) (AKM σ ℓ nr nw ng Ls tl ukd unn utr utw I L (aMissed σ ℓ nr nw ng tl ukd unn utr utw rule how q)) := by
  refine Mc_of rfl (Nat.le_of_ble_eq_true rfl) ?_
  obtain ⟨hV, h3, hcan, hA, hX, hl, hwm, hN, hR⟩ := id hM
  have hr2 : -2147483648 ≤ rule ∧ rule ≤ 2147483647 := hr
  have hh2 : -2147483648 ≤ how ∧ how ≤ 2147483647 := hh
  have hok : (if how = 0 ∨ how = 1 then (1 : Int) else 0) = 0 ∨ (if how = 0 ∨ how = 1 then (1 : Int) else 0) = 1 := by split <;> omega
  have hb0 := x_bars (g := g) (Ls := Ls) (L := L) hM hr (way := -1) (by unfold i32; omega) hok
  have hgi := x_isGiving (g := g) (T := TT Ls tl) (I := I) (L := L) (R := RR tl) hh2
  have erf : brS tl.length nr (2 ^ chn σ nr) rule (-1) (if how = 0 ∨ how = 1 then (1 : Int) else 0) = rfS tl.length nr rule how := by
    unfold brS rfS
    by_cases c1 : 0 ≤ rule ∧ rule < (tl.length : Int)
    · rw [if_pos c1, if_pos c1]
      by_cases c2 : 0 < nr
      · rw [if_pos c2, if_pos c2]
        by_cases c3 : how = 0 ∨ how = 1
        · rw [if_pos c3, if_pos c3, if_pos ⟨rfl, Or.inl rfl⟩]
        · rw [if_neg c3, if_neg c3, if_neg (fun p => absurd p.1 (by decide))]
      · rw [if_neg c2, if_neg c2]
    · rw [if_neg c1, if_neg c1]
  have hrg := br_rg (n := tl.length) (nr := nr) (W := 2 ^ chn σ nr) (rule := rule) (way := -1) (ok := if how = 0 ∨ how = 1 then (1 : Int) else 0)
  rw [erf] at hb0 hrg
  by_cases kr : rfS tl.length nr rule how = 0
  · rw [kr] at hb0
    have kr2 := kr
    have k1 : 0 ≤ rule ∧ rule < (tl.length : Int) := Classical.byContradiction (fun h => by unfold rfS at kr2; rw [if_neg h] at kr2; exact absurd kr2 (by decide))
    have k2 : 0 < nr := Classical.byContradiction (fun h => by unfold rfS at kr2; rw [if_pos k1, if_neg h] at kr2; exact absurd kr2 (by decide))
    have k3 : how = 0 ∨ how = 1 := Classical.byContradiction (fun h => by unfold rfS at kr2; rw [if_pos k1, if_pos k2, if_neg h] at kr2; exact absurd kr2 (by decide))
    by_cases k4 : q < 16
    · have ez : mfS tl.length nr rule how q = 0 := by unfold mfS; rw [if_pos kr, if_pos k4]
      obtain ⟨a1, a2⟩ := MS_ask hM (v := I 139 25 + 1)
      obtain ⟨m1, m2⟩ := MS_all a1
      obtain ⟨I0, hI0⟩ : ∃ I0 : sI, I0 = up2 (up2 (up2 I 139 25 (I 139 25 + 1)) 139 56 (up2 I 139 25 (I 139 25 + 1) 139 8)) 139 55 (-1) := ⟨_, rfl⟩
      rw [← hI0] at m1 m2
      have f0 : FQ I I0 := FQ_tr a2 (FP_FQ m2)
      have e25 : I0 139 25 = q + 1 := by rw [m2.2 25 (by omega), up2_at, hq]
      have ms0 : MS σ ℓ nr nw ng tl ukd unn utr utw I0 := MS_fp a1 m2 m1.2.2.2.2.2.2.1
      have e56 : I0 139 56 = (nw : Int) := m1.2.2.2.2.2.1.2.2
      obtain ⟨u, rfl⟩ : ∃ u : Nat, rule = (u : Int) := ⟨rule.toNat, by omega⟩
      obtain ⟨S, hS⟩ := CWA_ex (kd := ukd u) (nn := unn u) (tr := utr u) (tw := utw u) (tn := tl.getD u 0) (how := how) hV.1 hV.2.1 hV.2.2.1
      obtain ⟨Q, hQ⟩ : ∃ Q : sQ, Q = AKM σ ℓ nr nw ng Ls tl ukd unn utr utw I L (aMissed σ ℓ nr nw ng tl ukd unn utr utw (u : Int) how q) := ⟨_, rfl⟩
      rw [← hQ]
      have loop : ∀ (k n : Nat) (I1 : sI), n + k = nw → FP I0 I1 → MS σ ℓ nr nw ng tl ukd unn utr utw I1 → I1 139 56 = (nw : Int) → (∀ w, w < n → CW σ ℓ (w : Int) nr nw ng (ukd u) (unn u) (utr u) (utw u) (tl.getD u 0) how (S w) ∧ (0 ≤ S w ∧ S w ≤ 32000000)) → Cp g 13 m_X8_missed 0 0 Q 52 [(0, vr 139), (1, vi (u : Int)), (2, vi how), (4, vi (ixW S n)), (5, vi (mmS S n)), (6, vi (n : Int))] [] (TT Ls tl) I1 L (RR tl) := by
        intro k
        induction k with
        | zero =>
          intro n I1 hk f hM1 h56 hd
          have er : I1 139 8 = (nw : Int) := hM1.2.2.2.2.2.2.1
          have en : n = nw := by omega
          have hw0 := h0w k2
          have ei : ixW S n = ((wsX S nw).1 : Int) := by unfold ixW; rw [if_neg (by omega), en]
          refine r_iload d_X8_missed_52 rfl ?_
          refine r_aload_n d_X8_missed_54 rfl ?_
          refine r_geti d_X8_missed_55 f_X8_235 (tt_139 _ _) (by decide) (by decide) ?_
          refine r_icmp_ge d_X8_missed_58 (by omega) (by omega) (fun c58 => ?_) (fun c58 => absurd c58 (by omega))
          refine r_aload_n d_X8_missed_129 rfl ?_
          refine r_iconst d_X8_missed_130 ?_
          refine r_puti d_X8_missed_131 f_X8_121 (tt_139 _ _) (by decide) (Or.inl rfl) ?_
          refine r_iload d_X8_missed_134 rfl ?_
          refine r_iret d_X8_missed_136 rfl ?_
          rw [hQ]
          obtain ⟨w1, w2⟩ := up55 (v := -1) hM1
          refine ⟨_, rfl, rfl, rfl, rfl, FQ_tr f0 (FP_FQ (FP_tr f w1)), w2, ?_⟩
          rw [w1.2 25 (by omega), f.2 25 (by omega), e25]
          refine ⟨fun h => absurd ez h, fun _ => ⟨rfl, S, fun w hw => ?_, ei⟩⟩
          rw [Int.toNat_natCast]
          exact (hd w (by omega)).1
        | succ k ih =>
          intro n I1 hk f hM1 h56 hd
          have er : I1 139 8 = (nw : Int) := hM1.2.2.2.2.2.2.1
          obtain ⟨w1, w2⟩ := up55 (v := (n : Int)) hM1
          obtain ⟨-, -, -, -, gX, gl, -, -, gR⟩ := id w2
          have gK : MK ℓ (n : Int) nw (up2 I1 139 55 (n : Int)) := ⟨gl, by rw [up2_at], by rw [up2_nj _ _ (by decide)]; exact h56⟩
          have rgm := wsX_rg9 (C := S) n (fun w hw => (hd w hw).2)
          have rgi : -1 ≤ ixW S n ∧ ixW S n ≤ 2147483647 := by
            unfold ixW
            split
            · omega
            · have : (wsX S n).1 ≤ n := by
                have : ∀ m, (wsX S m).1 ≤ m := by
                  intro m
                  induction m with
                  | zero => exact Nat.le_refl 0
                  | succ m ihm =>
                    show (if (wsX S m).2 < S m then (m, S m) else wsX S m).1 ≤ m + 1
                    split
                    · exact Nat.le_succ m
                    · omega
                exact this n
              omega
          have t75 : ∀ I2 : sI, FP I0 I2 → MS σ ℓ nr nw ng tl ukd unn utr utw I2 → I2 139 56 = (nw : Int) → (0 ≤ S n ∧ S n ≤ 32000000) → CW σ ℓ (n : Int) nr nw ng (ukd u) (unn u) (utr u) (utw u) (tl.getD u 0) how (S n) → Cp g 13 m_X8_missed 0 0 Q 75 [(0, vr 139), (1, vi (u : Int)), (2, vi how), (4, vi (ixW S n)), (5, vi (mmS S n)), (6, vi (n : Int)), (7, vi (S n))] [] (TT Ls tl) I2 L (RR tl) := by
            intro I2 f2 hM2 h562 hb2 hcw
            have hd2 : ∀ w, w < n + 1 → CW σ ℓ (w : Int) nr nw ng (ukd u) (unn u) (utr u) (utw u) (tl.getD u 0) how (S w) ∧ (0 ≤ S w ∧ S w ≤ 32000000) := fun w hw => by
              by_cases e : w = n
              · rw [e]; exact ⟨hcw, hb2⟩
              · exact hd w (by omega)
            by_cases c0 : n = 0
            · subst c0
              obtain ⟨e1, e3⟩ := wsX_lt (C := S) (n := 0) (by show (-1 : Int) < S 0; omega)
              have e2 : mmS S (0 + 1) = S 0 := by unfold mmS; rw [if_neg (by omega)]; exact e3
              have c5 : ixW S 0 = -1 := rfl
              refine r_iload d_X8_missed_75 rfl ?_
              refine r_iconst d_X8_missed_77 ?_
              refine r_icmp_eq d_X8_missed_78 (by omega) (by omega) (fun c78 => ?_) (fun c78 => absurd c78 (by exact fun q => q c5))
              refine r_iconst d_X8_missed_88 ?_
              refine r_goto d_X8_missed_89 ?_
              refine r_istore d_X8_missed_93 (by decide) ?_
              refine r_iload d_X8_missed_95 rfl ?_
              refine r_if_eq d_X8_missed_97 (by omega) (fun c97 => absurd c97 (by decide)) (fun c97 => ?_)
              refine r_iload d_X8_missed_100 rfl ?_
              refine r_goto d_X8_missed_102 ?_
              refine r_istore d_X8_missed_107 (by decide) ?_
              refine r_iload d_X8_missed_109 rfl ?_
              refine r_if_eq d_X8_missed_111 (by omega) (fun c111 => absurd c111 (by decide)) (fun c111 => ?_)
              refine r_iload d_X8_missed_114 rfl ?_
              refine r_goto d_X8_missed_116 ?_
              refine r_istore d_X8_missed_121 (by decide) ?_
              refine r_iinc d_X8_missed_123 rfl (by decide) ?_
              refine r_goto d_X8_missed_126 ?_
              exact CpL (ih (0 + 1) I2 (by omega) f2 hM2 h562 hd2) (by repeat (first | exact trivial | refine ⟨rfl, ?_⟩ | refine ⟨by rw [e1]; rfl, ?_⟩ | refine ⟨by rw [e2]; rfl, ?_⟩))
            · have c5 : ¬ ixW S n = -1 := by unfold ixW; rw [if_neg c0]; omega
              have ecm : mmS S n = (wsX S n).2 := by unfold mmS; rw [if_neg c0]
              by_cases c6 : (wsX S n).2 < S n
              · obtain ⟨e1, e3⟩ := wsX_lt c6
                have e2 : mmS S (n + 1) = S n := by unfold mmS; rw [if_neg (by omega)]; exact e3
                refine r_iload d_X8_missed_75 rfl ?_
                refine r_iconst d_X8_missed_77 ?_
                refine r_icmp_eq d_X8_missed_78 (by omega) (by omega) (fun c78 => absurd c78 (by exact c5)) (fun c78 => ?_)
                refine r_iload d_X8_missed_81 rfl ?_
                refine r_iload d_X8_missed_83 rfl ?_
                refine r_icmp_le d_X8_missed_85 (by omega) (by omega) (fun c85 => absurd c85 (by omega)) (fun c85 => ?_)
                refine r_iconst d_X8_missed_88 ?_
                refine r_goto d_X8_missed_89 ?_
                refine r_istore d_X8_missed_93 (by decide) ?_
                refine r_iload d_X8_missed_95 rfl ?_
                refine r_if_eq d_X8_missed_97 (by omega) (fun c97 => absurd c97 (by decide)) (fun c97 => ?_)
                refine r_iload d_X8_missed_100 rfl ?_
                refine r_goto d_X8_missed_102 ?_
                refine r_istore d_X8_missed_107 (by decide) ?_
                refine r_iload d_X8_missed_109 rfl ?_
                refine r_if_eq d_X8_missed_111 (by omega) (fun c111 => absurd c111 (by decide)) (fun c111 => ?_)
                refine r_iload d_X8_missed_114 rfl ?_
                refine r_goto d_X8_missed_116 ?_
                refine r_istore d_X8_missed_121 (by decide) ?_
                refine r_iinc d_X8_missed_123 rfl (by decide) ?_
                refine r_goto d_X8_missed_126 ?_
                exact CpL (ih (n + 1) I2 (by omega) f2 hM2 h562 hd2) (by repeat (first | exact trivial | refine ⟨rfl, ?_⟩ | refine ⟨by rw [e1]; rfl, ?_⟩ | refine ⟨by rw [e2]; rfl, ?_⟩))
              · obtain ⟨e1, e3⟩ := wsX_ge hb2.1 c6
                have e2 : mmS S (n + 1) = mmS S n := by unfold mmS; rw [if_neg (by omega), if_neg c0]; exact e3
                refine r_iload d_X8_missed_75 rfl ?_
                refine r_iconst d_X8_missed_77 ?_
                refine r_icmp_eq d_X8_missed_78 (by omega) (by omega) (fun c78 => absurd c78 (by exact c5)) (fun c78 => ?_)
                refine r_iload d_X8_missed_81 rfl ?_
                refine r_iload d_X8_missed_83 rfl ?_
                refine r_icmp_le d_X8_missed_85 (by omega) (by omega) (fun c85 => ?_) (fun c85 => absurd c85 (by omega))
                refine r_iconst d_X8_missed_92 ?_
                refine r_istore d_X8_missed_93 (by decide) ?_
                refine r_iload d_X8_missed_95 rfl ?_
                refine r_if_eq d_X8_missed_97 (by omega) (fun c97 => ?_) (fun c97 => absurd c97 (by decide))
                refine r_iload d_X8_missed_105 rfl ?_
                refine r_istore d_X8_missed_107 (by decide) ?_
                refine r_iload d_X8_missed_109 rfl ?_
                refine r_if_eq d_X8_missed_111 (by omega) (fun c111 => ?_) (fun c111 => absurd c111 (by decide))
                refine r_iload d_X8_missed_119 rfl ?_
                refine r_istore d_X8_missed_121 (by decide) ?_
                refine r_iinc d_X8_missed_123 rfl (by decide) ?_
                refine r_goto d_X8_missed_126 ?_
                exact CpL (ih (n + 1) I2 (by omega) f2 hM2 h562 hd2) (by repeat (first | exact trivial | refine ⟨rfl, ?_⟩ | refine ⟨by rw [e1]; rfl, ?_⟩ | refine ⟨by rw [e2]; rfl, ?_⟩))
          refine r_iload d_X8_missed_52 rfl ?_
          refine r_aload_n d_X8_missed_54 rfl ?_
          refine r_geti d_X8_missed_55 f_X8_235 (tt_139 _ _) (by decide) (by decide) ?_
          refine r_icmp_ge d_X8_missed_58 (by omega) (by omega) (fun c58 => absurd c58 (by omega)) (fun c58 => ?_)
          refine r_aload_n d_X8_missed_61 rfl ?_
          refine r_iload d_X8_missed_62 rfl ?_
          refine r_puti d_X8_missed_64 f_X8_121 (tt_139 _ _) (by decide) (Or.inl rfl) ?_
          refine r_aload_n d_X8_missed_67 rfl ?_
          refine r_iload_n d_X8_missed_68 rfl ?_
          refine r_iload_n d_X8_missed_69 rfl ?_
          refine r_V2i d_X8_missed_70 (w_X8_447 _ rfl) (tt_139 _ _) rfl rfl (x_sumAnew hV hcan hA (by omega) gX gK gR (by omega) k2 k3) (by decide) (Nat.le_of_ble_eq_true rfl) (fun z70 T70 I70 L70 R70 h70 => ?_)
          obtain ⟨rfl, rfl, rfl, y1, y2, y3, y4⟩ := h70
          refine r_istore d_X8_missed_73 (by decide) ?_
          have hz := hS n z70 y4
          rw [hz] at y3 y4
          exact CpL (t75 I70 (FP_tr f (FP_tr w1 (FM_FP y1))) (MS_fp w2 (FM_FP y1) (KNM_zero y2.1 y2.2)) (by rw [y1.2 56 (by omega), up2_nj _ _ (by decide)]; exact h56) y3 y4) (by repeat (first | exact trivial | refine ⟨rfl, ?_⟩ | refine ⟨by rw [hz]; rfl, ?_⟩))
      refine r_aload_n d_X8_missed_0 rfl ?_
      refine r_iload_n d_X8_missed_1 rfl ?_
      refine r_iconst d_X8_missed_2 ?_
      refine r_iload_n d_X8_missed_3 rfl ?_
      refine r_S1i d_X8_missed_4 (w_X8_403 _ rfl) (hgi) (by decide) (Nat.le_of_ble_eq_true rfl) (fun z4 T4 I4 L4 R4 h4 => ?_)
      obtain ⟨rfl, rfl, rfl, rfl, rfl⟩ := h4
      refine r_V3i d_X8_missed_7 (w_X8_396 _ rfl) (tt_139 _ _) rfl rfl (hb0) (by decide) (Nat.le_of_ble_eq_true rfl) (fun z7 T7 I7 L7 R7 h7 => ?_)
      obtain ⟨rfl, rfl, rfl, rfl, rfl⟩ := h7
      refine r_istore_n d_X8_missed_10 (by decide) ?_
      refine r_iload_n d_X8_missed_11 rfl ?_
      refine r_if_eq d_X8_missed_12 (by omega) (fun c12 => ?_) (fun c12 => absurd c12 (by decide))
      refine r_aload_n d_X8_missed_17 rfl ?_
      refine r_geti d_X8_missed_18 f_X8_435 (tt_139 _ _) (by decide) (by decide) ?_
      refine r_bipush d_X8_missed_21 (by decide) ?_
      refine r_icmp_ne d_X8_missed_23 (by omega) (by omega) (fun c23 => ?_) (fun c23 => absurd c23 (by omega))
      refine r_aload_n d_X8_missed_29 rfl ?_
      refine r_dup d_X8_missed_30 rfl ?_
      refine r_geti d_X8_missed_31 f_X8_435 (tt_139 _ _) (by decide) (by decide) ?_
      refine r_iconst d_X8_missed_34 ?_
      refine r_iadd d_X8_missed_35 ?_
      refine r_puti d_X8_missed_36 f_X8_435 (tt_139 _ _) (by decide) (Or.inl rfl) ?_
      refine r_aload_n d_X8_missed_39 rfl ?_
      refine r_V0v d_X8_missed_40 (w_X8_400 _ rfl) (tt_139 _ _) rfl rfl (x_allWomen) (by decide) (Nat.le_of_ble_eq_true rfl) (fun T40 I40 L40 R40 h40 => ?_)
      obtain ⟨rfl, rfl, rfl, rfl⟩ := h40
      refine r_iconst d_X8_missed_43 ?_
      refine r_istore d_X8_missed_44 (by decide) ?_
      refine r_iconst d_X8_missed_46 ?_
      refine r_istore d_X8_missed_47 (by decide) ?_
      refine r_iconst d_X8_missed_49 ?_
      refine r_istore d_X8_missed_50 (by decide) ?_
      rw [← hI0]
      exact CpL (loop _ 0 I0 (Nat.zero_add _) FP_rf ms0 e56 (fun j hj => absurd hj (by omega))) (by repeat (first | exact trivial | refine ⟨rfl, ?_⟩))
    · skip
      refine r_aload_n d_X8_missed_0 rfl ?_
      refine r_iload_n d_X8_missed_1 rfl ?_
      refine r_iconst d_X8_missed_2 ?_
      refine r_iload_n d_X8_missed_3 rfl ?_
      refine r_S1i d_X8_missed_4 (w_X8_403 _ rfl) (hgi) (by decide) (Nat.le_of_ble_eq_true rfl) (fun z4 T4 I4 L4 R4 h4 => ?_)
      obtain ⟨rfl, rfl, rfl, rfl, rfl⟩ := h4
      refine r_V3i d_X8_missed_7 (w_X8_396 _ rfl) (tt_139 _ _) rfl rfl (hb0) (by decide) (Nat.le_of_ble_eq_true rfl) (fun z7 T7 I7 L7 R7 h7 => ?_)
      obtain ⟨rfl, rfl, rfl, rfl, rfl⟩ := h7
      refine r_istore_n d_X8_missed_10 (by decide) ?_
      refine r_iload_n d_X8_missed_11 rfl ?_
      refine r_if_eq d_X8_missed_12 (by omega) (fun c12 => ?_) (fun c12 => absurd c12 (by decide))
      refine r_aload_n d_X8_missed_17 rfl ?_
      refine r_geti d_X8_missed_18 f_X8_435 (tt_139 _ _) (by decide) (by decide) ?_
      refine r_bipush d_X8_missed_21 (by decide) ?_
      refine r_icmp_ne d_X8_missed_23 (by omega) (by omega) (fun c23 => absurd c23 (by omega)) (fun c23 => ?_)
      refine r_bipush d_X8_missed_26 (by decide) ?_
      refine r_iret d_X8_missed_28 rfl ?_
      have e : mfS tl.length nr rule how q = -103 := by unfold mfS; rw [if_pos kr, if_neg k4]
      exact AKM_no hM hq ⟨fun _ => ⟨e.symm, rfl⟩, fun h => absurd (e.symm.trans h) (by decide)⟩
  · have e : mfS tl.length nr rule how q = rfS tl.length nr rule how := by unfold mfS; rw [if_neg kr]
    generalize rfS tl.length nr rule how = z at *
    refine r_aload_n d_X8_missed_0 rfl ?_
    refine r_iload_n d_X8_missed_1 rfl ?_
    refine r_iconst d_X8_missed_2 ?_
    refine r_iload_n d_X8_missed_3 rfl ?_
    refine r_S1i d_X8_missed_4 (w_X8_403 _ rfl) (hgi) (by decide) (Nat.le_of_ble_eq_true rfl) (fun z4 T4 I4 L4 R4 h4 => ?_)
    obtain ⟨rfl, rfl, rfl, rfl, rfl⟩ := h4
    refine r_V3i d_X8_missed_7 (w_X8_396 _ rfl) (tt_139 _ _) rfl rfl (hb0) (by decide) (Nat.le_of_ble_eq_true rfl) (fun z7 T7 I7 L7 R7 h7 => ?_)
    obtain ⟨rfl, rfl, rfl, rfl, rfl⟩ := h7
    refine r_istore_n d_X8_missed_10 (by decide) ?_
    refine r_iload_n d_X8_missed_11 rfl ?_
    refine r_if_eq d_X8_missed_12 (by omega) (fun c12 => absurd c12 (by exact kr)) (fun c12 => ?_)
    refine r_iload_n d_X8_missed_15 rfl ?_
    refine r_iret d_X8_missed_16 rfl ?_
    exact AKM_no hM hq ⟨fun _ => ⟨e.symm, rfl⟩, fun h => absurd (e.symm.trans h) kr⟩
end X9i
