/-- who is called: over the first n rooms, by what each bit is worth -/
def cdX (σ : Sg) (W : Nat → Int) : Nat → Int × Int
  | 0 => (-1, -1)
  | n + 1 => if (σ 6 n = -1 ∧ σ 4 n ≠ -1) ∧ (cdX σ W n).2 < W (chn σ n) then ((n : Int), W (chn σ n)) else cdX σ W n
theorem cd_flat {σ : Sg} {W : Nat → Int} {m : Nat} : ∀ n, m ≤ n → chn σ m = chn σ n → cdX σ W n = cdX σ W m
  | 0, h, _ => by rw [show m = 0 by omega]
  | n + 1, h, e => by
    by_cases hm : m = n + 1
    · rw [hm]
    · have h1 := chn_mono σ (show m ≤ n by omega)
      have h2 : chn σ (n + 1) = chn σ n + (if σ 4 n = -1 then 0 else 1) := rfl
      have h4 : σ 4 n = -1 := by
        apply Classical.byContradiction
        intro q
        rw [if_neg q] at h2; omega
      rw [if_pos h4] at h2
      show (if _ then _ else cdX σ W n) = _
      rw [if_neg (fun q => q.1.2 h4)]
      exact cd_flat n (by omega) (by omega)
theorem cd_eq {σ : Sg} {W : Nat → Int} {m n : Nat} (h : chn σ m = chn σ n) : cdX σ W m = cdX σ W n := by
  by_cases e : m ≤ n
  · exact (cd_flat n e h).symm
  · exact cd_flat m (by omega) h.symm
theorem cd_congr {σ : Sg} {W W' : Nat → Int} : ∀ n, (∀ b, b < chn σ n → W b = W' b) → cdX σ W n = cdX σ W' n
  | 0, _ => rfl
  | n + 1, h => by
    have hm := chn_mono σ (Nat.le_succ n)
    have ih := cd_congr n (fun b hb => h b (by show b < chn σ (n + 1); exact Nat.lt_of_lt_of_le hb hm))
    unfold cdX
    rw [ih]
    by_cases h4 : σ 4 n = -1
    · rw [if_neg (fun q => q.1.2 h4), if_neg (fun q => q.1.2 h4)]
    · have : chn σ (n + 1) = chn σ n + 1 := by simp [chn, h4]
      rw [h (chn σ n) (by omega)]
theorem cd_rg {σ : Sg} {W : Nat → Int} : ∀ n, -1 ≤ (cdX σ W n).1 ∧ (cdX σ W n).1 < n
  | 0 => by show (-1 : Int) ≤ -1 ∧ (-1 : Int) < _; omega
  | n + 1 => by
    have ih := cd_rg (σ := σ) (W := W) n
    unfold cdX
    split
    · show -1 ≤ (n : Int) ∧ (n : Int) < _; omega
    · omega
def dfC (nr : Nat) (how q : Int) : Int := if 0 < nr then (if how = 0 ∨ how = 1 then (if nr ≤ 6 ∧ q < 16 then 0 else -103) else -102) else -103
def CDW (σ : Sg) (ℓ ab : Int) (nr nW ng : Nat) (how : Int) (W : Nat → Int) (n : Nat) : Prop := ∀ r, r < nr → chn σ r < n → σ 6 r = -1 → σ 4 r ≠ -1 → WRT σ ℓ ab nr nW ng how (chn σ r) (W (chn σ r))
def aCalled (σ : Sg) (ℓ : Int) (nr nw ng : Nat) (how q z q' : Int) : Prop := (dfC nr how q ≠ 0 → z = dfC nr how q ∧ q' = q) ∧ (dfC nr how q = 0 → q' = q + 1 ∧ ∃ W, CDW σ ℓ (-1) nr nw ng how W (chn σ nr) ∧ z = (cdX σ W nr).1)
section C57
variable {g : sG} {Ls : Nat} {tl : List Nat} {I L : sI} {σ : Sg} {ℓ : Int} {nr nw ng : Nat} {ukd unn : Nat → Int} {utr utw : Nat → Nat → Nat}
theorem c_called (hX : XS σ ℓ nr nw ng tl ukd unn utr utw I L) {how q : Int} (hh : i32 how) (hq : I 3 12 = q) (hq2 : 0 ≤ q ∧ q ≤ 16) : Mc g 12 m_X7_called 0 0 [vr 3, vi how] (TT Ls tl) I L (RR tl) (AK σ ℓ nr nw ng Ls tl ukd unn utr utw I L (aCalled σ ℓ nr nw ng how q)) := by
  refine Mc_of rfl (Nat.le_of_ble_eq_true rfl) ?_
  obtain ⟨hB, hR⟩ := id hX
  obtain ⟨b1, b2, b3, b4, b5, b6, b7, b8⟩ := id hB
  obtain ⟨v1, v2, v3, v4, v5, v6, v7⟩ := id b1
  have hpw := p2 v7
  have e3 : I 8 3 = (nr : Int) := b3.1
  have hc2 := c_isHoused (g := g) (Ls := Ls) (tl := tl) (I := I) (L := L) (by omega)
  rw [e3] at hc2
  obtain ⟨D, hD⟩ : ∃ D, D = dfC nr how q := ⟨_, rfl⟩
  have no : ∀ z : Int, z = D → z ≠ 0 → AK σ ℓ nr nw ng Ls tl ukd unn utr utw I L (aCalled σ ℓ nr nw ng how q) (some (vi z)) (TT Ls tl) I L (RR tl) := fun z h1 h2 => AK_no hX hq ⟨fun _ => ⟨by rw [h1, hD], rfl⟩, fun h => absurd (by rw [h1, hD]; exact h) h2⟩
  unfold dfC at hD
  by_cases k2 : 0 < nr
  · rw [if_pos (by omega)] at hc2
    rw [if_pos k2] at hD
    by_cases k4 : how = 0 ∨ how = 1
    · rw [if_pos k4] at hD
      by_cases k5 : nr ≤ 6 ∧ q < 16
      · have hz : dfC nr how q = 0 := by unfold dfC; rw [if_pos k2, if_pos k4, if_pos k5]
        have hX1 := XS_ask (v := q + 1) hX
        have hlen := ODR_len nr (by omega)
        obtain ⟨J, hJ⟩ : ∃ J, J = up2 I 3 12 (q + 1) := ⟨_, rfl⟩
        rw [← hJ] at hX1
        obtain ⟨g1, g2, g3, g4, g5, g6, g7, g8⟩ := id hX1.1
        have loop : ∀ (k b : Nat) (W : Nat → Int) (rm mo : Int) (I1 L1 : sI), b + k = chn σ nr → frb 70 133 J I1 → frb 81 120 L L1 → CDW σ ℓ (-1) nr nw ng how W b → (∀ r, r ≤ nr → chn σ r = b → cdX σ W r = (rm, mo)) → (rm ≠ -1 → WX σ ℓ (-1) nr nw ng how (2 ^ chn σ nr) I1 ∧ I1 122 5 = ((ODR nr).length : Int)) → -100000000 ≤ mo ∧ mo ≤ 100000000 → Cp g 12 m_X7_called 0 0 (AK σ ℓ nr nw ng Ls tl ukd unn utr utw I L (aCalled σ ℓ nr nw ng how q)) 61 [(0, vr 3), (1, vi how), (2, vi rm), (3, vi mo), (4, vi (b : Int))] [] (TT Ls tl) I1 L1 (RR tl) := by
          intro k
          induction k with
          | zero =>
            intro b W rm mo I1 L1 hbk f1 f2 hW hinv hwx hmo
            have e := hinv nr (Nat.le_refl _) (by omega)
            have hB1 := XB_day (I' := I1) (L' := L1) hX1.1 (fun a ha => f1 a (by omega)) (KNX_frb g6 (fun a ha => f1 a (by omega))) f2
            have e6 : I1 8 6 = (chn σ nr : Int) := hB1.2.2.1.2.2.2.1
            refine r_iload d_X7_called_61 rfl ?_
            refine r_aload_n d_X7_called_63 rfl ?_
            refine r_getr d_X7_called_64 f_X7_19 (tt_3 _ _) (by decide) rfl (rr_3_1 _) ?_
            refine r_geti d_X7_called_67 f_X7_228 (tt_8 _ _) (by decide) (by decide) ?_
            refine r_icmp_ge d_X7_called_70 (by omega) (by omega) (fun c70 => ?_) (fun c70 => absurd c70 (by omega))
            refine r_iload_n d_X7_called_143 rfl ?_
            refine r_iret d_X7_called_144 rfl ?_
            refine ⟨_, rfl, rfl, rfl, fun a h1 h2 => ?_, fun k hk => ?_, f2, ⟨hB1, RX_frb hX1.2 f1 (by omega) (by omega)⟩, fun h => absurd hz h, fun _ => ⟨?_, W, by rw [show chn σ nr = b by omega]; exact hW, by rw [e]⟩⟩
            · rw [f1 a (by omega), hJ]; exact up2_ne _ _ h1
            · rw [f1 3 (by omega), hJ]; exact up2_nj _ _ hk
            · rw [f1 3 (by omega), hJ]; exact up2_at _ _ _ _
          | succ k ih =>
            intro b W rm mo I1 L1 hbk f1 f2 hW hinv hwx hmo
            obtain ⟨ρ, h1, h2, h3⟩ := chn_room σ nr b (by omega)
            have e := hinv ρ (by omega) h3
            have hrm := cd_rg (σ := σ) (W := W) ρ
            rw [e] at hrm
            have hrm : -1 ≤ rm ∧ rm < ρ := hrm
            have suc : chn σ (ρ + 1) = b + 1 := by simp [chn, h2, h3]
            have hB1 := XB_day (I' := I1) (L' := L1) hX1.1 (fun a ha => f1 a (by omega)) (KNX_frb g6 (fun a ha => f1 a (by omega))) f2
            have e6 : I1 8 6 = (chn σ nr : Int) := hB1.2.2.1.2.2.2.1
            have eI : I1 31 b = (ρ : Int) := by rw [← h3]; exact HXc hB1.2.2.1 h1 h2
            have hcb := c_isByChance (g := g) (Ls := Ls) (tl := tl) (I := I1) (L := L1) b1 hB1.2.2.1 h1
            by_cases c6 : σ 6 ρ = -1
            · rw [if_pos ⟨c6, h2⟩] at hcb
              have tail : ∀ (I2 L2 : sI), frb 70 133 J I2 → frb 81 120 L L2 → WX σ ℓ (-1) nr nw ng how (2 ^ chn σ nr) I2 → I2 122 5 = ((ODR nr).length : Int) → Cp g 12 m_X7_called 0 0 (AK σ ℓ nr nw ng Ls tl ukd unn utr utw I L (aCalled σ ℓ nr nw ng how q)) 106 [(0, vr 3), (1, vi how), (2, vi rm), (3, vi mo), (4, vi (b : Int))] [] (TT Ls tl) I2 L2 (RR tl) := by
                intro I2 L2 f3 f4 hWX hcn
                have hB2 := XB_day (I' := I2) (L' := L2) hX1.1 (fun a ha => f3 a (by omega)) (KNX_frb g6 (fun a ha => f3 a (by omega))) f4
                have eI2 : I2 31 b = (ρ : Int) := by rw [← h3]; exact HXc hB2.2.2.1 h1 h2
                have hCB := WX_CBD b1 b2 hWX
                have l1 := leS_bd (mask := 0) (bits := 0) hCB (by omega) (by omega)
                have l2 := leS_bd (mask := 2 ^ b) (bits := 0) hCB (by omega) (by omega)
                have l3 := leS_bd (mask := 2 ^ b) (bits := 2 ^ b) hCB (by omega) (by omega)
                refine r_aload_n d_X7_called_106 rfl ?_
                refine r_getr d_X7_called_107 f_X7_53 (tt_3 _ _) (by decide) rfl (rr_3_7 _) ?_
                refine r_iload d_X7_called_110 rfl ?_
                refine r_V1i d_X7_called_112 (w_X7_257 _ rfl) (tt_122 _ _) rfl rfl (c_worthOf b1 hB2.2.2.1 (by omega) hcn hCB (by omega)) (by decide) (Nat.le_of_ble_eq_true rfl) (fun z112 T112 I112 L112 R112 h112 => ?_)
                obtain ⟨ew, rfl, rfl, rfl, rfl⟩ := h112
                obtain ⟨W', wb, wn⟩ : ∃ W' : Nat → Int, W' b = z112 ∧ ∀ i, i ≠ b → W' i = W i := ⟨fun i => if i = b then z112 else W i, if_pos rfl, fun i hi => if_neg hi⟩
                have hW' : CDW σ ℓ (-1) nr nw ng how W' (b + 1) := by
                  intro r hr hb h6 h4
                  by_cases e2 : chn σ r = b
                  · rw [e2, wb]; exact ⟨_, hWX, ew⟩
                  · rw [wn _ e2]; exact hW r hr (by omega) h6 h4
                have es : cdX σ W' (ρ + 1) = (if mo < z112 then ((ρ : Int), z112) else (rm, mo)) := by
                  have e0 : cdX σ W' ρ = (rm, mo) := by rw [cd_congr (W' := W) ρ (fun i hi => wn i (by omega)), e]
                  show (if (σ 6 ρ = -1 ∧ σ 4 ρ ≠ -1) ∧ (cdX σ W' ρ).2 < W' (chn σ ρ) then ((ρ : Int), W' (chn σ ρ)) else cdX σ W' ρ) = _
                  rw [e0, h3, wb]
                  by_cases c : mo < z112
                  · rw [if_pos ⟨⟨c6, h2⟩, c⟩, if_pos c]
                  · rw [if_neg (fun q => c q.2), if_neg c]
                have nxt : ∀ r, r ≤ nr → chn σ r = b + 1 → cdX σ W' r = cdX σ W' (ρ + 1) := fun r _ hr => cd_eq (by rw [hr, suc])
                refine r_istore d_X7_called_115 (by decide) ?_
                refine r_iload d_X7_called_117 rfl ?_
                refine r_iload_n d_X7_called_119 rfl ?_
                refine r_icmp_le d_X7_called_120 (by omega) (by omega) (fun c120 => ?_) (fun c120 => ?_)
                · refine r_iinc d_X7_called_137 rfl (by decide) ?_
                  refine r_goto d_X7_called_140 ?_
                  first
                  | exact CpL (ih (b + 1) W' rm mo I2 L2 (by omega) f3 f4 hW' (fun r h1 h2 => by rw [nxt r h1 h2, es, if_neg (by omega)]) (fun _ => ⟨hWX, hcn⟩) hmo) (by repeat (first | exact trivial | refine ⟨rfl, ?_⟩))
                  | exact CpL (ih (b + 1) W' (ρ : Int) z112 I2 L2 (by omega) f3 f4 hW' (fun r h1 h2 => by rw [nxt r h1 h2, es, if_pos (by omega)]) (fun _ => ⟨hWX, hcn⟩) (by omega)) (by repeat (first | exact trivial | refine ⟨rfl, ?_⟩))
                · refine r_iload d_X7_called_123 rfl ?_
                  refine r_istore_n d_X7_called_125 (by decide) ?_
                  refine r_aload_n d_X7_called_126 rfl ?_
                  refine r_getr d_X7_called_127 f_X7_19 (tt_3 _ _) (by decide) rfl (rr_3_1 _) ?_
                  refine r_getr d_X7_called_130 f_X7_231 (tt_8 _ _) (by decide) rfl (rr_8_7 _) ?_
                  refine r_iload d_X7_called_133 rfl ?_
                  refine r_ialdJ d_X7_called_135 (tt_31 _ _) rfl (by omega) (kk := ?_)
                  rw [eI2]
                  refine r_istore_n d_X7_called_136 (by decide) ?_
                  refine r_iinc d_X7_called_137 rfl (by decide) ?_
                  refine r_goto d_X7_called_140 ?_
                  first
                  | exact CpL (ih (b + 1) W' rm mo I2 L2 (by omega) f3 f4 hW' (fun r h1 h2 => by rw [nxt r h1 h2, es, if_neg (by omega)]) (fun _ => ⟨hWX, hcn⟩) hmo) (by repeat (first | exact trivial | refine ⟨rfl, ?_⟩))
                  | exact CpL (ih (b + 1) W' (ρ : Int) z112 I2 L2 (by omega) f3 f4 hW' (fun r h1 h2 => by rw [nxt r h1 h2, es, if_pos (by omega)]) (fun _ => ⟨hWX, hcn⟩) (by omega)) (by repeat (first | exact trivial | refine ⟨rfl, ?_⟩))
              refine r_iload d_X7_called_61 rfl ?_
              refine r_aload_n d_X7_called_63 rfl ?_
              refine r_getr d_X7_called_64 f_X7_19 (tt_3 _ _) (by decide) rfl (rr_3_1 _) ?_
              refine r_geti d_X7_called_67 f_X7_228 (tt_8 _ _) (by decide) (by decide) ?_
              refine r_icmp_ge d_X7_called_70 (by omega) (by omega) (fun c70 => absurd c70 (by omega)) (fun c70 => ?_)
              refine r_aload_n d_X7_called_73 rfl ?_
              refine r_getr d_X7_called_74 f_X7_19 (tt_3 _ _) (by decide) rfl (rr_3_1 _) ?_
              refine r_aload_n d_X7_called_77 rfl ?_
              refine r_getr d_X7_called_78 f_X7_19 (tt_3 _ _) (by decide) rfl (rr_3_1 _) ?_
              refine r_getr d_X7_called_81 f_X7_231 (tt_8 _ _) (by decide) rfl (rr_8_7 _) ?_
              refine r_iload d_X7_called_84 rfl ?_
              refine r_ialdJ d_X7_called_86 (tt_31 _ _) rfl (by omega) (kk := ?_)
              rw [eI]
              refine r_V1i d_X7_called_87 (w_X7_247 _ rfl) (tt_8 _ _) rfl rfl (hcb) (by decide) (Nat.le_of_ble_eq_true rfl) (fun z87 T87 I87 L87 R87 h87 => ?_)
              obtain ⟨rfl, rfl, rfl, rfl, rfl⟩ := h87
              refine r_if_eq d_X7_called_90 (by omega) (fun c90 => absurd c90 (by decide)) (fun c90 => ?_)
              refine r_iload_n d_X7_called_93 rfl ?_
              refine r_iconst d_X7_called_94 ?_
              refine r_icmp_ne d_X7_called_95 (by omega) (by omega) (fun c95 => ?_) (fun c95 => ?_)
              · first
                | exact CpL (tail _ _ (frb_tr f1 y1) (frb_tr f2 y2) hWX hcn) (by repeat (first | exact trivial | refine ⟨rfl, ?_⟩))
                | exact CpL (tail _ _ f1 f2 (hwx c95).1 (hwx c95).2) (by repeat (first | exact trivial | refine ⟨rfl, ?_⟩))
              · refine r_aload_n d_X7_called_98 rfl ?_
                refine r_getr d_X7_called_99 f_X7_53 (tt_3 _ _) (by decide) rfl (rr_3_7 _) ?_
                refine r_iload_n d_X7_called_102 rfl ?_
                refine r_V1v d_X7_called_103 (w_X7_250 _ rfl) (tt_122 _ _) rfl rfl (c_weighAll b1 b2 k2 k5.1 k4 hB1.2.2.1 hB1.2.2.2.1 hB1.2.2.2.2.1 hB1.2.2.2.2.2.2.1) (by decide) (Nat.le_of_ble_eq_true rfl) (fun T103 I103 L103 R103 h103 => ?_)
                obtain ⟨rfl, rfl, y1, y2, hWX, hcn⟩ := h103
                first
                | exact CpL (tail _ _ (frb_tr f1 y1) (frb_tr f2 y2) hWX hcn) (by repeat (first | exact trivial | refine ⟨rfl, ?_⟩))
                | exact CpL (tail _ _ f1 f2 (hwx c95).1 (hwx c95).2) (by repeat (first | exact trivial | refine ⟨rfl, ?_⟩))
            · rw [if_neg (fun q => c6 q.1)] at hcb
              have es : cdX σ W (ρ + 1) = (rm, mo) := by
                show (if (σ 6 ρ = -1 ∧ σ 4 ρ ≠ -1) ∧ (cdX σ W ρ).2 < W (chn σ ρ) then ((ρ : Int), W (chn σ ρ)) else cdX σ W ρ) = _
                rw [if_neg (fun q => c6 q.1.1), e]
              refine r_iload d_X7_called_61 rfl ?_
              refine r_aload_n d_X7_called_63 rfl ?_
              refine r_getr d_X7_called_64 f_X7_19 (tt_3 _ _) (by decide) rfl (rr_3_1 _) ?_
              refine r_geti d_X7_called_67 f_X7_228 (tt_8 _ _) (by decide) (by decide) ?_
              refine r_icmp_ge d_X7_called_70 (by omega) (by omega) (fun c70 => absurd c70 (by omega)) (fun c70 => ?_)
              refine r_aload_n d_X7_called_73 rfl ?_
              refine r_getr d_X7_called_74 f_X7_19 (tt_3 _ _) (by decide) rfl (rr_3_1 _) ?_
              refine r_aload_n d_X7_called_77 rfl ?_
              refine r_getr d_X7_called_78 f_X7_19 (tt_3 _ _) (by decide) rfl (rr_3_1 _) ?_
              refine r_getr d_X7_called_81 f_X7_231 (tt_8 _ _) (by decide) rfl (rr_8_7 _) ?_
              refine r_iload d_X7_called_84 rfl ?_
              refine r_ialdJ d_X7_called_86 (tt_31 _ _) rfl (by omega) (kk := ?_)
              rw [eI]
              refine r_V1i d_X7_called_87 (w_X7_247 _ rfl) (tt_8 _ _) rfl rfl (hcb) (by decide) (Nat.le_of_ble_eq_true rfl) (fun z87 T87 I87 L87 R87 h87 => ?_)
              obtain ⟨rfl, rfl, rfl, rfl, rfl⟩ := h87
              refine r_if_eq d_X7_called_90 (by omega) (fun c90 => ?_) (fun c90 => absurd c90 (by decide))
              refine r_iinc d_X7_called_137 rfl (by decide) ?_
              refine r_goto d_X7_called_140 ?_
              refine CpL (ih (b + 1) W rm mo I1 L1 (by omega) f1 f2 (fun r hr hb h6 h4 => ?_) (fun r h1 h2 => by rw [cd_eq (n := ρ + 1) (by rw [h2, suc]), es]) hwx hmo) (by repeat (first | exact trivial | refine ⟨rfl, ?_⟩))
              have : chn σ r ≠ b := fun e2 => c6 (by rw [← chn_inj σ h4 h2 (by rw [e2, h3])]; exact h6)
              exact hW r hr (by omega) h6 h4
        refine r_aload_n d_X7_called_0 rfl ?_
        refine r_V0i d_X7_called_1 (w_X7_157 _ rfl) (tt_3 _ _) rfl rfl (hc2) (by decide) (Nat.le_of_ble_eq_true rfl) (fun z1 T1 I1 L1 R1 h1 => ?_)
        obtain ⟨rfl, rfl, rfl, rfl, rfl⟩ := h1
        refine r_if_ne d_X7_called_4 (by omega) (fun c4 => ?_) (fun c4 => absurd c4 (by decide))
        refine r_iload_n d_X7_called_10 rfl ?_
        refine r_S1i d_X7_called_11 (w_X7_183 _ rfl) (c_isGiving hh) (by decide) (Nat.le_of_ble_eq_true rfl) (fun z11 T11 I11 L11 R11 h11 => ?_)
        obtain ⟨rfl, rfl, rfl, rfl, rfl⟩ := h11
        refine r_if_ne d_X7_called_14 (by split <;> omega) (fun c14 => ?_) (fun c14 => absurd c14 (by rw [if_pos k4]; decide))
        refine r_aload_n d_X7_called_20 rfl ?_
        refine r_getr d_X7_called_21 f_X7_19 (tt_3 _ _) (by decide) rfl (rr_3_1 _) ?_
        refine r_geti d_X7_called_24 f_X7_94 (tt_8 _ _) (by decide) (by decide) ?_
        rw [e3]
        refine r_bipush d_X7_called_27 (by decide) ?_
        refine r_icmp_gt d_X7_called_29 (by omega) (by omega) (fun c29 => absurd c29 (by omega)) (fun c29 => ?_)
        refine r_aload_n d_X7_called_32 rfl ?_
        refine r_geti d_X7_called_33 f_X7_244 (tt_3 _ _) (by decide) (by decide) ?_
        rw [hq]
        refine r_bipush d_X7_called_36 (by decide) ?_
        refine r_icmp_lt d_X7_called_38 (by omega) (by omega) (fun c38 => ?_) (fun c38 => absurd c38 (by omega))
        refine r_aload_n d_X7_called_44 rfl ?_
        refine r_dup d_X7_called_45 rfl ?_
        refine r_geti d_X7_called_46 f_X7_244 (tt_3 _ _) (by decide) (by decide) ?_
        refine r_iconst d_X7_called_49 ?_
        refine r_iadd d_X7_called_50 ?_
        rw [hq]
        refine r_puti d_X7_called_51 f_X7_244 (tt_3 _ _) (by decide) (Or.inl rfl) ?_
        rw [← hJ]
        refine r_iconst d_X7_called_54 ?_
        refine r_istore_n d_X7_called_55 (by decide) ?_
        refine r_iconst d_X7_called_56 ?_
        refine r_istore_n d_X7_called_57 (by decide) ?_
        refine r_iconst d_X7_called_58 ?_
        refine r_istore d_X7_called_59 (by decide) ?_
        exact CpL (loop (chn σ nr) 0 (fun _ => 0) (-1) (-1) J L (by omega) frb_rf frb_rf (fun r _ h => absurd h (by omega)) (fun r h1 h2 => by rw [cd_eq (n := 0) (by rw [h2]; rfl)]; rfl) (fun h => absurd rfl h) (by omega)) (by repeat (first | exact trivial | refine ⟨rfl, ?_⟩))
      · rw [if_neg k5] at hD
        have e := no (-103) hD.symm (by decide)
        refine r_aload_n d_X7_called_0 rfl ?_
        refine r_V0i d_X7_called_1 (w_X7_157 _ rfl) (tt_3 _ _) rfl rfl (hc2) (by decide) (Nat.le_of_ble_eq_true rfl) (fun z1 T1 I1 L1 R1 h1 => ?_)
        obtain ⟨rfl, rfl, rfl, rfl, rfl⟩ := h1
        refine r_if_ne d_X7_called_4 (by omega) (fun c4 => ?_) (fun c4 => absurd c4 (by decide))
        refine r_iload_n d_X7_called_10 rfl ?_
        refine r_S1i d_X7_called_11 (w_X7_183 _ rfl) (c_isGiving hh) (by decide) (Nat.le_of_ble_eq_true rfl) (fun z11 T11 I11 L11 R11 h11 => ?_)
        obtain ⟨rfl, rfl, rfl, rfl, rfl⟩ := h11
        refine r_if_ne d_X7_called_14 (by split <;> omega) (fun c14 => ?_) (fun c14 => absurd c14 (by rw [if_pos k4]; decide))
        refine r_aload_n d_X7_called_20 rfl ?_
        refine r_getr d_X7_called_21 f_X7_19 (tt_3 _ _) (by decide) rfl (rr_3_1 _) ?_
        refine r_geti d_X7_called_24 f_X7_94 (tt_8 _ _) (by decide) (by decide) ?_
        rw [e3]
        refine r_bipush d_X7_called_27 (by decide) ?_
        refine r_icmp_gt d_X7_called_29 (by omega) (by omega) (fun c29 => ?_) (fun c29 => ?_)
        · refine r_bipush d_X7_called_41 (by decide) ?_
          refine r_iret d_X7_called_43 rfl ?_
          exact e
        · refine r_aload_n d_X7_called_32 rfl ?_
          refine r_geti d_X7_called_33 f_X7_244 (tt_3 _ _) (by decide) (by decide) ?_
          rw [hq]
          refine r_bipush d_X7_called_36 (by decide) ?_
          refine r_icmp_lt d_X7_called_38 (by omega) (by omega) (fun c38 => absurd c38 (by omega)) (fun c38 => ?_)
          refine r_bipush d_X7_called_41 (by decide) ?_
          refine r_iret d_X7_called_43 rfl ?_
          exact e
    · rw [if_neg k4] at hD
      have e := no (-102) hD.symm (by decide)
      refine r_aload_n d_X7_called_0 rfl ?_
      refine r_V0i d_X7_called_1 (w_X7_157 _ rfl) (tt_3 _ _) rfl rfl (hc2) (by decide) (Nat.le_of_ble_eq_true rfl) (fun z1 T1 I1 L1 R1 h1 => ?_)
      obtain ⟨rfl, rfl, rfl, rfl, rfl⟩ := h1
      refine r_if_ne d_X7_called_4 (by omega) (fun c4 => ?_) (fun c4 => absurd c4 (by decide))
      refine r_iload_n d_X7_called_10 rfl ?_
      refine r_S1i d_X7_called_11 (w_X7_183 _ rfl) (c_isGiving hh) (by decide) (Nat.le_of_ble_eq_true rfl) (fun z11 T11 I11 L11 R11 h11 => ?_)
      obtain ⟨rfl, rfl, rfl, rfl, rfl⟩ := h11
      refine r_if_ne d_X7_called_14 (by split <;> omega) (fun c14 => absurd c14 (by rw [if_neg k4]; decide)) (fun c14 => ?_)
      refine r_bipush d_X7_called_17 (by decide) ?_
      refine r_iret d_X7_called_19 rfl ?_
      exact e
  · rw [if_neg (by omega)] at hc2
    rw [if_neg k2] at hD
    have e := no (-103) hD.symm (by decide)
    refine r_aload_n d_X7_called_0 rfl ?_
    refine r_V0i d_X7_called_1 (w_X7_157 _ rfl) (tt_3 _ _) rfl rfl (hc2) (by decide) (Nat.le_of_ble_eq_true rfl) (fun z1 T1 I1 L1 R1 h1 => ?_)
    obtain ⟨rfl, rfl, rfl, rfl, rfl⟩ := h1
    refine r_if_ne d_X7_called_4 (by omega) (fun c4 => absurd c4 (by decide)) (fun c4 => ?_)
    refine r_bipush d_X7_called_7 (by decide) ?_
    refine r_iret d_X7_called_9 rfl ?_
    exact e
end C57
