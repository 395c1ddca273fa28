/-! the reference: the best order, a day, its cost -/
def KNM (σ : Sg) (ℓ ab : Int) (nr nW ng : Nat) (I : sI) : Prop := ∀ hw : Nat, hw < 2 → I 173 hw = 0 ∨ (I 173 hw = 1 ∧ ∃ lf, BST σ ℓ ab nr nW ng (hw : Int) lf ∧ LFX nr lf (fun j => I 183 (6 * hw + j)))
def RXM (tl : List Nat) (ukd unn : Nat → Int) (utr utw : Nat → Nat → Nat) (I : sI) : Prop := I 139 19 = (tl.length : Int) ∧ tl.length ≤ 8 ∧ ∀ q, q < tl.length → I 154 q = ukd q ∧ I 155 q = unn q ∧ (0 ≤ ukd q ∧ ukd q ≤ 6) ∧ (0 ≤ unn q ∧ unn q ≤ 1) ∧ (ukd q = 6 → ∃ l, SRT l ∧ TLM l (fun j => I 156 (24 * q + j)) ∧ (∀ x ∈ l, x.1 < 8) ∧ l.length ≤ 8 ∧ l.length = tl.getD q 0 ∧ ∀ i, i < l.length → utr q i = (l.getD i (0, 0)).1 ∧ utw q i = (l.getD i (0, 0)).2)
def MB (σ : Sg) (ℓ ab : Int) (nr nW ng : Nat) (tl : List Nat) (ukd unn : Nat → Int) (utr utw : Nat → Nat → Nat) (I : sI) : Prop := MV σ ℓ nr nW ng ∧ CAN σ nr ∧ ARS σ ng ∧ (-1 ≤ ab ∧ ab ≤ 100) ∧ MX σ nr nW ng I ∧ MK ℓ ab nW I ∧ KNM σ ℓ ab nr nW ng I ∧ RXM tl ukd unn utr utw I
theorem RXM_fm {tl : List Nat} {ukd unn : Nat → Int} {utr utw : Nat → Nat → Nat} {I I' : sI} (h : RXM tl ukd unn utr utw I) (f : FM I I') : RXM tl ukd unn utr utw I' := by
  obtain ⟨h1, h2, h3⟩ := h
  refine ⟨by rw [f.2 19 (by omega)]; exact h1, h2, fun q hq => ?_⟩
  rw [f.1 154 (by decide) (by omega), f.1 155 (by decide) (by omega), f.1 156 (by decide) (by omega)]
  exact h3 q hq
theorem MB_fm {σ : Sg} {ℓ ab : Int} {nr nW ng : Nat} {tl : List Nat} {ukd unn : Nat → Int} {utr utw : Nat → Nat → Nat} {I I' : sI} (h : MB σ ℓ ab nr nW ng tl ukd unn utr utw I) (f : FM I I') (k : KNM σ ℓ ab nr nW ng I') : MB σ ℓ ab nr nW ng tl ukd unn utr utw I' := by
  obtain ⟨h1, h2, h3, h4, h5, h6, h7, h8⟩ := h
  exact ⟨h1, h2, h3, h4, MX_fm h5 f, MK_fm h6 f, k, RXM_fm h8 f⟩
theorem KNM_fr {σ : Sg} {ℓ ab : Int} {nr nW ng : Nat} {I I' : sI} (h : KNM σ ℓ ab nr nW ng I) (e1 : I' 173 = I 173) (e2 : I' 183 = I 183) : KNM σ ℓ ab nr nW ng I' := by
  unfold KNM
  rw [e1, e2]; exact h
section X92
variable {g : sG} {Ls : Nat} {T : sT} {R : sR} {I L : sI} {σ δ : Sg} {ℓ ab : Int} {nr nW ng : Nat} {tl : List Nat} {ukd unn : Nat → Int} {utr utw : Nat → Nat → Nat}
theorem x_layBestOrder (hM : MB σ ℓ ab nr nW ng tl ukd unn utr utw I) {hw way : Nat} (hh : hw < 2) (h0 : 0 < nr) (h6 : nr ≤ 6) (hg : ∀ r, r < nr → I 174 r = goneS σ way r) : Mc g 8 m_X8_layBestOrder 0 0 [vr 139, vi (hw : Int)] (TT Ls tl) I L (RR tl) (qV fun T' I' L' R' => T' = TT Ls tl ∧ R' = RR tl ∧ L' = L ∧ FM I I' ∧ KNM σ ℓ ab nr nW ng I' ∧ (DM (opS σ way) nr nW I → DM (opS σ way) nr nW I') ∧ ∃ lf, BST σ ℓ ab nr nW ng (hw : Int) lf ∧ LFX nr lf (I' 180) ∧ LFX nr lf (fun j => I' 183 (6 * hw + j))) := by
  refine Mc_of rfl (Nat.le_of_ble_eq_true rfl) ?_
  obtain ⟨hV, hcan, hA, hab, hX, hK, hN, hR⟩ := id hM
  obtain ⟨⟨s1, s2, s3, s4, s5⟩, v2, v3, v4⟩ := id hV
  obtain ⟨Q, hQ⟩ : ∃ Q : sQ, Q = (qV fun T' I' L' R' => T' = TT Ls tl ∧ R' = RR tl ∧ L' = L ∧ FM I I' ∧ KNM σ ℓ ab nr nW ng I' ∧ (DM (opS σ way) nr nW I → DM (opS σ way) nr nW I') ∧ ∃ lf, BST σ ℓ ab nr nW ng (hw : Int) lf ∧ LFX nr lf (I' 180) ∧ LFX nr lf (fun j => I' 183 (6 * hw + j))) := ⟨_, rfl⟩
  rw [← hQ]
  have t82 : ∀ (I2 : sI) (lf : List Nat), FM I I2 → KNM σ ℓ ab nr nW ng I2 → (DM (opS σ way) nr nW I → DM (opS σ way) nr nW I2) → BST σ ℓ ab nr nW ng (hw : Int) lf → LFX nr lf (fun j => I2 183 (6 * hw + j)) → Cp g 8 m_X8_layBestOrder 0 0 Q 82 [(0, vr 139), (1, vi (hw : Int))] [] (TT Ls tl) I2 L (RR tl) := by
    intro I2 lf fm2 hN2 hD2 hB hL
    have copy : ∀ (m j : Nat) (I3 : sI), j + m = nr → frb 180 181 I2 I3 → (∀ x, x < j → I3 180 x = I2 183 (6 * hw + x)) → Cp g 8 m_X8_layBestOrder 0 0 Q 84 [(0, vr 139), (1, vi (hw : Int)), (2, vi (j : Int))] [] (TT Ls tl) I3 L (RR tl) := by
      intro m
      induction m with
      | zero =>
        intro j I3 hj f hx
        have e0 : I3 139 0 = (nr : Int) := by rw [f 139 (by omega)]; exact (MX_fm hX fm2).1
        refine r_iload_n d_X8_layBestOrder_84 rfl ?_
        refine r_aload_n d_X8_layBestOrder_85 rfl ?_
        refine r_geti d_X8_layBestOrder_86 f_X8_232 (tt_139 _ _) (by decide) (by decide) ?_
        refine r_icmp_ge d_X8_layBestOrder_89 (by omega) (by omega) (fun c89 => ?_) (fun c89 => absurd c89 (by omega))
        refine r_vret d_X8_layBestOrder_115 rfl ?_
        rw [hQ]
        refine ⟨rfl, rfl, rfl, rfl, FM_tr fm2 (FM_frb f (by omega) (by omega)), KNM_fr hN2 (f 173 (by omega)) (f 183 (by omega)), fun h => DM_frb (hD2 h) f (by omega), lf, hB, fun x hx2 => ?_, by rw [f 183 (by omega)]; exact hL⟩
        obtain ⟨y, y1, y2, y3⟩ := hL x hx2
        exact ⟨y, y1, y2, by rw [hx x (by omega)]; exact y3⟩
      | succ m ih =>
        intro j I3 hj f hx
        have e0 : I3 139 0 = (nr : Int) := by rw [f 139 (by omega)]; exact (MX_fm hX fm2).1
        have ej : I3 183 (6 * hw + j) = I2 183 (6 * hw + j) := by rw [f 183 (by omega)]
        refine r_iload_n d_X8_layBestOrder_84 rfl ?_
        refine r_aload_n d_X8_layBestOrder_85 rfl ?_
        refine r_geti d_X8_layBestOrder_86 f_X8_232 (tt_139 _ _) (by decide) (by decide) ?_
        refine r_icmp_ge d_X8_layBestOrder_89 (by omega) (by omega) (fun c89 => absurd c89 (by omega)) (fun c89 => ?_)
        refine r_aload_n d_X8_layBestOrder_92 rfl ?_
        refine r_getr d_X8_layBestOrder_93 f_X8_139 (tt_139 _ _) (by decide) rfl (rr_139_62 _) ?_
        refine r_iload_n d_X8_layBestOrder_96 rfl ?_
        refine r_aload_n d_X8_layBestOrder_97 rfl ?_
        refine r_getr d_X8_layBestOrder_98 f_X8_148 (tt_139 _ _) (by decide) rfl (rr_139_65 _) ?_
        refine r_bipush d_X8_layBestOrder_101 (by decide) ?_
        refine r_iload_n d_X8_layBestOrder_103 rfl ?_
        refine r_imul d_X8_layBestOrder_104 ?_
        refine r_iload_n d_X8_layBestOrder_105 rfl ?_
        refine r_iadd d_X8_layBestOrder_106 ?_
        refine r_ialdJ (j := 6 * hw + j) d_X8_layBestOrder_107 (tt_183 _ _) (by omega) (by omega) (kk := ?_)
        rw [ej]
        refine r_iastJ d_X8_layBestOrder_108 (tt_180 _ _) (by omega) rfl (by omega) (kk := ?_)
        refine r_iinc d_X8_layBestOrder_109 rfl (by decide) ?_
        refine r_goto d_X8_layBestOrder_112 ?_
        refine CpL (ih (j + 1) (up2 I3 180 j (I2 183 (6 * hw + j))) (by omega) (fun a ha => by rw [up2_ne _ _ (by omega)]; exact f a ha) (fun x hx2 => ?_)) (by repeat (first | exact trivial | refine ⟨rfl, ?_⟩))
        by_cases e : x = j
        · rw [e, up2_at]
        · rw [up2_nj _ _ e]; exact hx x (by omega)
    refine r_iconst d_X8_layBestOrder_82 ?_
    refine r_istore_n d_X8_layBestOrder_83 (by decide) ?_
    exact CpL (copy nr 0 I2 (by omega) frb_rf (fun x hx => absurd hx (by omega))) (by repeat (first | exact trivial | refine ⟨rfl, ?_⟩))
  rcases hN hw hh with hk | ⟨hk, lf, hB, hL⟩
  · obtain ⟨C, hC⟩ := CCX_ex (how := (hw : Int)) (ab := ab) hV.1 v2 v3
    have back : ∀ (I2 : sI) (lf : List Nat), FM I I2 → KNM σ ℓ ab nr nW ng I2 → (∀ r, r < nr → I2 184 r = goneS σ way r) → BST σ ℓ ab nr nW ng (hw : Int) lf → LFX nr lf (fun j => I2 183 (6 * hw + j)) → ∀ (m j : Nat) (I3 : sI), j + m = nr → frb 174 175 I2 I3 → (∀ x, x < j → I3 174 x = goneS σ way x) → Cp g 8 m_X8_layBestOrder 0 0 Q 52 [(0, vr 139), (1, vi (hw : Int)), (2, vi (j : Int))] [] (TT Ls tl) I3 L (RR tl) := by
      intro I2 lf fm2 hN2 hg2 hB hL m
      induction m with
      | zero =>
        intro j I3 hj f hx
        have fm3 := FM_tr fm2 (FM_frb f (by omega) (by omega))
        have hX3 := MX_fm hX fm3
        have e0 : I3 139 0 = (nr : Int) := hX3.1
        refine r_iload_n d_X8_layBestOrder_52 rfl ?_
        refine r_aload_n d_X8_layBestOrder_53 rfl ?_
        refine r_geti d_X8_layBestOrder_54 f_X8_232 (tt_139 _ _) (by decide) (by decide) ?_
        refine r_icmp_ge d_X8_layBestOrder_57 (by omega) (by omega) (fun c57 => ?_) (fun c57 => absurd c57 (by omega))
        refine r_aload_n d_X8_layBestOrder_78 rfl ?_
        refine r_V0v d_X8_layBestOrder_79 (w_X8_321 _ rfl) (tt_139 _ _) rfl rfl (x_clear hV hX3 (MK_fm hK fm3) (way := way) (fun r hr => hx r (by omega))) (by decide) (Nat.le_of_ble_eq_true rfl) (fun T79 I79 L79 R79 h79 => ?_)
        obtain ⟨rfl, rfl, rfl, y1, y2⟩ := h79
        refine CpL (t82 I79 lf (FM_tr fm3 (FM_frb y1 (by omega) (by omega))) (KNM_fr hN2 (by rw [y1 173 (by omega), f 173 (by omega)]) (by rw [y1 183 (by omega), f 183 (by omega)])) (fun _ => y2) hB (by rw [y1 183 (by omega), f 183 (by omega)]; exact hL)) (by repeat (first | exact trivial | refine ⟨rfl, ?_⟩))
      | succ m ih =>
        intro j I3 hj f hx
        have fm3 := FM_tr fm2 (FM_frb f (by omega) (by omega))
        have e0 : I3 139 0 = (nr : Int) := (MX_fm hX fm3).1
        have ej : I3 184 j = goneS σ way j := by rw [f 184 (by omega)]; exact hg2 j (by omega)
        refine r_iload_n d_X8_layBestOrder_52 rfl ?_
        refine r_aload_n d_X8_layBestOrder_53 rfl ?_
        refine r_geti d_X8_layBestOrder_54 f_X8_232 (tt_139 _ _) (by decide) (by decide) ?_
        refine r_icmp_ge d_X8_layBestOrder_57 (by omega) (by omega) (fun c57 => absurd c57 (by omega)) (fun c57 => ?_)
        refine r_aload_n d_X8_layBestOrder_60 rfl ?_
        refine r_getr d_X8_layBestOrder_61 f_X8_118 (tt_139 _ _) (by decide) rfl (rr_139_54 _) ?_
        refine r_iload_n d_X8_layBestOrder_64 rfl ?_
        refine r_aload_n d_X8_layBestOrder_65 rfl ?_
        refine r_getr d_X8_layBestOrder_66 f_X8_151 (tt_139 _ _) (by decide) rfl (rr_139_71 _) ?_
        refine r_iload_n d_X8_layBestOrder_69 rfl ?_
        refine r_ialdJ d_X8_layBestOrder_70 (tt_184 _ _) rfl (by omega) (kk := ?_)
        rw [ej]
        refine r_iastJ d_X8_layBestOrder_71 (tt_174 _ _) (by omega) rfl (by omega) (kk := ?_)
        refine r_iinc d_X8_layBestOrder_72 rfl (by decide) ?_
        refine r_goto d_X8_layBestOrder_75 ?_
        refine CpL (ih (j + 1) (up2 I3 174 j (goneS σ way j)) (by omega) (fun a ha => by rw [up2_ne _ _ (by omega)]; exact f a ha) (fun x hx2 => ?_)) (by repeat (first | exact trivial | refine ⟨rfl, ?_⟩))
        by_cases e : x = j
        · rw [e, up2_at]
        · rw [up2_nj _ _ e]; exact hx x (by omega)
    have keep : ∀ (m j : Nat) (I3 : sI), j + m = nr → frb 184 185 I I3 → (∀ x, x < j → I3 184 x = goneS σ way x) → Cp g 8 m_X8_layBestOrder 0 0 Q 11 [(0, vr 139), (1, vi (hw : Int)), (2, vi (j : Int))] [] (TT Ls tl) I3 L (RR tl) := by
      intro m
      induction m with
      | zero =>
        intro j I3 hj f hx
        have fm3 : FM I I3 := FM_frb f (by omega) (by omega)
        have hX3 := MX_fm hX fm3
        have e0 : I3 139 0 = (nr : Int) := hX3.1
        refine r_iload_n d_X8_layBestOrder_11 rfl ?_
        refine r_aload_n d_X8_layBestOrder_12 rfl ?_
        refine r_geti d_X8_layBestOrder_13 f_X8_232 (tt_139 _ _) (by decide) (by decide) ?_
        refine r_icmp_ge d_X8_layBestOrder_16 (by omega) (by omega) (fun c16 => ?_) (fun c16 => absurd c16 (by omega))
        refine r_aload_n d_X8_layBestOrder_37 rfl ?_
        refine r_iload_n d_X8_layBestOrder_38 rfl ?_
        refine r_iconst d_X8_layBestOrder_39 ?_
        refine r_V2v d_X8_layBestOrder_40 (w_X8_387 _ rfl) (tt_139 _ _) rfl rfl (x_layOrders (bit := 0) hV hA hX3 (MK_fm hK fm3) hab hh hC h0 h6 (by omega)) (by decide) (Nat.le_of_ble_eq_true rfl) (fun T40 I40 L40 R40 h40 => ?_)
        obtain ⟨rfl, rfl, rfl, y1, y2, y3, y4, -, y5, y6, y7, y8⟩ := h40
        refine r_aload_n d_X8_layBestOrder_43 rfl ?_
        refine r_getr d_X8_layBestOrder_44 f_X8_115 (tt_139 _ _) (by decide) rfl (rr_139_53 _) ?_
        refine r_iload_n d_X8_layBestOrder_47 rfl ?_
        refine r_iconst d_X8_layBestOrder_48 ?_
        refine r_zastJ d_X8_layBestOrder_49 (tt_173 _ _) (by omega) rfl (by omega) (by omega) (kk := ?_)
        refine r_iconst d_X8_layBestOrder_50 ?_
        refine r_istore_n d_X8_layBestOrder_51 (by decide) ?_
        have hB := BST_of s3 hcan v4 hC (by omega) y8
        refine CpL (back (up2 I40 173 hw 1) _ (FM_tr (FM_tr fm3 y1) ⟨fun a h1 h2 => by rw [up2_ne _ _ (by omega)], fun x _ => by rw [up2_ne _ _ (by decide)]⟩) ?_ (fun r hr => by rw [up2_ne _ _ (by decide), y3]; exact hx r (by omega)) hB (by rw [up2_ne _ _ (by decide)]; exact y7) nr 0 (up2 I40 173 hw 1) (by omega) frb_rf (fun x hx => absurd hx (by omega))) (by repeat (first | exact trivial | refine ⟨rfl, ?_⟩))
        intro h2 hh2
        have e183 : up2 I40 173 hw 1 183 = I40 183 := up2_ne _ _ (by decide)
        rw [e183]
        by_cases e : h2 = hw
        · subst e
          exact Or.inr ⟨by rw [up2_at], _, hB, y7⟩
        · rw [up2_nj _ _ e, y2, f 173 (by omega)]
          rcases hN h2 hh2 with q | ⟨q, lf, q1, q2⟩
          · exact Or.inl q
          · refine Or.inr ⟨q, lf, q1, fun x hx3 => ?_⟩
            obtain ⟨y, z1, z2, z3⟩ := q2 x hx3
            exact ⟨y, z1, z2, by show I40 183 (6 * h2 + x) = _; rw [y4 _ (by omega), f 183 (by omega)]; exact z3⟩
      | succ m ih =>
        intro j I3 hj f hx
        have fm3 : FM I I3 := FM_frb f (by omega) (by omega)
        have e0 : I3 139 0 = (nr : Int) := (MX_fm hX fm3).1
        have ej : I3 174 j = goneS σ way j := by rw [f 174 (by omega)]; exact hg j (by omega)
        refine r_iload_n d_X8_layBestOrder_11 rfl ?_
        refine r_aload_n d_X8_layBestOrder_12 rfl ?_
        refine r_geti d_X8_layBestOrder_13 f_X8_232 (tt_139 _ _) (by decide) (by decide) ?_
        refine r_icmp_ge d_X8_layBestOrder_16 (by omega) (by omega) (fun c16 => absurd c16 (by omega)) (fun c16 => ?_)
        refine r_aload_n d_X8_layBestOrder_19 rfl ?_
        refine r_getr d_X8_layBestOrder_20 f_X8_151 (tt_139 _ _) (by decide) rfl (rr_139_71 _) ?_
        refine r_iload_n d_X8_layBestOrder_23 rfl ?_
        refine r_aload_n d_X8_layBestOrder_24 rfl ?_
        refine r_getr d_X8_layBestOrder_25 f_X8_118 (tt_139 _ _) (by decide) rfl (rr_139_54 _) ?_
        refine r_iload_n d_X8_layBestOrder_28 rfl ?_
        refine r_ialdJ d_X8_layBestOrder_29 (tt_174 _ _) rfl (by omega) (kk := ?_)
        rw [ej]
        refine r_iastJ d_X8_layBestOrder_30 (tt_184 _ _) (by omega) rfl (by omega) (kk := ?_)
        refine r_iinc d_X8_layBestOrder_31 rfl (by decide) ?_
        refine r_goto d_X8_layBestOrder_34 ?_
        refine CpL (ih (j + 1) (up2 I3 184 j (goneS σ way j)) (by omega) (fun a ha => by rw [up2_ne _ _ (by omega)]; exact f a ha) (fun x hx2 => ?_)) (by repeat (first | exact trivial | refine ⟨rfl, ?_⟩))
        by_cases e : x = j
        · rw [e, up2_at]
        · rw [up2_nj _ _ e]; exact hx x (by omega)
    refine r_aload_n d_X8_layBestOrder_0 rfl ?_
    refine r_getr d_X8_layBestOrder_1 f_X8_115 (tt_139 _ _) (by decide) rfl (rr_139_53 _) ?_
    refine r_iload_n d_X8_layBestOrder_4 rfl ?_
    refine r_zaldJ d_X8_layBestOrder_5 (tt_173 _ _) rfl (by omega) (kk := ?_)
    rw [hk]
    refine r_if_ne d_X8_layBestOrder_6 (by omega) (fun c6 => absurd c6 (by decide)) (fun c6 => ?_)
    refine r_iconst d_X8_layBestOrder_9 ?_
    refine r_istore_n d_X8_layBestOrder_10 (by decide) ?_
    exact CpL (keep nr 0 I (by omega) frb_rf (fun x hx => absurd hx (by omega))) (by repeat (first | exact trivial | refine ⟨rfl, ?_⟩))
  · skip
    refine r_aload_n d_X8_layBestOrder_0 rfl ?_
    refine r_getr d_X8_layBestOrder_1 f_X8_115 (tt_139 _ _) (by decide) rfl (rr_139_53 _) ?_
    refine r_iload_n d_X8_layBestOrder_4 rfl ?_
    refine r_zaldJ d_X8_layBestOrder_5 (tt_173 _ _) rfl (by omega) (kk := ?_)
    rw [hk]
    refine r_if_ne d_X8_layBestOrder_6 (by omega) (fun c6 => ?_) (fun c6 => absurd c6 (by decide))
    exact t82 I lf FM_rf hN (fun h => h) hB hL
theorem DM_DR {δ : Sg} {nr nW : Nat} {I : sI} (h : DM δ nr nW I) : DR δ nr I := h.1
theorem x_laySchedule (hM : MB σ ℓ ab nr nW ng tl ukd unn utr utw I) {q way : Nat} (hq : q < tl.length) (hw : way < 8) (h0 : 0 < nr) : Mc g 9 m_X8_laySchedule 0 0 [vr 139, vi (q : Int), vi (way : Int)] (TT Ls tl) I L (RR tl) (qV fun T' I' L' R' => T' = TT Ls tl ∧ R' = RR tl ∧ L' = L ∧ FM I I' ∧ KNM σ ℓ ab nr nW ng I' ∧ ∃ od, (∀ k, k < nr → od k < nr) ∧ ODS σ ℓ ab nr nW ng (ukd q) (unn q) od ∧ DR (planX σ ℓ ab (fun r => pmS σ r ng) nr nW (ukd q) od (utr q) (utw q) (tl.getD q 0) way) nr I') := by
  refine Mc_of rfl (Nat.le_of_ble_eq_true rfl) ?_
  obtain ⟨hV, hcan, hA, hab, hX, hK, hN, hR⟩ := id hM
  obtain ⟨⟨s1, s2, s3, s4, s5⟩, v2, v3, v4⟩ := id hV
  obtain ⟨r1, r2, r3⟩ := id hR
  obtain ⟨q1, q2, q3, q4, q5⟩ := r3 q hq
  obtain ⟨kd, hkd⟩ : ∃ kd, kd = ukd q := ⟨_, rfl⟩
  rw [← hkd] at q1 q3 q5 ⊢
  obtain ⟨Q, hQ⟩ : ∃ Q : sQ, Q = (qV fun T' I' L' R' => T' = TT Ls tl ∧ R' = RR tl ∧ L' = L ∧ FM I I' ∧ KNM σ ℓ ab nr nW ng I' ∧ ∃ od, (∀ k, k < nr → od k < nr) ∧ ODS σ ℓ ab nr nW ng kd (unn q) od ∧ DR (planX σ ℓ ab (fun r => pmS σ r ng) nr nW kd od (utr q) (utw q) (tl.getD q 0) way) nr I') := ⟨_, rfl⟩
  rw [← hQ]
  have h40 : ∀ w, w < nW → opS σ way 4 w ≤ 1000 := fun w hw2 => by
    have := s4 w hw2
    unfold WV at this
    show σ 8 w ≤ 1000
    omega
  -- behind clear
  have t9 : ∀ I2 : sI, frb 174 180 I I2 → DM (opS σ way) nr nW I2 → Cp g 9 m_X8_laySchedule 0 0 Q 9 [(0, vr 139), (1, vi (q : Int)), (2, vi (way : Int))] [] (TT Ls tl) I2 L (RR tl) := by
    intro I2 f hD
    have fm2 : FM I I2 := FM_frb f (by omega) (by omega)
    have hX2 := MX_fm hX fm2
    have hK2 := MK_fm hK fm2
    have hN2 : KNM σ ℓ ab nr nW ng I2 := KNM_fr hN (f 173 (by omega)) (f 183 (by omega))
    have k1 : I2 154 q = kd := by rw [f 154 (by omega)]; exact q1
    have e0 : I2 139 0 = (nr : Int) := hX2.1
    have natural : ¬ (kd = 5 ∧ nr ≤ 6) → (∀ I3 : sI, frb 175 181 I2 I3 → DR (planX σ ℓ ab (fun r => pmS σ r ng) nr nW kd (fun k => k) (utr q) (utw q) (tl.getD q 0) way) nr I3 → FM I I3 ∧ KNM σ ℓ ab nr nW ng I3 ∧ ∃ od, (∀ k, k < nr → od k < nr) ∧ ODS σ ℓ ab nr nW ng kd (unn q) od ∧ DR (planX σ ℓ ab (fun r => pmS σ r ng) nr nW kd od (utr q) (utw q) (tl.getD q 0) way) nr I3) := fun hn I3 f3 hd => ⟨FM_tr fm2 (FM_frb f3 (by omega) (by omega)), KNM_fr hN2 (f3 173 (by omega)) (f3 183 (by omega)), fun k => k, fun k hk => hk, Or.inl ⟨hn, rfl⟩, hd⟩
    by_cases c1 : kd = 1
    · skip
      refine r_aload_n d_X8_laySchedule_9 rfl ?_
      refine r_getr d_X8_laySchedule_10 f_X8_57 (tt_139 _ _) (by decide) rfl (rr_139_20 _) ?_
      refine r_iload_n d_X8_laySchedule_13 rfl ?_
      refine r_ialdJ d_X8_laySchedule_14 (tt_154 _ _) rfl (by omega) (kk := ?_)
      rw [k1]
      refine r_istore_n d_X8_laySchedule_15 (by decide) ?_
      refine r_iload_n d_X8_laySchedule_16 rfl ?_
      refine r_iconst d_X8_laySchedule_17 ?_
      refine r_icmp_ne d_X8_laySchedule_18 (by omega) (by omega) (fun c18 => absurd c18 (by exact fun q => q c1)) (fun c18 => ?_)
      refine r_aload_n d_X8_laySchedule_21 rfl ?_
      refine r_V0v d_X8_laySchedule_22 (w_X8_324 _ rfl) (tt_139 _ _) rfl rfl (x_layFloors hV hX2 hK2 hab (DV_op hV.1) hD) (by decide) (Nat.le_of_ble_eq_true rfl) (fun T22 I22 L22 R22 h22 => ?_)
      obtain ⟨rfl, rfl, rfl, y1, y2⟩ := h22
      refine r_goto d_X8_laySchedule_25 ?_
      refine r_vret d_X8_laySchedule_94 rfl ?_
      rw [hQ]
      refine ⟨rfl, rfl, rfl, rfl, natural (by omega) I22 (fun a ha => y1 a (by omega)) ?_⟩
      unfold planX
      rw [if_pos c1]
      exact DM_DR y2
    · by_cases c5 : kd = 5 ∧ nr ≤ 6
      · have hnn : I2 155 q = unn q := by rw [f 155 (by omega)]; exact q2
        obtain ⟨hw2, hw3⟩ : ∃ hw2 : Nat, unn q = (hw2 : Int) := ⟨(unn q).toNat, by omega⟩
        have hnn2 : I2 155 q = (hw2 : Int) := by rw [hnn, hw3]
        have t52 : ∀ (I49 : sI) (lf : List Nat), FM I2 I49 → KNM σ ℓ ab nr nW ng I49 → DM (opS σ way) nr nW I49 → BST σ ℓ ab nr nW ng (hw2 : Int) lf → LFX nr lf (I49 180) → Cp g 9 m_X8_laySchedule 0 0 Q 52 [(0, vr 139)] [] (TT Ls tl) I49 L (RR tl) := by
          intro I49 lf y1 y2 y3 y4 y5
          obtain ⟨od, hod0⟩ : ∃ od : Nat → Nat, od = fun k => lf.getD k 0 := ⟨_, rfl⟩
          have hod : ∀ k, k < nr → lf[k]? = some (od k) ∧ od k < nr ∧ I49 180 k = (od k : Int) := fun k hk => by
            obtain ⟨x, x1, x2, x3⟩ := y5 k hk
            have : od k = x := by rw [hod0]; show lf.getD k 0 = x; rw [List.getD_eq_getElem?_getD, x1]; rfl
            rw [this]; exact ⟨x1, x2, x3⟩
          refine r_aload_n d_X8_laySchedule_52 rfl ?_
          refine r_V0v d_X8_laySchedule_53 (w_X8_298 _ rfl) (tt_139 _ _) rfl rfl (x_layList hV (MX_fm hX2 y1) (MK_fm hK2 y1) hab (DV_op hV.1) y3 (fun k hk => (hod k hk).2)) (by decide) (Nat.le_of_ble_eq_true rfl) (fun T53 I53 L53 R53 h53 => ?_)
          obtain ⟨rfl, rfl, rfl, u1, u2⟩ := h53
          refine r_goto d_X8_laySchedule_56 ?_
          refine r_vret d_X8_laySchedule_94 rfl ?_
          rw [hQ]
          refine ⟨rfl, rfl, rfl, rfl, FM_tr fm2 (FM_tr y1 (FM_frb u1 (by omega) (by omega))), KNM_fr y2 (u1 173 (by omega)) (u1 183 (by omega)), od, fun k hk => (hod k hk).2.1, Or.inr ⟨c5, lf, by rw [hw3]; exact y4, fun j hj => (hod j hj).1⟩, ?_⟩
          unfold planX
          rw [if_neg c1, if_neg (by omega), if_neg (by omega)]
          exact DM_DR u2
        refine r_aload_n d_X8_laySchedule_9 rfl ?_
        refine r_getr d_X8_laySchedule_10 f_X8_57 (tt_139 _ _) (by decide) rfl (rr_139_20 _) ?_
        refine r_iload_n d_X8_laySchedule_13 rfl ?_
        refine r_ialdJ d_X8_laySchedule_14 (tt_154 _ _) rfl (by omega) (kk := ?_)
        rw [k1]
        refine r_istore_n d_X8_laySchedule_15 (by decide) ?_
        refine r_iload_n d_X8_laySchedule_16 rfl ?_
        refine r_iconst d_X8_laySchedule_17 ?_
        refine r_icmp_ne d_X8_laySchedule_18 (by omega) (by omega) (fun c18 => ?_) (fun c18 => absurd c18 (by exact c1))
        refine r_iload_n d_X8_laySchedule_28 rfl ?_
        refine r_iconst d_X8_laySchedule_29 ?_
        refine r_icmp_ne d_X8_laySchedule_30 (by omega) (by omega) (fun c30 => absurd c30 (by exact fun q => q c5.1)) (fun c30 => ?_)
        refine r_aload_n d_X8_laySchedule_33 rfl ?_
        refine r_geti d_X8_laySchedule_34 f_X8_232 (tt_139 _ _) (by decide) (by decide) ?_
        refine r_bipush d_X8_laySchedule_37 (by decide) ?_
        refine r_icmp_gt d_X8_laySchedule_39 (by omega) (by omega) (fun c39 => absurd c39 (by omega)) (fun c39 => ?_)
        refine r_aload_n d_X8_laySchedule_42 rfl ?_
        refine r_aload_n d_X8_laySchedule_43 rfl ?_
        refine r_getr d_X8_laySchedule_44 f_X8_60 (tt_139 _ _) (by decide) rfl (rr_139_21 _) ?_
        refine r_iload_n d_X8_laySchedule_47 rfl ?_
        refine r_ialdJ d_X8_laySchedule_48 (tt_155 _ _) rfl (by omega) (kk := ?_)
        rw [hnn2]
        refine r_V1v d_X8_laySchedule_49 (w_X8_327 _ rfl) (tt_139 _ _) rfl rfl (x_layBestOrder (MB_fm hM fm2 hN2) (way := way) (by omega) h0 c5.2 (fun r hr => (hD.1 r hr).1)) (by decide) (Nat.le_of_ble_eq_true rfl) (fun T49 I49 L49 R49 h49 => ?_)
        obtain ⟨rfl, rfl, rfl, y1, y2, y3, lf, y4, y5, y6⟩ := h49
        exact CpL (t52 I49 lf y1 y2 (y3 hD) y4 y5) (by repeat (first | exact trivial | refine ⟨rfl, ?_⟩))
      · by_cases c6 : kd = 6
        · obtain ⟨l, l1, l2, l3, l4, l5, l6⟩ := q5 c6
          refine r_aload_n d_X8_laySchedule_9 rfl ?_
          refine r_getr d_X8_laySchedule_10 f_X8_57 (tt_139 _ _) (by decide) rfl (rr_139_20 _) ?_
          refine r_iload_n d_X8_laySchedule_13 rfl ?_
          refine r_ialdJ d_X8_laySchedule_14 (tt_154 _ _) rfl (by omega) (kk := ?_)
          rw [k1]
          refine r_istore_n d_X8_laySchedule_15 (by decide) ?_
          refine r_iload_n d_X8_laySchedule_16 rfl ?_
          refine r_iconst d_X8_laySchedule_17 ?_
          refine r_icmp_ne d_X8_laySchedule_18 (by omega) (by omega) (fun c18 => ?_) (fun c18 => absurd c18 (by exact c1))
          refine r_iload_n d_X8_laySchedule_28 rfl ?_
          refine r_iconst d_X8_laySchedule_29 ?_
          refine r_icmp_ne d_X8_laySchedule_30 (by omega) (by omega) (fun c30 => ?_) (fun c30 => absurd c30 (by omega))
          refine r_iload_n d_X8_laySchedule_59 rfl ?_
          refine r_bipush d_X8_laySchedule_60 (by decide) ?_
          refine r_icmp_ne d_X8_laySchedule_62 (by omega) (by omega) (fun c62 => absurd c62 (by exact fun q => q c6)) (fun c62 => ?_)
          refine r_aload_n d_X8_laySchedule_65 rfl ?_
          refine r_iload_n d_X8_laySchedule_66 rfl ?_
          refine r_V1v d_X8_laySchedule_67 (w_X8_330 _ rfl) (tt_139 _ _) rfl rfl (x_layTold hV hX2 hK2 hab (DV_op hV.1) hD (by omega) l1 (by rw [f 156 (by omega)]; exact l2) l3 l4) (by decide) (Nat.le_of_ble_eq_true rfl) (fun T67 I67 L67 R67 h67 => ?_)
          obtain ⟨rfl, rfl, rfl, y1, y2⟩ := h67
          refine r_goto d_X8_laySchedule_70 ?_
          refine r_vret d_X8_laySchedule_94 rfl ?_
          rw [hQ]
          refine ⟨rfl, rfl, rfl, rfl, natural (by omega) I67 (fun a ha => y1 a (by omega)) ?_⟩
          unfold planX
          rw [if_neg c1, if_neg (by omega), if_pos c6, ← l5, tdX_L l6 _ (Nat.le_refl _), List.take_length]
          exact DM_DR y2
        · by_cases cn : kd = 0 ∨ kd = 5
          · have t82 : Cp g 9 m_X8_laySchedule 0 0 Q 82 [(0, vr 139), (1, vi (q : Int)), (2, vi (way : Int)), (3, vi kd)] [] (TT Ls tl) I2 L (RR tl) := by
              refine r_aload_n d_X8_laySchedule_82 rfl ?_
              refine r_V0v d_X8_laySchedule_83 (w_X8_333 _ rfl) (tt_139 _ _) rfl rfl (x_layNatural hV hX2 hK2 hab (DV_op hV.1) hD) (by decide) (Nat.le_of_ble_eq_true rfl) (fun T83 I83 L83 R83 h83 => ?_)
              obtain ⟨rfl, rfl, rfl, y1, y2⟩ := h83
              refine r_goto d_X8_laySchedule_86 ?_
              refine r_vret d_X8_laySchedule_94 rfl ?_
              rw [hQ]
              refine ⟨rfl, rfl, rfl, rfl, natural c5 I83 y1 ?_⟩
              unfold planX
              rw [if_neg c1, if_neg (by omega), if_neg c6]
              exact DM_DR y2
            refine r_aload_n d_X8_laySchedule_9 rfl ?_
            refine r_getr d_X8_laySchedule_10 f_X8_57 (tt_139 _ _) (by decide) rfl (rr_139_20 _) ?_
            refine r_iload_n d_X8_laySchedule_13 rfl ?_
            refine r_ialdJ d_X8_laySchedule_14 (tt_154 _ _) rfl (by omega) (kk := ?_)
            rw [k1]
            refine r_istore_n d_X8_laySchedule_15 (by decide) ?_
            refine r_iload_n d_X8_laySchedule_16 rfl ?_
            refine r_iconst d_X8_laySchedule_17 ?_
            refine r_icmp_ne d_X8_laySchedule_18 (by omega) (by omega) (fun c18 => ?_) (fun c18 => absurd c18 (by exact c1))
            refine r_iload_n d_X8_laySchedule_28 rfl ?_
            refine r_iconst d_X8_laySchedule_29 ?_
            refine r_icmp_ne d_X8_laySchedule_30 (by omega) (by omega) (fun c30 => ?_) (fun c30 => ?_)
            · refine r_iload_n d_X8_laySchedule_59 rfl ?_
              refine r_bipush d_X8_laySchedule_60 (by decide) ?_
              refine r_icmp_ne d_X8_laySchedule_62 (by omega) (by omega) (fun c62 => ?_) (fun c62 => absurd c62 (by exact c6))
              refine r_iload_n d_X8_laySchedule_73 rfl ?_
              refine r_if_eq d_X8_laySchedule_74 (by omega) (fun c74 => ?_) (fun c74 => ?_)
              · exact CpL t82 (by repeat (first | exact trivial | refine ⟨rfl, ?_⟩))
              · refine r_iload_n d_X8_laySchedule_77 rfl ?_
                refine r_iconst d_X8_laySchedule_78 ?_
                refine r_icmp_ne d_X8_laySchedule_79 (by omega) (by omega) (fun c79 => absurd c79 (by omega)) (fun c79 => ?_)
                exact CpL t82 (by repeat (first | exact trivial | refine ⟨rfl, ?_⟩))
            · refine r_aload_n d_X8_laySchedule_33 rfl ?_
              refine r_geti d_X8_laySchedule_34 f_X8_232 (tt_139 _ _) (by decide) (by decide) ?_
              refine r_bipush d_X8_laySchedule_37 (by decide) ?_
              refine r_icmp_gt d_X8_laySchedule_39 (by omega) (by omega) (fun c39 => ?_) (fun c39 => absurd c39 (by omega))
              refine r_iload_n d_X8_laySchedule_59 rfl ?_
              refine r_bipush d_X8_laySchedule_60 (by decide) ?_
              refine r_icmp_ne d_X8_laySchedule_62 (by omega) (by omega) (fun c62 => ?_) (fun c62 => absurd c62 (by exact c6))
              refine r_iload_n d_X8_laySchedule_73 rfl ?_
              refine r_if_eq d_X8_laySchedule_74 (by omega) (fun c74 => ?_) (fun c74 => ?_)
              · exact CpL t82 (by repeat (first | exact trivial | refine ⟨rfl, ?_⟩))
              · refine r_iload_n d_X8_laySchedule_77 rfl ?_
                refine r_iconst d_X8_laySchedule_78 ?_
                refine r_icmp_ne d_X8_laySchedule_79 (by omega) (by omega) (fun c79 => absurd c79 (by omega)) (fun c79 => ?_)
                exact CpL t82 (by repeat (first | exact trivial | refine ⟨rfl, ?_⟩))
          · skip
            refine r_aload_n d_X8_laySchedule_9 rfl ?_
            refine r_getr d_X8_laySchedule_10 f_X8_57 (tt_139 _ _) (by decide) rfl (rr_139_20 _) ?_
            refine r_iload_n d_X8_laySchedule_13 rfl ?_
            refine r_ialdJ d_X8_laySchedule_14 (tt_154 _ _) rfl (by omega) (kk := ?_)
            rw [k1]
            refine r_istore_n d_X8_laySchedule_15 (by decide) ?_
            refine r_iload_n d_X8_laySchedule_16 rfl ?_
            refine r_iconst d_X8_laySchedule_17 ?_
            refine r_icmp_ne d_X8_laySchedule_18 (by omega) (by omega) (fun c18 => ?_) (fun c18 => absurd c18 (by exact c1))
            refine r_iload_n d_X8_laySchedule_28 rfl ?_
            refine r_iconst d_X8_laySchedule_29 ?_
            refine r_icmp_ne d_X8_laySchedule_30 (by omega) (by omega) (fun c30 => ?_) (fun c30 => absurd c30 (by omega))
            refine r_iload_n d_X8_laySchedule_59 rfl ?_
            refine r_bipush d_X8_laySchedule_60 (by decide) ?_
            refine r_icmp_ne d_X8_laySchedule_62 (by omega) (by omega) (fun c62 => ?_) (fun c62 => absurd c62 (by exact c6))
            refine r_iload_n d_X8_laySchedule_73 rfl ?_
            refine r_if_eq d_X8_laySchedule_74 (by omega) (fun c74 => absurd c74 (by omega)) (fun c74 => ?_)
            refine r_iload_n d_X8_laySchedule_77 rfl ?_
            refine r_iconst d_X8_laySchedule_78 ?_
            refine r_icmp_ne d_X8_laySchedule_79 (by omega) (by omega) (fun c79 => ?_) (fun c79 => absurd c79 (by omega))
            refine r_aload_n d_X8_laySchedule_89 rfl ?_
            refine r_iload_n d_X8_laySchedule_90 rfl ?_
            refine r_V1v d_X8_laySchedule_91 (w_X8_336 _ rfl) (tt_139 _ _) rfl rfl (x_layFree hV hX2 hK2 hab (DV_op hV.1) hD h40 (by omega)) (by decide) (Nat.le_of_ble_eq_true rfl) (fun T91 I91 L91 R91 h91 => ?_)
            obtain ⟨rfl, rfl, rfl, y1, y2⟩ := h91
            refine r_vret d_X8_laySchedule_94 rfl ?_
            rw [hQ]
            refine ⟨rfl, rfl, rfl, rfl, natural (by omega) I91 (fun a ha => y1 a (by omega)) ?_⟩
            unfold planX
            rw [if_neg c1, if_pos (by omega)]
            exact y2
  refine r_aload_n d_X8_laySchedule_0 rfl ?_
  refine r_iload_n d_X8_laySchedule_1 rfl ?_
  refine r_V1v d_X8_laySchedule_2 (w_X8_275 _ rfl) (tt_139 _ _) rfl rfl (x_layGone hV hX hw) (by decide) (Nat.le_of_ble_eq_true rfl) (fun T2 I2 L2 R2 h2 => ?_)
  obtain ⟨rfl, rfl, rfl, y1, y2⟩ := h2
  refine r_aload_n d_X8_laySchedule_5 rfl ?_
  refine r_V0v d_X8_laySchedule_6 (w_X8_321 _ rfl) (tt_139 _ _) rfl rfl (x_clear hV (MX_frb hX y1 (by omega)) (MK_frb hK y1 (by omega)) y2) (by decide) (Nat.le_of_ble_eq_true rfl) (fun T6 I6 L6 R6 h6 => ?_)
  obtain ⟨rfl, rfl, rfl, u1, u2⟩ := h6
  exact t9 I6 (fun a ha => by rw [u1 a (by omega), y1 a (by omega)]) u2
end X92
