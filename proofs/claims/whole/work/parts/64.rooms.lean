theorem chn_congr {σ τ : Sg} : ∀ n, (∀ i, i < n → σ 4 i = τ 4 i) → chn σ n = chn τ n
  | 0, _ => rfl
  | n + 1, h => by
    unfold chn
    rw [chn_congr n (fun i hi => h i (by omega)), h n (by omega)]
/-- what reading a house may change -/
def FH (hb : Nat) (I I' : sI) : Prop := (∀ a, a ≠ 4 → (a < hb ∨ hb + 27 ≤ a) → I' a = I a) ∧ (∀ k, k ≠ 2 → k ≠ 3 → I' 4 k = I 4 k)
theorem FH_rf {hb : Nat} {I : sI} : FH hb I I := ⟨fun _ _ _ => rfl, fun _ _ _ => rfl⟩
theorem FH_tr {hb : Nat} {I I' I'' : sI} (h1 : FH hb I I') (h2 : FH hb I' I'') : FH hb I I'' := ⟨fun a ha hb => (h2.1 a ha hb).trans (h1.1 a ha hb), fun k a b => (h2.2 k a b).trans (h1.2 k a b)⟩
theorem FH_pg {hb : Nat} {I I' I'' : sI} (h1 : FH hb I I') (h2 : pgE I' I'') : FH hb I I'' := ⟨fun a ha hb => (h2.1 a ha).trans (h1.1 a ha hb), fun k a b => (h2.2 k a b).trans (h1.2 k a b)⟩
theorem FH_up {hb a j : Nat} {x : Int} {I I' : sI} (hh : hb = 8 ∨ hb = 35) (h : FH hb I I') (ha : hb ≤ a ∧ a < hb + 27) : FH hb I (up2 I' a j x) := ⟨fun b hb1 hb2 => by rw [up2_ne _ _ (by omega)]; exact h.1 b hb1 hb2, fun k h1 h2 => by rw [up2_ne _ _ (by omega)]; exact h.2 k h1 h2⟩
theorem PGX_up {pg : Nat → Int} {len p : Nat} {st : Bool} {I : sI} {a j : Nat} {x : Int} (h : PGX pg len st p I) (ha : 6 ≤ a) : PGX pg len st p (up2 I a j x) := PGX_i h (up2_ne _ _ (by omega)) (up2_ne _ _ (by omega))
theorem dh_st {pg : Nat → Int} {len p : Nat} : dhS pg len true p = -1 := by unfold dhS; rw [if_neg (by simp)]
theorem so_st {pg : Nat → Int} {len p : Nat} : soS pg len true p = -1 := by unfold soS; rw [if_neg (by simp)]
theorem tk_st {pg : Nat → Int} {len p : Nat} {c : Int} : tkS pg len true p c = false := by unfold tkS; simp
theorem nm_st {pg : Nat → Int} {len p : Nat} {lo hi : Int} : nmS pg len true p lo hi = (true, p, 0) := by unfold nmS; rw [if_pos (Or.inl dh_st)]
/-- only the column r of the rows K is told anew -/
def chA (K : Nat → Prop) (D D' : Sg) (r : Nat) : Prop := ∀ k i, k ≠ 20 → ¬ (K k ∧ i = r) → D' k i = D k i
theorem chA_rf {K : Nat → Prop} {D : Sg} {r : Nat} : chA K D D r := fun _ _ _ _ => rfl
theorem chA_sc {K : Nat → Prop} {D D' : Sg} {r i : Nat} {x : Int} (h : chA K D D' r) : chA K D (scA D' i x) r := fun k j hk hn => by rw [sc_ne hk]; exact h k j hk hn
theorem chA_up {K : Nat → Prop} {D D' : Sg} {r k0 : Nat} {x : Int} (h : chA K D D' r) (hk0 : K k0) : chA K D (up2 D' k0 r x) r := fun k j hk hn => by
  by_cases e : k = k0
  · by_cases e2 : j = r
    · exact absurd ⟨by rw [e]; exact hk0, e2⟩ hn
    · rw [up2_nj _ _ e2]; exact h k j hk hn
  · rw [up2_ne _ _ e]; exact h k j hk hn
theorem chA_bg {K : Nat → Prop} {D D' : Sg} {r : Nat} {lo hi : Int} (h : chA K D D' r) : chA K D (bgA D' lo hi) r := chA_sc (chA_sc (chA_sc h))
theorem up_col {D : Sg} {k k0 r : Nat} {x : Int} (h : k ≠ k0) : up2 D k0 r x k r = D k r := by rw [up2_ne _ _ h]
theorem up_20 {D : Sg} {k0 r i : Nat} {x : Int} (h : k0 ≠ 20) : up2 D k0 r x 20 i = D 20 i := by rw [up2_ne _ _ (by omega)]
theorem lc_of {D : Sg} {i r : Nat} (h : D 20 i = (r : Int) + 1) : lcA D i = r := by unfold lcA; rw [h]; omega
theorem bg_4 {D : Sg} {lo hi : Int} : bgA D lo hi 20 4 = -1 := by unfold bgA; rw [sc_nj (by decide), sc_nj (by decide), sc_at]
theorem bg_5 {D : Sg} {lo hi : Int} : bgA D lo hi 20 5 = lo := by unfold bgA; rw [sc_nj (by decide), sc_at]
theorem bg_6 {D : Sg} {lo hi : Int} : bgA D lo hi 20 6 = hi := by unfold bgA; rw [sc_at]
theorem bg_o {D : Sg} {lo hi : Int} {i : Nat} (h4 : i ≠ 4) (h5 : i ≠ 5) (h6 : i ≠ 6) : bgA D lo hi 20 i = D 20 i := by unfold bgA; rw [sc_nj h6, sc_nj h5, sc_nj h4]
theorem bg_k {D : Sg} {lo hi : Int} {k : Nat} (h : k ≠ 20) : bgA D lo hi k = D k := by unfold bgA; rw [sc_ne h, sc_ne h, sc_ne h]
/-- the rooms so far: what is told, and the class' rows -/
def RDX (D : Sg) (hb r : Nat) (I : sI) : Prop := (∀ i, i < r → (∀ k, k < 6 → I (hb + 2 + i) k = D k i) ∧ I (hb + 2 + i) 6 = -1 ∧ RV (lateS D (fun _ => -1)) i) ∧ (∀ i, i < r → D 4 i ≠ -1 → I (hb + 23) (chn D i) = (i : Int)) ∧ I hb 6 = (chn D r : Int) ∧ chn D r ≤ 3 ∧ D 20 3 = (chn D r : Int)
theorem RV_congr {D D' : Sg} {i : Nat} (h : ∀ k, k < 6 → D' k i = D k i) (hv : RV (lateS D (fun _ => -1)) i) : RV (lateS D' (fun _ => -1)) i := by
  unfold RV at hv ⊢
  rw [late_same (by omega), late_same (by omega), late_same (by omega), late_same (by omega), late_same (by omega), late_same (by omega)] at hv ⊢
  rw [h 0 (by omega), h 1 (by omega), h 2 (by omega), h 3 (by omega), h 4 (by omega), h 5 (by omega)]
  exact hv
theorem RDX_D {D D' : Sg} {hb r : Nat} {I : sI} (h : RDX D hb r I) (hD : ∀ k i, k < 6 → i < r → D' k i = D k i) (h3 : D' 20 3 = D 20 3) : RDX D' hb r I := by
  have ec : ∀ n, n ≤ r → chn D' n = chn D n := fun n hn => chn_congr n (fun i hi => hD 4 i (by omega) (by omega))
  obtain ⟨h1, h2, h4, h5, h6⟩ := h
  refine ⟨fun i hi => ⟨fun k hk => by rw [hD k i hk hi]; exact (h1 i hi).1 k hk, (h1 i hi).2.1, RV_congr (fun k hk => hD k i hk hi) (h1 i hi).2.2⟩, fun i hi h4' => ?_, by rw [ec r (Nat.le_refl _)]; exact h4, by rw [ec r (Nat.le_refl _)]; exact h5, by rw [ec r (Nat.le_refl _), h3]; exact h6⟩
  rw [ec i (by omega)]
  exact h2 i hi (by rw [← hD 4 i (by omega) hi]; exact h4')
theorem RDX_I {D : Sg} {hb r : Nat} {I I' : sI} (h : RDX D hb r I) (f1 : ∀ i, i < r → I' (hb + 2 + i) = I (hb + 2 + i)) (f2 : I' (hb + 23) = I (hb + 23)) (f3 : I' hb 6 = I hb 6) : RDX D hb r I' := by
  obtain ⟨h1, h2, h4, h5, h6⟩ := h
  exact ⟨fun i hi => by rw [f1 i hi]; exact h1 i hi, fun i hi h => by rw [f2]; exact h2 i hi h, by rw [f3]; exact h4, h5, h6⟩
/-- behind a room -/
def RBH (pg : Nat → Int) (len : Nat) (D0 D : Sg) (hb r p' : Nat) (D' : Sg) (I' : sI) : Prop := PGX pg len false p' I' ∧ runA pg D0 p' = some D' ∧ (D' 20 7 = 4 ∨ D' 20 7 = 7) ∧ D' 20 0 = (r : Int) + 1 ∧ D' 20 5 ≤ D' 20 4 ∧ (p' < len → ftA D' (pg p') = false) ∧ (D' 20 7 = 4 → D' 20 3 < 3 → p' < len → pg p' ≠ 47) ∧ RDX (cplA D') hb (r + 1) I' ∧ D' 20 1 = D 20 1 ∧ D' 20 2 = D 20 2
section C64
variable {g : sG} {Ls : Nat} {tl : List Nat} {I L : sI} {pg : Nat → Int} {len p hb r : Nat} {D0 D : Sg}
theorem c_readRoom (hh : hb = 8 ∨ hb = 35) (hP : PGX pg len false p I) (hA : runA pg D0 p = some D) (hs : D 20 7 = 0) (hr0 : D 20 0 = (r : Int)) (hr : r < 8) (hR : RDX D hb r I) : Mc g 3 m_X5_readRoom 0 0 [vr 4, vr hb, vi (r : Int)] (TT Ls tl) I L (RR tl) (qV fun T' I' L' R' => T' = TT Ls tl ∧ R' = RR tl ∧ L' = L ∧ FH hb I I' ∧ (∀ k, k ≠ 6 → I' hb k = I hb k) ∧ ((∃ p', PGX pg len true p' I' ∧ badA pg len D0 p') ∨ (∃ p' D', RBH pg len D0 D hb r p' D' I'))) := by
  refine Mc_of rfl (Nat.le_of_ble_eq_true rfl) ?_
  obtain ⟨Q, hQ⟩ : ∃ Q : sQ, Q = (qV fun T' I' L' R' => T' = TT Ls tl ∧ R' = RR tl ∧ L' = L ∧ FH hb I I' ∧ (∀ k, k ≠ 6 → I' hb k = I hb k) ∧ ((∃ p', PGX pg len true p' I' ∧ badA pg len D0 p') ∨ (∃ p' D', RBH pg len D0 D hb r p' D' I'))) := ⟨_, rfl⟩
  rw [← hQ]
  have hc3 : I hb 6 = (chn D r : Int) ∧ chn D r ≤ 3 ∧ D 20 3 = (chn D r : Int) := hR.2.2
  obtain ⟨LS, hLS⟩ : ∃ LS : List (Nat × sV), LS = [(0, vr 4), (1, vr hb), (2, vi (r : Int)), (3, vr (hb + 2 + r))] := ⟨_, rfl⟩
  -- reading has stopped
  have ts116 : ∀ (I1 : sI) (p1 : Nat), PGX pg len true p1 I1 → badA pg len D0 p1 → FH hb I I1 → (∀ k, k ≠ 6 → I1 hb k = I hb k) → (0 ≤ I1 (hb + 2 + r) 3 ∧ I1 (hb + 2 + r) 3 ≤ 40) → Cp g 3 m_X5_readRoom 0 0 Q 116 LS [] (TT Ls tl) I1 L (RR tl) := by
    intro I1 p1 hP1 hb1 f fk h3
    rw [hLS]
    refine r_aload_n d_X5_readRoom_116 rfl ?_
    refine r_iconst d_X5_readRoom_117 ?_
    refine r_aload_n d_X5_readRoom_118 rfl ?_
    refine r_aload_n d_X5_readRoom_119 rfl ?_
    refine r_iconst d_X5_readRoom_120 ?_
    refine r_ialdJ (j := 3) d_X5_readRoom_121 (th2_1 _ _ hh hr) rfl (by omega) (kk := ?_)
    refine r_iconst d_X5_readRoom_122 ?_
    refine r_iadd d_X5_readRoom_123 ?_
    refine r_bipush d_X5_readRoom_124 (by decide) ?_
    refine r_V2i d_X5_readRoom_126 (w_X5_84 _ rfl) (tt_4 _ _) rfl rfl (c_number hP1 (by omega) (by omega)) (by decide) (Nat.le_of_ble_eq_true rfl) (fun z126 T126 I126 L126 R126 h126 => ?_)
    obtain ⟨rfl, rfl, rfl, y1, y2, y3⟩ := h126
    rw [nm_st] at y3
    refine r_iastJ (j := 4) d_X5_readRoom_129 (th2_1 _ _ hh hr) (by omega) rfl (by omega) (kk := ?_)
    refine r_vret d_X5_readRoom_130 rfl ?_
    rw [hQ]
    refine ⟨rfl, rfl, rfl, rfl, FH_up hh (FH_pg f y1) (by omega), fun k hk => ?_, Or.inl ⟨p1, PGX_up y3 (by omega), hb1⟩⟩
    rw [up2_ne _ _ (by omega), y1.1 hb (by omega)]; exact fk k hk
  have ts110 : ∀ (I1 : sI) (p1 : Nat), PGX pg len true p1 I1 → badA pg len D0 p1 → FH hb I I1 → (∀ k, k ≠ 6 → I1 hb k = I hb k) → (0 ≤ I1 (hb + 2 + r) 3 ∧ I1 (hb + 2 + r) 3 ≤ 40) → Cp g 3 m_X5_readRoom 0 0 Q 110 LS [] (TT Ls tl) I1 L (RR tl) := by
    intro I1 p1 hP1 hb1 f fk h3
    rw [hLS]
    refine r_aload_n d_X5_readRoom_110 rfl ?_
    refine r_bipush d_X5_readRoom_111 (by decide) ?_
    refine r_V1v d_X5_readRoom_113 (w_X5_80 _ rfl) (tt_4 _ _) rfl rfl (c_needs hP1 (by omega)) (by decide) (Nat.le_of_ble_eq_true rfl) (fun T113 I113 L113 R113 h113 => ?_)
    obtain ⟨rfl, rfl, rfl, y1, y3⟩ := h113
    rw [tk_st, if_neg (by decide)] at y3
    rw [← hLS]
    exact ts116 I113 p1 y3 hb1 (FH_pg f y1) (fun k hk => by rw [y1.1 hb (by omega)]; exact fk k hk) (by rw [y1.1 _ (by omega)]; exact h3)
  have ts50 : ∀ (I1 : sI) (p1 : Nat), PGX pg len true p1 I1 → badA pg len D0 p1 → FH hb I I1 → I1 hb = I hb → Cp g 3 m_X5_readRoom 0 0 Q 50 LS [] (TT Ls tl) I1 L (RR tl) := by
    intro I1 p1 hP1 hb1 f fk
    rw [hLS]
    obtain ⟨J, hJ⟩ : ∃ J, J = up2 (up2 (up2 I1 (hb + 2 + r) 4 (-1)) (hb + 2 + r) 5 (-1)) (hb + 2 + r) 6 (-1) := ⟨_, rfl⟩
    have hJb : J hb = I hb := by rw [hJ, up2_ne _ _ (by omega), up2_ne _ _ (by omega), up2_ne _ _ (by omega)]; exact fk
    have hJ6 : J hb 6 = (chn D r : Int) := by rw [hJb]; exact hc3.1
    have hPJ : PGX pg len true p1 J := by rw [hJ]; exact PGX_up (PGX_up (PGX_up hP1 (by omega)) (by omega)) (by omega)
    have fJ : FH hb I J := by rw [hJ]; exact FH_up hh (FH_up hh (FH_up hh f (by omega)) (by omega)) (by omega)
    refine r_aload_n d_X5_readRoom_50 rfl ?_
    refine r_iconst d_X5_readRoom_51 ?_
    refine r_iconst d_X5_readRoom_52 ?_
    refine r_iastJ (j := 4) d_X5_readRoom_53 (th2_1 _ _ hh hr) (by omega) rfl (by omega) (kk := ?_)
    refine r_aload_n d_X5_readRoom_54 rfl ?_
    refine r_iconst d_X5_readRoom_55 ?_
    refine r_iconst d_X5_readRoom_56 ?_
    refine r_iastJ (j := 5) d_X5_readRoom_57 (th2_1 _ _ hh hr) (by omega) rfl (by omega) (kk := ?_)
    refine r_aload_n d_X5_readRoom_58 rfl ?_
    refine r_bipush d_X5_readRoom_59 (by decide) ?_
    refine r_iconst d_X5_readRoom_61 ?_
    refine r_iastJ (j := 6) d_X5_readRoom_62 (th2_1 _ _ hh hr) (by omega) rfl (by omega) (kk := ?_)
    rw [← hJ]
    refine r_aload_n d_X5_readRoom_63 rfl ?_
    refine r_geti d_X5_readRoom_64 f_X5_87 (th_0 _ _ hh) (by decide) (by decide) ?_
    refine r_iconst d_X5_readRoom_67 ?_
    refine r_icmp_ge d_X5_readRoom_68 (by omega) (by omega) (fun c68 => ?_) (fun c68 => ?_)
    · refine r_vret d_X5_readRoom_130 rfl ?_
      rw [hQ]
      first
      | exact ⟨rfl, rfl, rfl, rfl, fJ, fun k _ => by rw [hJb], Or.inl ⟨p1, hPJ, hb1⟩⟩
      | exact ⟨rfl, rfl, rfl, rfl, FH_pg fJ y1, fun k _ => by rw [y1.1 hb (by omega), hJb], Or.inl ⟨p1, y3, hb1⟩⟩
    · refine r_aload_n d_X5_readRoom_71 rfl ?_
      refine r_bipush d_X5_readRoom_72 (by decide) ?_
      refine r_V1i d_X5_readRoom_74 (w_X5_60 _ rfl) (tt_4 _ _) rfl rfl (c_takes hPJ (by omega)) (by decide) (Nat.le_of_ble_eq_true rfl) (fun z74 T74 I74 L74 R74 h74 => ?_)
      obtain ⟨rfl, rfl, rfl, rfl, y1, y3⟩ := h74
      rw [tk_st, if_neg (by decide)] at y3
      refine r_if_eq d_X5_readRoom_77 (by rw [tk_st, if_neg (by decide)]; omega) (fun c77 => ?_) (fun c77 => absurd c77 (by rw [tk_st, if_neg (by decide)]; decide))
      refine r_vret d_X5_readRoom_130 rfl ?_
      rw [hQ]
      first
      | exact ⟨rfl, rfl, rfl, rfl, fJ, fun k _ => by rw [hJb], Or.inl ⟨p1, hPJ, hb1⟩⟩
      | exact ⟨rfl, rfl, rfl, rfl, FH_pg fJ y1, fun k _ => by rw [y1.1 hb (by omega), hJb], Or.inl ⟨p1, y3, hb1⟩⟩
  have ts40 : ∀ (I1 : sI) (p1 : Nat), PGX pg len true p1 I1 → badA pg len D0 p1 → FH hb I I1 → I1 hb = I hb → Cp g 3 m_X5_readRoom 0 0 Q 40 LS [] (TT Ls tl) I1 L (RR tl) := by
    intro I1 p1 hP1 hb1 f fk
    rw [hLS]
    refine r_aload_n d_X5_readRoom_40 rfl ?_
    refine r_iconst d_X5_readRoom_41 ?_
    refine r_aload_n d_X5_readRoom_42 rfl ?_
    refine r_iconst d_X5_readRoom_43 ?_
    refine r_bipush d_X5_readRoom_44 (by decide) ?_
    refine r_V2i d_X5_readRoom_46 (w_X5_84 _ rfl) (tt_4 _ _) rfl rfl (c_number hP1 (by omega) (by omega)) (by decide) (Nat.le_of_ble_eq_true rfl) (fun z46 T46 I46 L46 R46 h46 => ?_)
    obtain ⟨rfl, rfl, rfl, y1, y2, y3⟩ := h46
    rw [nm_st] at y3
    refine r_iastJ (j := 3) d_X5_readRoom_49 (th2_1 _ _ hh hr) (by omega) rfl (by omega) (kk := ?_)
    rw [← hLS]
    exact ts50 _ p1 (PGX_up y3 (by omega)) hb1 (FH_up hh (FH_pg f y1) (by omega)) (by rw [up2_ne _ _ (by omega), y1.1 hb (by omega)]; exact fk)
  have ts34 : ∀ (I1 : sI) (p1 : Nat), PGX pg len true p1 I1 → badA pg len D0 p1 → FH hb I I1 → I1 hb = I hb → Cp g 3 m_X5_readRoom 0 0 Q 34 LS [] (TT Ls tl) I1 L (RR tl) := by
    intro I1 p1 hP1 hb1 f fk
    rw [hLS]
    refine r_aload_n d_X5_readRoom_34 rfl ?_
    refine r_bipush d_X5_readRoom_35 (by decide) ?_
    refine r_V1v d_X5_readRoom_37 (w_X5_80 _ rfl) (tt_4 _ _) rfl rfl (c_needs hP1 (by omega)) (by decide) (Nat.le_of_ble_eq_true rfl) (fun T37 I37 L37 R37 h37 => ?_)
    obtain ⟨rfl, rfl, rfl, y1, y3⟩ := h37
    rw [tk_st, if_neg (by decide)] at y3
    rw [← hLS]
    exact ts40 _ p1 y3 hb1 (FH_pg f y1) (by rw [y1.1 hb (by omega)]; exact fk)
  have ts24 : ∀ (I1 : sI) (p1 : Nat), PGX pg len true p1 I1 → badA pg len D0 p1 → FH hb I I1 → I1 hb = I hb → Cp g 3 m_X5_readRoom 0 0 Q 24 LS [] (TT Ls tl) I1 L (RR tl) := by
    intro I1 p1 hP1 hb1 f fk
    rw [hLS]
    refine r_aload_n d_X5_readRoom_24 rfl ?_
    refine r_iconst d_X5_readRoom_25 ?_
    refine r_aload_n d_X5_readRoom_26 rfl ?_
    refine r_iconst d_X5_readRoom_27 ?_
    refine r_bipush d_X5_readRoom_28 (by decide) ?_
    refine r_V2i d_X5_readRoom_30 (w_X5_72 _ rfl) (tt_4 _ _) rfl rfl (c_digit hP1 (by omega) (by omega)) (by decide) (Nat.le_of_ble_eq_true rfl) (fun z30 T30 I30 L30 R30 h30 => ?_)
    obtain ⟨rfl, rfl, rfl, y1, y2, y3⟩ := h30
    obtain ⟨-, y3⟩ := y3 (by rw [dh_st]; omega)
    refine r_iastJ (j := 2) d_X5_readRoom_33 (th2_1 _ _ hh hr) (by omega) rfl (by omega) (kk := ?_)
    rw [← hLS]
    exact ts34 _ p1 (PGX_up y3 (by omega)) hb1 (FH_up hh (FH_pg f y1) (by omega)) (by rw [up2_ne _ _ (by omega), y1.1 hb (by omega)]; exact fk)
  have ts17 : ∀ (I1 : sI) (p1 : Nat), PGX pg len true p1 I1 → badA pg len D0 p1 → FH hb I I1 → I1 hb = I hb → Cp g 3 m_X5_readRoom 0 0 Q 17 LS [] (TT Ls tl) I1 L (RR tl) := by
    intro I1 p1 hP1 hb1 f fk
    rw [hLS]
    refine r_aload_n d_X5_readRoom_17 rfl ?_
    refine r_iconst d_X5_readRoom_18 ?_
    refine r_aload_n d_X5_readRoom_19 rfl ?_
    refine r_V0i d_X5_readRoom_20 (w_X5_76 _ rfl) (tt_4 _ _) rfl rfl (c_sort hP1) (by decide) (Nat.le_of_ble_eq_true rfl) (fun z20 T20 I20 L20 R20 h20 => ?_)
    obtain ⟨rfl, rfl, rfl, y1, y2, y3⟩ := h20
    obtain ⟨-, y3⟩ := y3 (by rw [so_st]; omega)
    refine r_iastJ (j := 1) d_X5_readRoom_23 (th2_1 _ _ hh hr) (by omega) rfl (by omega) (kk := ?_)
    rw [← hLS]
    exact ts24 _ p1 (PGX_up y3 (by omega)) hb1 (FH_up hh (FH_pg f y1) (by omega)) (by rw [up2_ne _ _ (by omega), y1.1 hb (by omega)]; exact fk)
  -- it goes on
  have col : ∀ {D1 : Sg} {i : Nat}, chA (· < 6) D D1 r → i < r → ∀ k, k < 6 → D1 k i = D k i := fun h hi k hk => h k _ (by omega) (fun q => by omega)
  have t116 : ∀ (I1 : sI) (p1 : Nat) (D1 : Sg), PGX pg len false p1 I1 → runA pg D0 p1 = some D1 → FH hb I I1 → (∀ k, k ≠ 6 → I1 hb k = I hb k) → chA (· < 6) D D1 r → D1 20 7 = 7 → D1 20 0 = (r : Int) + 1 → D1 20 3 = (chn D r : Int) + 1 → chn D r < 3 → D1 20 4 = -1 → D1 20 5 = D1 3 r + 1 → D1 20 6 = 41 → D1 20 1 = D 20 1 → D1 20 2 = D 20 2 → (∀ i, i < r → I1 (hb + 2 + i) = I (hb + 2 + i)) → (∀ i, i < chn D r → I1 (hb + 23) i = I (hb + 23) i) → I1 (hb + 23) (chn D r) = (r : Int) → I1 hb 6 = (chn D r : Int) + 1 → (∀ k, k < 6 → k ≠ 4 → I1 (hb + 2 + r) k = D1 k r) → I1 (hb + 2 + r) 6 = -1 → (1 ≤ D1 0 r ∧ D1 0 r ≤ 6) → (0 ≤ D1 1 r ∧ D1 1 r ≤ 3) → (1 ≤ D1 2 r ∧ D1 2 r ≤ 9) → (0 ≤ D1 3 r ∧ D1 3 r ≤ 40) → (1 ≤ D1 5 r ∧ D1 5 r ≤ 9) → Cp g 3 m_X5_readRoom 0 0 Q 116 LS [] (TT Ls tl) I1 L (RR tl) := by
    intro I1 p1 D1 hP1 hA1 f fk hch a7 a0 a3 hlt a4 a5 a6 a1 a2 fr f23 f23b f6 hrow h6 d0 d1 d2 d3 d5
    rw [hLS]
    have e3 : I1 (hb + 2 + r) 3 = D1 3 r := hrow 3 (by omega) (by omega)
    have hnum := num_run (pg := pg) (len := len) (lo := D1 3 r + 1) (hi := 41) hA1 hP1.2.2.2.1 (Or.inr (Or.inl a7)) a4 a5 a6 (by omega)
    refine r_aload_n d_X5_readRoom_116 rfl ?_
    refine r_iconst d_X5_readRoom_117 ?_
    refine r_aload_n d_X5_readRoom_118 rfl ?_
    refine r_aload_n d_X5_readRoom_119 rfl ?_
    refine r_iconst d_X5_readRoom_120 ?_
    refine r_ialdJ (j := 3) d_X5_readRoom_121 (th2_1 _ _ hh hr) rfl (by omega) (kk := ?_)
    refine r_iconst d_X5_readRoom_122 ?_
    rw [e3]
    refine r_iadd d_X5_readRoom_123 ?_
    refine r_bipush d_X5_readRoom_124 (by decide) ?_
    refine r_V2i d_X5_readRoom_126 (w_X5_84 _ rfl) (tt_4 _ _) rfl rfl (c_number (lo := D1 3 r + 1) (hi := 41) hP1 (by omega) (by omega)) (by decide) (Nat.le_of_ble_eq_true rfl) (fun z126 T126 I126 L126 R126 h126 => ?_)
    obtain ⟨rfl, rfl, rfl, y1, y2, y3⟩ := h126
    refine r_iastJ (j := 4) d_X5_readRoom_129 (th2_1 _ _ hh hr) (by omega) rfl (by omega) (kk := ?_)
    refine r_vret d_X5_readRoom_130 rfl ?_
    rw [hQ]
    have fk2 : ∀ (x : Int) (k : Nat), k ≠ 6 → up2 I126 (hb + 2 + r) 4 x hb k = I hb k := fun x k hk => by rw [up2_ne _ _ (by omega), y1.1 hb (by omega)]; exact fk k hk
    refine ⟨rfl, rfl, rfl, rfl, FH_up hh (FH_pg f y1) (by omega), fk2 _, ?_⟩
    obtain ⟨N, hN⟩ : ∃ N, N = nmS pg len false p1 (D1 3 r + 1) 41 := ⟨_, rfl⟩
    rw [← hN] at hnum y2 y3
    cases hst : N.1 with
    | true =>
      rw [hst] at y3
      exact Or.inl ⟨_, PGX_up y3 (by omega), hnum.1 hst⟩
    | false =>
      obtain ⟨n1, n2, n3, n4⟩ := hnum.2 hst
      rw [hst] at y3
      refine Or.inr ⟨_, _, PGX_up y3 (by omega), n2, Or.inr (by rw [sc_nj (by decide)]; exact a7), by rw [sc_nj (by decide)]; exact a0, by rw [sc_nj (by decide), sc_at, a5]; exact n3.1, n4, fun h => ?_, ?_, by rw [sc_nj (by decide)]; exact a1, by rw [sc_nj (by decide)]; exact a2⟩
      · rw [sc_nj (by decide), a7] at h; omega
      · have ec : cplA (scA D1 4 N.2.2) = up2 (scA D1 4 N.2.2) 4 r N.2.2 := by
          unfold cplA
          rw [if_neg (by rw [sc_nj (by decide), a7]; omega), lc_of (r := r) (by rw [sc_nj (by decide)]; exact a0), sc_at]
        rw [ec]
        obtain ⟨E, hE⟩ : ∃ E, E = up2 (scA D1 4 N.2.2) 4 r N.2.2 := ⟨_, rfl⟩
        rw [← hE]
        have Ei : ∀ i, i < r → ∀ k, k < 6 → E k i = D k i := fun i hi k hk => by
          rw [hE, up2_nj _ _ (by omega), sc_ne (by omega)]; exact col hch hi k hk
        have E4 : E 4 r = N.2.2 := by rw [hE, up2_at]
        have Ek : ∀ k, k < 6 → k ≠ 4 → E k r = D1 k r := fun k hk h4 => by rw [hE, up2_ne _ _ h4, sc_ne (by omega)]
        have c1 : ∀ n, n ≤ r → chn E n = chn D n := fun n hn => chn_congr n (fun i hi => Ei i (by omega) 4 (by omega))
        have c2 : chn E (r + 1) = chn D r + 1 := by
          show chn E r + (if E 4 r = -1 then 0 else 1) = _
          rw [c1 r (Nat.le_refl _), E4, if_neg (by omega)]
        have oth : ∀ (a : Nat), a ≠ 4 → a ≠ hb + 2 + r → up2 I126 (hb + 2 + r) 4 N.2.2 a = I1 a := fun a h4 h5 => by rw [up2_ne _ _ h5]; exact y1.1 a h4
        rw [y2]
        refine ⟨fun i hi => ?_, fun i hi h4 => ?_, ?_, by rw [c2]; omega, ?_⟩
        · by_cases e : i = r
          · subst e
            refine ⟨fun k hk => ?_, ?_, ?_⟩
            · by_cases e4 : k = 4
              · rw [e4, up2_at, E4]
              · rw [up2_nj _ _ e4, y1.1 _ (by omega), Ek k hk e4]; exact hrow k hk e4
            · rw [up2_nj _ _ (by omega), y1.1 _ (by omega)]; exact h6
            · unfold RV
              rw [late_same (by omega), late_same (by omega), late_same (by omega), late_same (by omega), late_same (by omega), late_same (by omega), E4, Ek 0 (by omega) (by omega), Ek 1 (by omega) (by omega), Ek 2 (by omega) (by omega), Ek 3 (by omega) (by omega), Ek 5 (by omega) (by omega)]
              exact ⟨d0, d1, d2, d3, Or.inr ⟨by omega, n3.2, d5⟩, by show (-1 : Int) ≤ -1 ∧ (-1 : Int) ≤ 44; omega⟩
          · rw [oth (hb + 2 + i) (by omega) (by omega), fr i (by omega)]
            obtain ⟨w1, w2, w3⟩ := hR.1 i (by omega)
            exact ⟨fun k hk => by rw [Ei i (by omega) k hk]; exact w1 k hk, w2, RV_congr (fun k hk => Ei i (by omega) k hk) w3⟩
        · rw [oth (hb + 23) (by omega) (by omega)]
          by_cases e : i = r
          · rw [e, c1 r (Nat.le_refl _)]; exact f23b
          · rw [Ei i (by omega) 4 (by omega)] at h4
            have := chn_lt D (show i < r by omega) h4
            rw [c1 i (by omega), f23 _ this]
            exact hR.2.1 i (by omega) h4
        · rw [oth hb (by omega) (by omega), c2]; exact f6
        · rw [c2, hE, up_20 (by omega), sc_nj (by decide)]; exact a3
  have t110 : ∀ (I1 : sI) (p1 : Nat) (D1 : Sg), PGX pg len false p1 I1 → runA pg D0 p1 = some D1 → FH hb I I1 → (∀ k, k ≠ 6 → I1 hb k = I hb k) → chA (· < 6) D D1 r → D1 20 7 = 6 → D1 20 0 = (r : Int) + 1 → D1 20 3 = (chn D r : Int) + 1 → chn D r < 3 → D1 20 1 = D 20 1 → D1 20 2 = D 20 2 → (∀ i, i < r → I1 (hb + 2 + i) = I (hb + 2 + i)) → (∀ i, i < chn D r → I1 (hb + 23) i = I (hb + 23) i) → I1 (hb + 23) (chn D r) = (r : Int) → I1 hb 6 = (chn D r : Int) + 1 → (∀ k, k < 6 → k ≠ 4 → I1 (hb + 2 + r) k = D1 k r) → I1 (hb + 2 + r) 6 = -1 → (1 ≤ D1 0 r ∧ D1 0 r ≤ 6) → (0 ≤ D1 1 r ∧ D1 1 r ≤ 3) → (1 ≤ D1 2 r ∧ D1 2 r ≤ 9) → (0 ≤ D1 3 r ∧ D1 3 r ≤ 40) → (1 ≤ D1 5 r ∧ D1 5 r ≤ 9) → Cp g 3 m_X5_readRoom 0 0 Q 110 LS [] (TT Ls tl) I1 L (RR tl) := by
    intro I1 p1 D1 hP1 hA1 f fk hch a7 a0 a3 hlt a1 a2 fr f23 f23b f6 hrow h6 d0 d1 d2 d3 d5
    rw [hLS]
    have hm : ∀ c, mstA D1 c = if c = 103 then some (scA (bgA D1 (D1 3 r + 1) 41) 7 7) else none := fun c => by
      rw [mst_pln (by unfold NSA; omega)]
      unfold plnA
      rw [if_neg (by omega), if_neg (by omega), if_neg (by omega), if_neg (by omega), if_neg (by omega), if_pos a7, lc_of a0]
    refine r_aload_n d_X5_readRoom_110 rfl ?_
    refine r_bipush d_X5_readRoom_111 (by decide) ?_
    refine r_V1v d_X5_readRoom_113 (w_X5_80 _ rfl) (tt_4 _ _) rfl rfl (c_needs hP1 (by omega)) (by decide) (Nat.le_of_ble_eq_true rfl) (fun T113 I113 L113 R113 h113 => ?_)
    obtain ⟨rfl, rfl, rfl, y1, y3⟩ := h113
    rw [← hLS]
    cases ht : tkS pg len false p1 103 with
    | true =>
      rw [ht, if_pos rfl] at y3
      obtain ⟨-, t1, t2⟩ := decide_eq_true_iff.mp ht
      have o : ∀ a, a ≠ 4 → I113 a = I1 a := y1.1
      refine t116 I113 (p1 + 1) _ y3 (run_suc hA1 (by rw [hm, if_pos t2])) (FH_pg f y1) (fun k hk => by rw [o hb (by omega)]; exact fk k hk) (chA_sc (chA_bg hch)) sc_at (by rw [sc_nj (by decide), bg_o (by decide) (by decide) (by decide)]; exact a0) (by rw [sc_nj (by decide), bg_o (by decide) (by decide) (by decide)]; exact a3) hlt (by rw [sc_nj (by decide), bg_4]) (by rw [sc_nj (by decide), bg_5, sc_ne (by decide), bg_k (by decide)]) (by rw [sc_nj (by decide), bg_6]) (by rw [sc_nj (by decide), bg_o (by decide) (by decide) (by decide)]; exact a1) (by rw [sc_nj (by decide), bg_o (by decide) (by decide) (by decide)]; exact a2) (fun i hi => by rw [o _ (by omega)]; exact fr i hi) (fun i hi => by rw [o _ (by omega)]; exact f23 i hi) (by rw [o _ (by omega)]; exact f23b) (by rw [o _ (by omega)]; exact f6) (fun k hk h4 => by rw [o _ (by omega), sc_ne (by omega), bg_k (by omega)]; exact hrow k hk h4) (by rw [o _ (by omega)]; exact h6) ?_ ?_ ?_ ?_ ?_
      · rw [sc_ne (by decide), bg_k (by decide)]; exact d0
      · rw [sc_ne (by decide), bg_k (by decide)]; exact d1
      · rw [sc_ne (by decide), bg_k (by decide)]; exact d2
      · rw [sc_ne (by decide), bg_k (by decide)]; exact d3
      · rw [sc_ne (by decide), bg_k (by decide)]; exact d5
    | false =>
      rw [ht, if_neg (by decide)] at y3
      have e3 : I1 (hb + 2 + r) 3 = D1 3 r := hrow 3 (by omega) (by omega)
      refine ts116 I113 p1 y3 (bad_of hA1 hP1.2.2.2.1 (by omega) (fun hl => ?_)) (FH_pg f y1) (fun k hk => by rw [y1.1 hb (by omega)]; exact fk k hk) (by rw [y1.1 _ (by omega), e3]; exact d3)
      rw [hm, if_neg (fun q => by have := of_decide_eq_false ht; exact this ⟨rfl, hl, q⟩)]
  have hc0 : chn D r ≤ 3 := hc3.2.1
  have t50 : ∀ (I1 : sI) (p1 : Nat) (D1 : Sg), PGX pg len false p1 I1 → runA pg D0 p1 = some D1 → FH hb I I1 → (∀ a, a ≠ 4 → a ≠ hb + 2 + r → I1 a = I a) → chA (· < 6) D D1 r → D1 20 7 = 4 → D1 20 0 = (r : Int) + 1 → D1 20 3 = D 20 3 → D1 20 1 = D 20 1 → D1 20 2 = D 20 2 → D1 20 5 = 0 → (0 ≤ D1 20 4 ∧ D1 20 4 ≤ 40) → (p1 < len → ftA D1 (pg p1) = false) → (∀ k, k < 3 → I1 (hb + 2 + r) k = D1 k r) → I1 (hb + 2 + r) 3 = D1 20 4 → D1 4 r = -1 → D1 5 r = -1 → (1 ≤ D1 0 r ∧ D1 0 r ≤ 6) → (0 ≤ D1 1 r ∧ D1 1 r ≤ 3) → (1 ≤ D1 2 r ∧ D1 2 r ≤ 9) → Cp g 3 m_X5_readRoom 0 0 Q 50 LS [] (TT Ls tl) I1 L (RR tl) := by
    intro I1 p1 D1 hP1 hA1 f o hch a7 a0 a3 a1 a2 a5 a4 hnf hrow h3 d4 d5 d0 d1 d2
    rw [hLS]
    have ecp : cplA D1 = up2 D1 3 r (D1 20 4) := by unfold cplA; rw [if_pos a7, lc_of a0]
    obtain ⟨E, hE⟩ : ∃ E, E = up2 D1 3 r (D1 20 4) := ⟨_, rfl⟩
    rw [← hE] at ecp
    have Ei : ∀ i, i < r → ∀ k, k < 6 → E k i = D k i := fun i hi k hk => by rw [hE, up2_nj _ _ (by omega)]; exact col hch hi k hk
    have E3 : E 3 r = D1 20 4 := by rw [hE, up2_at]
    have Ek : ∀ k, k ≠ 3 → E k r = D1 k r := fun k h => by rw [hE, up2_ne _ _ h]
    have E20 : ∀ i, E 20 i = D1 20 i := fun i => by rw [hE, up_20 (by omega)]
    have c1 : ∀ n, n ≤ r → chn E n = chn D n := fun n hn => chn_congr n (fun i hi => Ei i (by omega) 4 (by omega))
    obtain ⟨J, hJ⟩ : ∃ J, J = up2 (up2 (up2 I1 (hb + 2 + r) 4 (-1)) (hb + 2 + r) 5 (-1)) (hb + 2 + r) 6 (-1) := ⟨_, rfl⟩
    have oJ : ∀ a, a ≠ 4 → a ≠ hb + 2 + r → J a = I a := fun a h4 h5 => by rw [hJ, up2_ne _ _ h5, up2_ne _ _ h5, up2_ne _ _ h5]; exact o a h4 h5
    have hJ6 : J hb 6 = (chn D r : Int) := by rw [oJ hb (by omega) (by omega)]; exact hc3.1
    have hPJ : PGX pg len false p1 J := by rw [hJ]; exact PGX_up (PGX_up (PGX_up hP1 (by omega)) (by omega)) (by omega)
    have fJ : FH hb I J := by rw [hJ]; exact FH_up hh (FH_up hh (FH_up hh f (by omega)) (by omega)) (by omega)
    have jk : ∀ k, k < 6 → J (hb + 2 + r) k = E k r := fun k hk => by
      rw [hJ, up2_nj _ _ (by omega)]
      by_cases e5 : k = 5
      · rw [e5, up2_at, Ek 5 (by omega), d5]
      · rw [up2_nj _ _ e5]
        by_cases e4 : k = 4
        · rw [e4, up2_at, Ek 4 (by omega), d4]
        · rw [up2_nj _ _ e4]
          by_cases e3 : k = 3
          · rw [e3, h3, E3]
          · rw [hrow k (by omega), Ek k e3]
    have j6 : J (hb + 2 + r) 6 = -1 := by rw [hJ, up2_at]
    have fin : ∀ I2 : sI, pgE J I2 → PGX pg len false p1 I2 → (chn D r < 3 → p1 < len → pg p1 ≠ 47) → Q none (TT Ls tl) I2 L (RR tl) := by
      intro I2 y1 y3 h47
      rw [hQ]
      refine ⟨rfl, rfl, rfl, rfl, FH_pg fJ y1, fun k _ => by rw [y1.1 hb (by omega), oJ hb (by omega) (by omega)], Or.inr ⟨p1, D1, y3, hA1, Or.inl a7, a0, by omega, hnf, fun _ h => h47 (by rw [a3, hc3.2.2] at h; omega), ?_, a1, a2⟩⟩
      rw [ecp]
      have c2 : chn E (r + 1) = chn D r := by
        show chn E r + (if E 4 r = -1 then 0 else 1) = _
        rw [c1 r (Nat.le_refl _), Ek 4 (by omega), if_pos d4]; omega
      refine ⟨fun i hi => ?_, fun i hi h4 => ?_, ?_, by rw [c2]; exact hc0, ?_⟩
      · by_cases e : i = r
        · subst e
          refine ⟨fun k hk => by rw [y1.1 _ (by omega)]; exact jk k hk, by rw [y1.1 _ (by omega)]; exact j6, ?_⟩
          unfold RV
          rw [late_same (by omega), late_same (by omega), late_same (by omega), late_same (by omega), late_same (by omega), late_same (by omega), E3, Ek 0 (by omega), Ek 1 (by omega), Ek 2 (by omega), Ek 4 (by omega), Ek 5 (by omega)]
          exact ⟨d0, d1, d2, a4, Or.inl ⟨d4, d5⟩, by show (-1 : Int) ≤ -1 ∧ (-1 : Int) ≤ 44; omega⟩
        · rw [y1.1 _ (by omega), oJ _ (by omega) (by omega)]
          obtain ⟨w1, w2, w3⟩ := hR.1 i (by omega)
          exact ⟨fun k hk => by rw [Ei i (by omega) k hk]; exact w1 k hk, w2, RV_congr (fun k hk => Ei i (by omega) k hk) w3⟩
      · by_cases e : i = r
        · rw [e, Ek 4 (by omega)] at h4; exact absurd d4 h4
        · rw [Ei i (by omega) 4 (by omega)] at h4
          rw [c1 i (by omega), y1.1 _ (by omega), oJ _ (by omega) (by omega)]
          exact hR.2.1 i (by omega) h4
      · rw [c2, y1.1 _ (by omega)]; exact hJ6
      · rw [c2, E20, a3]; exact hc3.2.2
    by_cases k3 : chn D r < 3
    · have htk := c_takes (g := g) (Ls := Ls) (tl := tl) (L := L) hPJ (c := 47) (by omega)
      cases ht : tkS pg len false p1 47 with
      | true =>
        rw [ht, if_pos rfl, if_pos rfl] at htk
        obtain ⟨-, t1, t2⟩ := decide_eq_true_iff.mp ht
        have hA2 : runA pg D0 (p1 + 1) = some (scA (scA E 3 (D1 20 3 + 1)) 7 5) := by
          refine run_suc hA1 ?_
          rw [mst_end (Or.inl a7) (hnf t1) (by omega)]
          unfold endA
          rw [if_pos (Or.inl a7), if_pos ⟨a7, t2, by rw [a3, hc3.2.2]; omega⟩, ecp]
        obtain ⟨F, hF⟩ : ∃ F, F = scA (scA E 3 (D1 20 3 + 1)) 7 5 := ⟨_, rfl⟩
        rw [← hF] at hA2
        have Fk : ∀ k, k ≠ 20 → F k = E k := fun k hk => by rw [hF, sc_ne hk, sc_ne hk]
        have F7 : F 20 7 = 5 := by rw [hF, sc_at]
        have F3 : F 20 3 = (chn D r : Int) + 1 := by rw [hF, sc_nj (by decide), sc_at, a3, hc3.2.2]
        have Fo : ∀ i, i ≠ 3 → i ≠ 7 → F 20 i = D1 20 i := fun i h3 h7 => by rw [hF, sc_nj h7, sc_nj h3, E20]
        have hm : ∀ c, mstA F c = if 49 ≤ c ∧ c ≤ 57 then some (scA (up2 F 5 r (c - 48)) 7 6) else none := fun c => by
          rw [mst_pln (by unfold NSA; omega)]
          unfold plnA
          rw [if_neg (by omega), if_neg (by omega), if_neg (by omega), if_neg (by omega), if_pos F7, lc_of (r := r) (by rw [Fo 0 (by decide) (by decide)]; exact a0)]
        have hdd := dh_rg (pg := pg) (len := len) (p := p1 + 1) (st := false)
        refine r_aload_n d_X5_readRoom_50 rfl ?_
        refine r_iconst d_X5_readRoom_51 ?_
        refine r_iconst d_X5_readRoom_52 ?_
        refine r_iastJ (j := 4) d_X5_readRoom_53 (th2_1 _ _ hh hr) (by omega) rfl (by omega) (kk := ?_)
        refine r_aload_n d_X5_readRoom_54 rfl ?_
        refine r_iconst d_X5_readRoom_55 ?_
        refine r_iconst d_X5_readRoom_56 ?_
        refine r_iastJ (j := 5) d_X5_readRoom_57 (th2_1 _ _ hh hr) (by omega) rfl (by omega) (kk := ?_)
        refine r_aload_n d_X5_readRoom_58 rfl ?_
        refine r_bipush d_X5_readRoom_59 (by decide) ?_
        refine r_iconst d_X5_readRoom_61 ?_
        refine r_iastJ (j := 6) d_X5_readRoom_62 (th2_1 _ _ hh hr) (by omega) rfl (by omega) (kk := ?_)
        rw [← hJ]
        refine r_aload_n d_X5_readRoom_63 rfl ?_
        refine r_geti d_X5_readRoom_64 f_X5_87 (th_0 _ _ hh) (by decide) (by decide) ?_
        rw [hJ6]
        refine r_iconst d_X5_readRoom_67 ?_
        refine r_icmp_ge d_X5_readRoom_68 (by omega) (by omega) (fun c68 => absurd c68 (by omega)) (fun c68 => ?_)
        refine r_aload_n d_X5_readRoom_71 rfl ?_
        refine r_bipush d_X5_readRoom_72 (by decide) ?_
        refine r_V1i d_X5_readRoom_74 (w_X5_60 _ rfl) (tt_4 _ _) rfl rfl (htk) (by decide) (Nat.le_of_ble_eq_true rfl) (fun z74 T74 I74 L74 R74 h74 => ?_)
        obtain ⟨rfl, rfl, rfl, rfl, y1, y3⟩ := h74
        have o2 : ∀ a, a ≠ 4 → a ≠ hb + 2 + r → I74 a = I a := fun a h4 h5 => by rw [y1.1 a h4]; exact oJ a h4 h5
        have h26 : I74 hb 6 = (chn D r : Int) := by rw [y1.1 hb (by omega)]; exact hJ6
        have h26b : up2 I74 (hb + 23) (chn D r) (r : Int) hb 6 = (chn D r : Int) := by rw [up2_ne _ _ (by omega)]; exact h26
        obtain ⟨K, hK⟩ : ∃ K, K = up2 (up2 I74 (hb + 23) (chn D r) (r : Int)) hb 6 ((chn D r : Int) + 1) := ⟨_, rfl⟩
        have hPK : PGX pg len false (p1 + 1) K := by rw [hK]; exact PGX_up (PGX_up y3 (by omega)) (by omega)
        have fK : FH hb I K := by rw [hK]; exact FH_up hh (FH_up hh (FH_pg fJ y1) (by omega)) (by omega)
        have oK : ∀ a, a ≠ 4 → a ≠ hb → a ≠ hb + 23 → K a = J a := fun a h1 h2 h3 => by rw [hK, up2_ne _ _ h2, up2_ne _ _ h3]; exact y1.1 a h1
        refine r_if_eq d_X5_readRoom_77 (by omega) (fun c77 => absurd c77 (by decide)) (fun c77 => ?_)
        refine r_aload_n d_X5_readRoom_80 rfl ?_
        refine r_getr d_X5_readRoom_81 f_X5_90 (th_0 _ _ hh) (by decide) rfl (rh_7 _ hh) ?_
        refine r_aload_n d_X5_readRoom_84 rfl ?_
        refine r_geti d_X5_readRoom_85 f_X5_87 (th_0 _ _ hh) (by decide) (by decide) ?_
        rw [h26]
        refine r_iload_n d_X5_readRoom_88 rfl ?_
        refine r_iastJ (j := chn D r) d_X5_readRoom_89 (th_23 _ _ hh) (by omega) (by omega) (by omega) (kk := ?_)
        refine r_aload_n d_X5_readRoom_90 rfl ?_
        refine r_dup d_X5_readRoom_91 rfl ?_
        refine r_geti d_X5_readRoom_92 f_X5_87 (th_0 _ _ hh) (by decide) (by decide) ?_
        rw [h26b]
        refine r_iconst d_X5_readRoom_95 ?_
        refine r_iadd d_X5_readRoom_96 ?_
        refine r_puti d_X5_readRoom_97 f_X5_87 (th_0 _ _ hh) (by decide) (Or.inl rfl) ?_
        rw [← hK]
        refine r_aload_n d_X5_readRoom_100 rfl ?_
        refine r_iconst d_X5_readRoom_101 ?_
        refine r_aload_n d_X5_readRoom_102 rfl ?_
        refine r_iconst d_X5_readRoom_103 ?_
        refine r_bipush d_X5_readRoom_104 (by decide) ?_
        refine r_V2i d_X5_readRoom_106 (w_X5_72 _ rfl) (tt_4 _ _) rfl rfl (c_digit hPK (by omega) (by omega)) (by decide) (Nat.le_of_ble_eq_true rfl) (fun z106 T106 I106 L106 R106 h106 => ?_)
        obtain ⟨rfl, rfl, rfl, w1, w2, w3⟩ := h106
        refine r_iastJ (j := 5) d_X5_readRoom_109 (th2_1 _ _ hh hr) (by omega) rfl (by omega) (kk := ?_)
        rw [← hLS]
        have oL : ∀ (x : Int) (a : Nat), a ≠ 4 → a ≠ hb + 2 + r → up2 I106 (hb + 2 + r) 5 x a = K a := fun x a h4 h5 => by rw [up2_ne _ _ h5]; exact w1.1 a h4
        have fkL : ∀ (x : Int) (k : Nat), k ≠ 6 → up2 I106 (hb + 2 + r) 5 x hb k = I hb k := fun x k hk => by
          rw [oL x hb (by omega) (by omega), hK, up2_nj _ _ hk, up2_ne _ _ (by omega), y1.1 hb (by omega), oJ hb (by omega) (by omega)]
        have fL : ∀ x : Int, FH hb I (up2 I106 (hb + 2 + r) 5 x) := fun x => FH_up hh (FH_pg fK w1) (by omega)
        have hJK : K (hb + 2 + r) = J (hb + 2 + r) := oK _ (by omega) (by omega) (by omega)
        by_cases kd : 1 ≤ dhS pg len false (p1 + 1) ∧ dhS pg len false (p1 + 1) ≤ 9
        · obtain ⟨x1, x2⟩ := w2 kd
          obtain ⟨-, x3, x4⟩ := dh_ok (pg := pg) (len := len) (p := p1 + 1) (st := false) (by omega)
          obtain ⟨u, hu⟩ : ∃ u, u = dhS pg len false (p1 + 1) := ⟨_, rfl⟩
          rw [← hu] at x1 x4 kd
          have eu : pg (p1 + 1) - 48 = u := by omega
          rw [x1]
          have G : ∀ k, k ≠ 20 → k ≠ 5 → scA (up2 F 5 r u) 7 6 k r = E k r := fun k h1 h2 => by rw [sc_ne h1, up2_ne _ _ h2, Fk k h1]
          have G5 : scA (up2 F 5 r u) 7 6 5 r = u := by rw [sc_ne (by decide), up2_at]
          have Go : ∀ i, i ≠ 7 → scA (up2 F 5 r u) 7 6 20 i = F 20 i := fun i h => by rw [sc_nj h, up_20 (by decide)]
          refine t110 _ (p1 + 2) (scA (up2 F 5 r u) 7 6) (PGX_up x2 (by omega)) (run_suc hA2 (by rw [hm, if_pos (by omega), eu])) (fL u) (fkL u) ?_ sc_at (by rw [Go 0 (by decide), Fo 0 (by decide) (by decide)]; exact a0) (by rw [Go 3 (by decide)]; exact F3) k3 (by rw [Go 1 (by decide), Fo 1 (by decide) (by decide)]; exact a1) (by rw [Go 2 (by decide), Fo 2 (by decide) (by decide)]; exact a2) (fun i hi => ?_) (fun i hi => ?_) ?_ ?_ (fun k hk h4 => ?_) ?_ ?_ ?_ ?_ ?_ ?_
          · refine chA_sc (chA_up ?_ (by decide))
            intro k i hk hn
            rw [Fk k hk, hE]
            exact chA_up hch (show 3 < 6 by decide) k i hk hn
          · rw [oL u _ (by omega) (by omega), oK _ (by omega) (by omega) (by omega), oJ _ (by omega) (by omega)]
          · rw [oL u _ (by omega) (by omega), hK, up2_ne _ _ (by omega), up2_nj _ _ (by omega), o2 _ (by omega) (by omega)]
          · rw [oL u _ (by omega) (by omega), hK, up2_ne _ _ (by omega), up2_at]
          · rw [oL u _ (by omega) (by omega), hK, up2_at]
          · by_cases e5 : k = 5
            · rw [e5, up2_at, G5]
            · rw [up2_nj _ _ e5, w1.1 _ (by omega), hJK, G k (by omega) e5]; exact jk k hk
          · rw [up2_nj _ _ (by decide), w1.1 _ (by omega), hJK]; exact j6
          · rw [G 0 (by decide) (by decide), Ek 0 (by decide)]; exact d0
          · rw [G 1 (by decide) (by decide), Ek 1 (by decide)]; exact d1
          · rw [G 2 (by decide) (by decide), Ek 2 (by decide)]; exact d2
          · rw [G 3 (by decide) (by decide), E3]; exact a4
          · rw [G5]; exact kd
        · obtain ⟨x1, x2⟩ := w3 kd
          rw [x1]
          refine ts110 _ (p1 + 1) (PGX_up x2 (by omega)) (bad_of hA2 hPK.2.2.2.1 (by omega) (fun hl => ?_)) (fL 0) (fkL 0) ?_
          · rw [hm, if_neg]
            intro q
            refine kd ?_
            unfold dhS
            rw [if_pos ⟨rfl, hl, by omega⟩]
            omega
          · rw [up2_nj _ _ (by decide), w1.1 _ (by omega), hJK, jk 3 (by omega), E3]; exact a4
      | false =>
        rw [ht, if_neg (by decide), if_neg (by decide)] at htk
        refine r_aload_n d_X5_readRoom_50 rfl ?_
        refine r_iconst d_X5_readRoom_51 ?_
        refine r_iconst d_X5_readRoom_52 ?_
        refine r_iastJ (j := 4) d_X5_readRoom_53 (th2_1 _ _ hh hr) (by omega) rfl (by omega) (kk := ?_)
        refine r_aload_n d_X5_readRoom_54 rfl ?_
        refine r_iconst d_X5_readRoom_55 ?_
        refine r_iconst d_X5_readRoom_56 ?_
        refine r_iastJ (j := 5) d_X5_readRoom_57 (th2_1 _ _ hh hr) (by omega) rfl (by omega) (kk := ?_)
        refine r_aload_n d_X5_readRoom_58 rfl ?_
        refine r_bipush d_X5_readRoom_59 (by decide) ?_
        refine r_iconst d_X5_readRoom_61 ?_
        refine r_iastJ (j := 6) d_X5_readRoom_62 (th2_1 _ _ hh hr) (by omega) rfl (by omega) (kk := ?_)
        rw [← hJ]
        refine r_aload_n d_X5_readRoom_63 rfl ?_
        refine r_geti d_X5_readRoom_64 f_X5_87 (th_0 _ _ hh) (by decide) (by decide) ?_
        rw [hJ6]
        refine r_iconst d_X5_readRoom_67 ?_
        refine r_icmp_ge d_X5_readRoom_68 (by omega) (by omega) (fun c68 => absurd c68 (by omega)) (fun c68 => ?_)
        refine r_aload_n d_X5_readRoom_71 rfl ?_
        refine r_bipush d_X5_readRoom_72 (by decide) ?_
        refine r_V1i d_X5_readRoom_74 (w_X5_60 _ rfl) (tt_4 _ _) rfl rfl (htk) (by decide) (Nat.le_of_ble_eq_true rfl) (fun z74 T74 I74 L74 R74 h74 => ?_)
        obtain ⟨rfl, rfl, rfl, rfl, y1, y3⟩ := h74
        refine r_if_eq d_X5_readRoom_77 (by omega) (fun c77 => ?_) (fun c77 => absurd c77 (by decide))
        refine r_vret d_X5_readRoom_130 rfl ?_
        exact fin I74 y1 y3 (fun _ hl q => of_decide_eq_false ht ⟨rfl, hl, q⟩)
    · skip
      refine r_aload_n d_X5_readRoom_50 rfl ?_
      refine r_iconst d_X5_readRoom_51 ?_
      refine r_iconst d_X5_readRoom_52 ?_
      refine r_iastJ (j := 4) d_X5_readRoom_53 (th2_1 _ _ hh hr) (by omega) rfl (by omega) (kk := ?_)
      refine r_aload_n d_X5_readRoom_54 rfl ?_
      refine r_iconst d_X5_readRoom_55 ?_
      refine r_iconst d_X5_readRoom_56 ?_
      refine r_iastJ (j := 5) d_X5_readRoom_57 (th2_1 _ _ hh hr) (by omega) rfl (by omega) (kk := ?_)
      refine r_aload_n d_X5_readRoom_58 rfl ?_
      refine r_bipush d_X5_readRoom_59 (by decide) ?_
      refine r_iconst d_X5_readRoom_61 ?_
      refine r_iastJ (j := 6) d_X5_readRoom_62 (th2_1 _ _ hh hr) (by omega) rfl (by omega) (kk := ?_)
      rw [← hJ]
      refine r_aload_n d_X5_readRoom_63 rfl ?_
      refine r_geti d_X5_readRoom_64 f_X5_87 (th_0 _ _ hh) (by decide) (by decide) ?_
      rw [hJ6]
      refine r_iconst d_X5_readRoom_67 ?_
      refine r_icmp_ge d_X5_readRoom_68 (by omega) (by omega) (fun c68 => ?_) (fun c68 => absurd c68 (by omega))
      refine r_vret d_X5_readRoom_130 rfl ?_
      exact fin J pgE_rf hPJ (fun h => absurd h k3)
  have t40 : ∀ (I1 : sI) (p1 : Nat) (D1 : Sg), PGX pg len false p1 I1 → runA pg D0 p1 = some D1 → FH hb I I1 → (∀ a, a ≠ 4 → a ≠ hb + 2 + r → I1 a = I a) → chA (· < 6) D D1 r → D1 20 7 = 4 → D1 20 0 = (r : Int) + 1 → D1 20 3 = D 20 3 → D1 20 1 = D 20 1 → D1 20 2 = D 20 2 → D1 20 4 = -1 → D1 20 5 = 0 → D1 20 6 = 40 → (∀ k, k < 3 → I1 (hb + 2 + r) k = D1 k r) → D1 4 r = -1 → D1 5 r = -1 → (1 ≤ D1 0 r ∧ D1 0 r ≤ 6) → (0 ≤ D1 1 r ∧ D1 1 r ≤ 3) → (1 ≤ D1 2 r ∧ D1 2 r ≤ 9) → Cp g 3 m_X5_readRoom 0 0 Q 40 LS [] (TT Ls tl) I1 L (RR tl) := by
    intro I1 p1 D1 hP1 hA1 f o hch a7 a0 a3 a1 a2 a4 a5 a6 hrow d4 d5 d0 d1 d2
    rw [hLS]
    have hnum := num_run (pg := pg) (len := len) (lo := 0) (hi := 40) hA1 hP1.2.2.2.1 (Or.inl a7) a4 a5 a6 (by omega)
    refine r_aload_n d_X5_readRoom_40 rfl ?_
    refine r_iconst d_X5_readRoom_41 ?_
    refine r_aload_n d_X5_readRoom_42 rfl ?_
    refine r_iconst d_X5_readRoom_43 ?_
    refine r_bipush d_X5_readRoom_44 (by decide) ?_
    refine r_V2i d_X5_readRoom_46 (w_X5_84 _ rfl) (tt_4 _ _) rfl rfl (c_number (lo := 0) (hi := 40) hP1 (by omega) (by omega)) (by decide) (Nat.le_of_ble_eq_true rfl) (fun z46 T46 I46 L46 R46 h46 => ?_)
    obtain ⟨rfl, rfl, rfl, y1, y2, y3⟩ := h46
    refine r_iastJ (j := 3) d_X5_readRoom_49 (th2_1 _ _ hh hr) (by omega) rfl (by omega) (kk := ?_)
    rw [← hLS]
    obtain ⟨N, hN⟩ : ∃ N, N = nmS pg len false p1 0 40 := ⟨_, rfl⟩
    rw [← hN] at hnum y2 y3
    have oL : ∀ (a : Nat), a ≠ 4 → a ≠ hb + 2 + r → up2 I46 (hb + 2 + r) 3 z46 a = I a := fun a h4 h5 => by rw [up2_ne _ _ h5, y1.1 a h4]; exact o a h4 h5
    cases hst : N.1 with
    | true =>
      rw [hst] at y3
      exact ts50 _ _ (PGX_up y3 (by omega)) (hnum.1 hst) (FH_up hh (FH_pg f y1) (by omega)) (oL hb (by omega) (by omega))
    | false =>
      obtain ⟨n1, n2, n3, n4⟩ := hnum.2 hst
      rw [hst] at y3
      refine t50 _ _ _ (PGX_up y3 (by omega)) n2 (FH_up hh (FH_pg f y1) (by omega)) oL (chA_sc hch) (by rw [sc_nj (by decide)]; exact a7) (by rw [sc_nj (by decide)]; exact a0) (by rw [sc_nj (by decide)]; exact a3) (by rw [sc_nj (by decide)]; exact a1) (by rw [sc_nj (by decide)]; exact a2) (by rw [sc_nj (by decide)]; exact a5) (by rw [sc_at]; exact n3) n4 (fun k hk => ?_) (by rw [up2_at, sc_at]; exact y2) ?_ ?_ ?_ ?_ ?_
      · rw [up2_nj _ _ (by omega), y1.1 _ (by omega), sc_ne (by omega)]; exact hrow k hk
      · rw [sc_ne (by decide)]; exact d4
      · rw [sc_ne (by decide)]; exact d5
      · rw [sc_ne (by decide)]; exact d0
      · rw [sc_ne (by decide)]; exact d1
      · rw [sc_ne (by decide)]; exact d2
  have t34 : ∀ (I1 : sI) (p1 : Nat) (D1 : Sg), PGX pg len false p1 I1 → runA pg D0 p1 = some D1 → FH hb I I1 → (∀ a, a ≠ 4 → a ≠ hb + 2 + r → I1 a = I a) → chA (· < 6) D D1 r → D1 20 7 = 3 → D1 20 0 = (r : Int) + 1 → D1 20 3 = D 20 3 → D1 20 1 = D 20 1 → D1 20 2 = D 20 2 → (∀ k, k < 3 → I1 (hb + 2 + r) k = D1 k r) → D1 4 r = -1 → D1 5 r = -1 → (1 ≤ D1 0 r ∧ D1 0 r ≤ 6) → (0 ≤ D1 1 r ∧ D1 1 r ≤ 3) → (1 ≤ D1 2 r ∧ D1 2 r ≤ 9) → Cp g 3 m_X5_readRoom 0 0 Q 34 LS [] (TT Ls tl) I1 L (RR tl) := by
    intro I1 p1 D1 hP1 hA1 f o hch a7 a0 a3 a1 a2 hrow d4 d5 d0 d1 d2
    rw [hLS]
    have hm : ∀ c, mstA D1 c = if c = 103 then some (scA (bgA D1 0 40) 7 4) else none := fun c => by
      rw [mst_pln (by unfold NSA; omega)]
      unfold plnA
      rw [if_neg (by omega), if_neg (by omega), if_neg (by omega), if_pos a7]
    refine r_aload_n d_X5_readRoom_34 rfl ?_
    refine r_bipush d_X5_readRoom_35 (by decide) ?_
    refine r_V1v d_X5_readRoom_37 (w_X5_80 _ rfl) (tt_4 _ _) rfl rfl (c_needs hP1 (by omega)) (by decide) (Nat.le_of_ble_eq_true rfl) (fun T37 I37 L37 R37 h37 => ?_)
    obtain ⟨rfl, rfl, rfl, y1, y3⟩ := h37
    rw [← hLS]
    cases ht : tkS pg len false p1 103 with
    | true =>
      rw [ht, if_pos rfl] at y3
      obtain ⟨-, t1, t2⟩ := decide_eq_true_iff.mp ht
      refine t40 I37 (p1 + 1) _ y3 (run_suc hA1 (by rw [hm, if_pos t2])) (FH_pg f y1) (fun a h4 h5 => by rw [y1.1 a h4]; exact o a h4 h5) (chA_sc (chA_bg hch)) sc_at (by rw [sc_nj (by decide), bg_o (by decide) (by decide) (by decide)]; exact a0) (by rw [sc_nj (by decide), bg_o (by decide) (by decide) (by decide)]; exact a3) (by rw [sc_nj (by decide), bg_o (by decide) (by decide) (by decide)]; exact a1) (by rw [sc_nj (by decide), bg_o (by decide) (by decide) (by decide)]; exact a2) (by rw [sc_nj (by decide), bg_4]) (by rw [sc_nj (by decide), bg_5]) (by rw [sc_nj (by decide), bg_6]) (fun k hk => by rw [y1.1 _ (by omega), sc_ne (by omega), bg_k (by omega)]; exact hrow k hk) ?_ ?_ ?_ ?_ ?_
      · rw [sc_ne (by decide), bg_k (by decide)]; exact d4
      · rw [sc_ne (by decide), bg_k (by decide)]; exact d5
      · rw [sc_ne (by decide), bg_k (by decide)]; exact d0
      · rw [sc_ne (by decide), bg_k (by decide)]; exact d1
      · rw [sc_ne (by decide), bg_k (by decide)]; exact d2
    | false =>
      rw [ht, if_neg (by decide)] at y3
      refine ts40 I37 p1 y3 (bad_of hA1 hP1.2.2.2.1 (by omega) (fun hl => ?_)) (FH_pg f y1) (by rw [y1.1 hb (by omega)]; exact o hb (by omega) (by omega))
      rw [hm, if_neg (fun q => of_decide_eq_false ht ⟨rfl, hl, q⟩)]
  have t24 : ∀ (I1 : sI) (p1 : Nat) (D1 : Sg), PGX pg len false p1 I1 → runA pg D0 p1 = some D1 → FH hb I I1 → (∀ a, a ≠ 4 → a ≠ hb + 2 + r → I1 a = I a) → chA (· < 6) D D1 r → D1 20 7 = 2 → D1 20 0 = (r : Int) + 1 → D1 20 3 = D 20 3 → D1 20 1 = D 20 1 → D1 20 2 = D 20 2 → (∀ k, k < 2 → I1 (hb + 2 + r) k = D1 k r) → D1 4 r = -1 → D1 5 r = -1 → (1 ≤ D1 0 r ∧ D1 0 r ≤ 6) → (0 ≤ D1 1 r ∧ D1 1 r ≤ 3) → Cp g 3 m_X5_readRoom 0 0 Q 24 LS [] (TT Ls tl) I1 L (RR tl) := by
    intro I1 p1 D1 hP1 hA1 f o hch a7 a0 a3 a1 a2 hrow d4 d5 d0 d1
    rw [hLS]
    have hm : ∀ c, mstA D1 c = if 49 ≤ c ∧ c ≤ 57 then some (scA (up2 D1 2 r (c - 48)) 7 3) else none := fun c => by
      rw [mst_pln (by unfold NSA; omega)]
      unfold plnA
      rw [if_neg (by omega), if_neg (by omega), if_pos a7, lc_of a0]
    have hdd := dh_rg (pg := pg) (len := len) (p := p1) (st := false)
    refine r_aload_n d_X5_readRoom_24 rfl ?_
    refine r_iconst d_X5_readRoom_25 ?_
    refine r_aload_n d_X5_readRoom_26 rfl ?_
    refine r_iconst d_X5_readRoom_27 ?_
    refine r_bipush d_X5_readRoom_28 (by decide) ?_
    refine r_V2i d_X5_readRoom_30 (w_X5_72 _ rfl) (tt_4 _ _) rfl rfl (c_digit hP1 (by omega) (by omega)) (by decide) (Nat.le_of_ble_eq_true rfl) (fun z30 T30 I30 L30 R30 h30 => ?_)
    obtain ⟨rfl, rfl, rfl, w1, w2, w3⟩ := h30
    refine r_iastJ (j := 2) d_X5_readRoom_33 (th2_1 _ _ hh hr) (by omega) rfl (by omega) (kk := ?_)
    rw [← hLS]
    have oL : ∀ (x : Int) (a : Nat), a ≠ 4 → a ≠ hb + 2 + r → up2 I30 (hb + 2 + r) 2 x a = I a := fun x a h4 h5 => by rw [up2_ne _ _ h5, w1.1 a h4]; exact o a h4 h5
    by_cases kd : 1 ≤ dhS pg len false p1 ∧ dhS pg len false p1 ≤ 9
    · obtain ⟨x1, x2⟩ := w2 kd
      obtain ⟨-, x3, x4⟩ := dh_ok (pg := pg) (len := len) (p := p1) (st := false) (by omega)
      obtain ⟨u, hu⟩ : ∃ u, u = dhS pg len false p1 := ⟨_, rfl⟩
      rw [← hu] at x1 x4 kd
      have eu : pg p1 - 48 = u := by omega
      rw [x1]
      have Go : ∀ i, i ≠ 7 → scA (up2 D1 2 r u) 7 3 20 i = D1 20 i := fun i h => by rw [sc_nj h, up_20 (by decide)]
      have G : ∀ k, k ≠ 20 → k ≠ 2 → scA (up2 D1 2 r u) 7 3 k r = D1 k r := fun k h1 h2 => by rw [sc_ne h1, up2_ne _ _ h2]
      have G2 : scA (up2 D1 2 r u) 7 3 2 r = u := by rw [sc_ne (by decide), up2_at]
      refine t34 _ (p1 + 1) (scA (up2 D1 2 r u) 7 3) (PGX_up x2 (by omega)) (run_suc hA1 (by rw [hm, if_pos (by omega), eu])) (FH_up hh (FH_pg f w1) (by omega)) (oL u) (chA_sc (chA_up hch (by decide))) sc_at (by rw [Go 0 (by decide)]; exact a0) (by rw [Go 3 (by decide)]; exact a3) (by rw [Go 1 (by decide)]; exact a1) (by rw [Go 2 (by decide)]; exact a2) (fun k hk => ?_) (by rw [G 4 (by decide) (by decide)]; exact d4) (by rw [G 5 (by decide) (by decide)]; exact d5) (by rw [G 0 (by decide) (by decide)]; exact d0) (by rw [G 1 (by decide) (by decide)]; exact d1) (by rw [G2]; exact kd)
      by_cases e2 : k = 2
      · rw [e2, up2_at, G2]
      · rw [up2_nj _ _ e2, w1.1 _ (by omega), G k (by omega) e2]; exact hrow k (by omega)
    · obtain ⟨x1, x2⟩ := w3 kd
      rw [x1]
      refine ts34 _ p1 (PGX_up x2 (by omega)) (bad_of hA1 hP1.2.2.2.1 (by omega) (fun hl => ?_)) (FH_up hh (FH_pg f w1) (by omega)) (oL 0 hb (by omega) (by omega))
      rw [hm, if_neg]
      intro q
      refine kd ?_
      unfold dhS
      rw [if_pos ⟨rfl, hl, by omega⟩]
      omega
  have t17 : ∀ (I1 : sI) (p1 : Nat) (D1 : Sg), PGX pg len false p1 I1 → runA pg D0 p1 = some D1 → FH hb I I1 → (∀ a, a ≠ 4 → a ≠ hb + 2 + r → I1 a = I a) → chA (· < 6) D D1 r → D1 20 7 = 1 → D1 20 0 = (r : Int) + 1 → D1 20 3 = D 20 3 → D1 20 1 = D 20 1 → D1 20 2 = D 20 2 → I1 (hb + 2 + r) 0 = D1 0 r → D1 4 r = -1 → D1 5 r = -1 → (1 ≤ D1 0 r ∧ D1 0 r ≤ 6) → Cp g 3 m_X5_readRoom 0 0 Q 17 LS [] (TT Ls tl) I1 L (RR tl) := by
    intro I1 p1 D1 hP1 hA1 f o hch a7 a0 a3 a1 a2 hrow d4 d5 d0
    rw [hLS]
    have hm : ∀ c, mstA D1 c = if 97 ≤ c ∧ c ≤ 100 then some (scA (up2 D1 1 r (c - 97)) 7 2) else none := fun c => by
      rw [mst_pln (by unfold NSA; omega)]
      unfold plnA
      rw [if_neg (by omega), if_pos a7, lc_of a0]
    refine r_aload_n d_X5_readRoom_17 rfl ?_
    refine r_iconst d_X5_readRoom_18 ?_
    refine r_aload_n d_X5_readRoom_19 rfl ?_
    refine r_V0i d_X5_readRoom_20 (w_X5_76 _ rfl) (tt_4 _ _) rfl rfl (c_sort hP1) (by decide) (Nat.le_of_ble_eq_true rfl) (fun z20 T20 I20 L20 R20 h20 => ?_)
    obtain ⟨rfl, rfl, rfl, w1, w2, w3⟩ := h20
    refine r_iastJ (j := 1) d_X5_readRoom_23 (th2_1 _ _ hh hr) (by omega) rfl (by omega) (kk := ?_)
    rw [← hLS]
    have oL : ∀ (x : Int) (a : Nat), a ≠ 4 → a ≠ hb + 2 + r → up2 I20 (hb + 2 + r) 1 x a = I a := fun x a h4 h5 => by rw [up2_ne _ _ h5, w1.1 a h4]; exact o a h4 h5
    by_cases kd : p1 < len ∧ 97 ≤ pg p1 ∧ pg p1 ≤ 100
    · have es : soS pg len false p1 = pg p1 - 97 := by unfold soS; rw [if_pos ⟨rfl, kd⟩]
      obtain ⟨x1, x2⟩ := w2 (by omega)
      rw [x1, es]
      obtain ⟨u, hu⟩ : ∃ u, u = pg p1 - 97 := ⟨_, rfl⟩
      rw [← hu]
      have Go : ∀ i, i ≠ 7 → scA (up2 D1 1 r u) 7 2 20 i = D1 20 i := fun i h => by rw [sc_nj h, up_20 (by decide)]
      have G : ∀ k, k ≠ 20 → k ≠ 1 → scA (up2 D1 1 r u) 7 2 k r = D1 k r := fun k h1 h2 => by rw [sc_ne h1, up2_ne _ _ h2]
      have G2 : scA (up2 D1 1 r u) 7 2 1 r = u := by rw [sc_ne (by decide), up2_at]
      refine t24 _ (p1 + 1) (scA (up2 D1 1 r u) 7 2) (PGX_up x2 (by omega)) (run_suc hA1 (by rw [hm, if_pos kd.2, hu])) (FH_up hh (FH_pg f w1) (by omega)) (oL u) (chA_sc (chA_up hch (by decide))) sc_at (by rw [Go 0 (by decide)]; exact a0) (by rw [Go 3 (by decide)]; exact a3) (by rw [Go 1 (by decide)]; exact a1) (by rw [Go 2 (by decide)]; exact a2) (fun k hk => ?_) (by rw [G 4 (by decide) (by decide)]; exact d4) (by rw [G 5 (by decide) (by decide)]; exact d5) (by rw [G 0 (by decide) (by decide)]; exact d0) (by rw [G2]; omega)
      by_cases e2 : k = 1
      · rw [e2, up2_at, G2]
      · rw [show k = 0 by omega, up2_nj _ _ (by decide), w1.1 _ (by omega), G 0 (by omega) (by decide)]; exact hrow
    · have es : soS pg len false p1 = -1 := by unfold soS; rw [if_neg (fun q => kd q.2)]
      obtain ⟨x1, x2⟩ := w3 (by omega)
      rw [x1]
      refine ts24 _ p1 (PGX_up x2 (by omega)) (bad_of hA1 hP1.2.2.2.1 (by omega) (fun hl => ?_)) (FH_up hh (FH_pg f w1) (by omega)) (oL 0 hb (by omega) (by omega))
      rw [hm, if_neg (fun q => kd ⟨hl, q⟩)]
  have hm : ∀ c, mstA D c = if 49 ≤ c ∧ c ≤ 54 then some (scA (scA (up2 (up2 (up2 D 0 r (c - 48)) 4 r (-1)) 5 r (-1)) 0 ((r : Int) + 1)) 7 1) else none := fun c => by
    rw [mst_pln (by unfold NSA; omega)]
    unfold plnA
    rw [if_pos hs, hr0, Int.toNat_natCast]
  have hdd := dh_rg (pg := pg) (len := len) (p := p) (st := false)
  refine r_aload_n d_X5_readRoom_0 rfl ?_
  refine r_getr d_X5_readRoom_1 f_X5_68 (th_0 _ _ hh) (by decide) rfl (rh_0 _ hh) ?_
  refine r_iload_n d_X5_readRoom_4 rfl ?_
  refine r_aaldJ d_X5_readRoom_5 (th_1 _ _ hh) (by decide) rfl (by omega) (rh2_1 _ hh (by omega)) (kk := ?_)
  refine r_astore_n d_X5_readRoom_6 (by decide) ?_
  refine r_aload_n d_X5_readRoom_7 rfl ?_
  refine r_iconst d_X5_readRoom_8 ?_
  refine r_aload_n d_X5_readRoom_9 rfl ?_
  refine r_iconst d_X5_readRoom_10 ?_
  refine r_bipush d_X5_readRoom_11 (by decide) ?_
  refine r_V2i d_X5_readRoom_13 (w_X5_72 _ rfl) (tt_4 _ _) rfl rfl (c_digit hP (by omega) (by omega)) (by decide) (Nat.le_of_ble_eq_true rfl) (fun z13 T13 I13 L13 R13 h13 => ?_)
  obtain ⟨rfl, rfl, rfl, w1, w2, w3⟩ := h13
  refine r_iastJ (j := 0) d_X5_readRoom_16 (th2_1 _ _ hh (by omega)) (by omega) rfl (by omega) (kk := ?_)
  refine CpL (ls' := LS) ?_ (by rw [hLS]; repeat (first | exact trivial | refine ⟨rfl, ?_⟩))
  have oL : ∀ (x : Int) (a : Nat), a ≠ 4 → a ≠ hb + 2 + r → up2 I13 (hb + 2 + r) 0 x a = I a := fun x a h4 h5 => by rw [up2_ne _ _ h5, w1.1 a h4]
  by_cases kd : 1 ≤ dhS pg len false p ∧ dhS pg len false p ≤ 6
  · obtain ⟨x1, x2⟩ := w2 kd
    obtain ⟨-, x3, x4⟩ := dh_ok (pg := pg) (len := len) (p := p) (st := false) (by omega)
    obtain ⟨u, hu⟩ : ∃ u, u = dhS pg len false p := ⟨_, rfl⟩
    rw [← hu] at x1 x4 kd
    have eu : pg p - 48 = u := by omega
    rw [x1]
    obtain ⟨E, hE⟩ : ∃ E, E = scA (scA (up2 (up2 (up2 D 0 r u) 4 r (-1)) 5 r (-1)) 0 ((r : Int) + 1)) 7 1 := ⟨_, rfl⟩
    have Eo : ∀ i, i ≠ 7 → i ≠ 0 → E 20 i = D 20 i := fun i h h0 => by rw [hE, sc_nj h, sc_nj h0, up_20 (by decide), up_20 (by decide), up_20 (by decide)]
    have E0 : E 0 r = u := by rw [hE, sc_ne (by decide), sc_ne (by decide), up2_ne _ _ (by decide), up2_ne _ _ (by decide), up2_at]
    refine t17 _ (p + 1) E (PGX_up x2 (by omega)) (run_suc hA (by rw [hm, if_pos (by omega), eu, hE])) (FH_up hh (FH_pg FH_rf w1) (by omega)) (oL u) (by rw [hE]; exact chA_sc (chA_sc (chA_up (chA_up (chA_up chA_rf (by decide)) (by decide)) (by decide)))) (by rw [hE, sc_at]) (by rw [hE, sc_nj (by decide), sc_at]) (Eo 3 (by decide) (by decide)) (Eo 1 (by decide) (by decide)) (Eo 2 (by decide) (by decide)) (by rw [up2_at, E0]) ?_ ?_ (by rw [E0]; exact kd)
    · rw [hE, sc_ne (by decide), sc_ne (by decide), up2_ne _ _ (by decide), up2_at]
    · rw [hE, sc_ne (by decide), sc_ne (by decide), up2_at]
  · obtain ⟨x1, x2⟩ := w3 kd
    rw [x1]
    refine ts17 _ p (PGX_up x2 (by omega)) (bad_of hA hP.2.2.2.1 (by omega) (fun hl => ?_)) (FH_up hh (FH_pg FH_rf w1) (by omega)) (oL 0 hb (by omega) (by omega))
    rw [hm, if_neg]
    intro q
    refine kd ?_
    unfold dhS
    rw [if_pos ⟨rfl, hl, by omega⟩]
    omega
end C64
