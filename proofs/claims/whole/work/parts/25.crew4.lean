theorem DV_td {σ : Sg} {ℓ ab : Int} {nr nW : Nat} {δ : Sg} {tr tw : Nat → Nat} (hS : SV σ ℓ nr nW) (hD : DV δ nr nW) : ∀ n, DV (tdX σ ℓ ab nr nW tr tw n δ) nr nW
  | 0 => hD
  | n + 1 => by
    unfold tdX
    split
    · rename_i h
      exact DV_step hS (DV_td hS hD n) h.1 h.2
    · exact DV_td hS hD n
/-- a day by a rule: kind kd, order od, told rooms tr and women tw -/
def planX (σ : Sg) (ℓ ab : Int) (pm : Nat → Int) (nr nW : Nat) (kd : Int) (od tr tw : Nat → Nat) (tn way : Nat) : Sg := if kd = 1 then flrX σ ℓ ab nr nW nr 0 (opS σ way) else if kd = 2 ∨ kd = 3 ∨ kd = 4 then frX σ ℓ ab pm kd nr nW 100 (fun w => decide ((w : Int) = ab)) (opS σ way) else if kd = 6 then tdX σ ℓ ab nr nW tr tw tn (opS σ way) else lstS σ ℓ ab nW od nr (opS σ way)
/-- a rule's cells: rule q, with its kind, its number and what it tells -/
def UX (tl : List Nat) (q : Nat) (kd nn : Int) (tr tw : Nat → Nat) (tn : Nat) (I : sI) : Prop := tl[q]? = some tn ∧ tn ≤ 8 ∧ I (186 + 3 * q) 0 = kd ∧ I (186 + 3 * q) 1 = nn ∧ (0 ≤ kd ∧ kd ≤ 6) ∧ (0 ≤ nn ∧ nn ≤ 1) ∧ (∀ i, i < tn → I (186 + 3 * q + 1) i = (tr i : Int) ∧ I (186 + 3 * q + 2) i = (tw i : Int) ∧ tr i < 8 ∧ tw i < 3)
theorem UX_frb {tl : List Nat} {q : Nat} {kd nn : Int} {tr tw : Nat → Nat} {tn : Nat} {I I' : sI} {lo hi : Nat} (h : UX tl q kd nn tr tw tn I) (hf : frb lo hi I I') (hhi : hi ≤ 186) : UX tl q kd nn tr tw tn I' := by
  obtain ⟨h1, h2, h3, h4, h5, h6, h7⟩ := h
  have e := hf (186 + 3 * q) (by omega)
  exact ⟨h1, h2, by rw [e]; exact h3, by rw [e]; exact h4, h5, h6, fun i hi => by rw [hf _ (by omega), hf (186 + 3 * q + 2) (by omega)]; exact h7 i hi⟩
section C7
variable {g : sG} {Ls : Nat} {tl : List Nat} {I L : sI} {σ δ : Sg} {ℓ ab : Int} {nr nW : Nat} {pm : Nat → Int}
theorem c_planTold (hS : SV σ ℓ nr nW) (hK : KX σ ℓ ab nr nW I) (hV : DV δ nr nW) (hD : DX δ nr nW I) {q tn : Nat} {kd nn : Int} {tr tw : Nat → Nat} (hU : UX tl q kd nn tr tw tn I) : Mc g 3 m_X0_planTold 0 0 [vr 63, vr (186 + 3 * q)] (TT Ls tl) I L (RR tl) (qV fun T' I' L' R' => pst 70 77 (TT Ls tl) I L (RR tl) T' I' L' R' ∧ DX (tdX σ ℓ ab nr nW tr tw tn δ) nr nW I') := by
  refine Mc_of rfl (Nat.le_of_ble_eq_true rfl) ?_
  have h8 := hS.1
  have h4 := hS.2.1
  have hq := hU.1
  have ht8 := hU.2.1
  have loop : ∀ (k b : Nat) (I1 : sI), b + k = tn → frb 70 77 I I1 → DX (tdX σ ℓ ab nr nW tr tw b δ) nr nW I1 → Cp g 3 m_X0_planTold 0 0 (qV fun T' I' L' R' => pst 70 77 (TT Ls tl) I L (RR tl) T' I' L' R' ∧ DX (tdX σ ℓ ab nr nW tr tw tn δ) nr nW I') 2 [(0, vr 63), (1, vr (186 + 3 * q)), (2, vi (b : Int))] [] (TT Ls tl) I1 L (RR tl) := by
    intro k
    induction k with
    | zero =>
      intro b I1 hbk hf hD1
      have hb : b = tn := by omega
      subst hb
      refine r_iload_n d_X0_planTold_2 rfl ?_
      refine r_aload_n d_X0_planTold_3 rfl ?_
      refine r_getr d_X0_planTold_4 f_X0_134 (ttr_0 hq) (by decide) rfl (rrr_2 _) ?_
      refine r_alen d_X0_planTold_7 (ttr_1 hq) (by decide) ?_
      refine r_icmp_ge d_X0_planTold_8 (by omega) (by omega) (fun c8 => ?_) (fun c8 => absurd c8 (by omega))
      refine r_vret d_X0_planTold_74 rfl ?_
      exact ⟨rfl, ⟨rfl, hf, rfl, rfl⟩, hD1⟩
    | succ k ih =>
      intro b I1 hbk hf hD1
      have hK1 := KX_frb h8 h4 hK hf
      have hU1 := UX_frb hU hf (by omega)
      have hn1 := hK1.1
      have hn2 := hK1.2.2.2.1
      obtain ⟨e1, e2, e3, e4⟩ := hU1.2.2.2.2.2.2 b (by omega)
      have hV1 := DV_td (tr := tr) (tw := tw) (ab := ab) hS hV b
      have hst : tdX σ ℓ ab nr nW tr tw (b + 1) δ = if tw b < nW ∧ tr b < nr then stepS σ ℓ ab (tdX σ ℓ ab nr nW tr tw b δ) (tw b) (tr b) else tdX σ ℓ ab nr nW tr tw b δ := rfl
      refine r_iload_n d_X0_planTold_2 rfl ?_
      refine r_aload_n d_X0_planTold_3 rfl ?_
      refine r_getr d_X0_planTold_4 f_X0_134 (ttr_0 hq) (by decide) rfl (rrr_2 _) ?_
      refine r_alen d_X0_planTold_7 (ttr_1 hq) (by decide) ?_
      refine r_icmp_ge d_X0_planTold_8 (by omega) (by omega) (fun c8 => absurd c8 (by omega)) (fun c8 => ?_)
      refine r_iload_n d_X0_planTold_11 rfl ?_
      refine r_aload_n d_X0_planTold_12 rfl ?_
      refine r_getr d_X0_planTold_13 f_X0_137 (ttr_0 hq) (by decide) rfl (rrr_3 _) ?_
      refine r_alen d_X0_planTold_16 (ttr_2 hq) (by decide) ?_
      refine r_icmp_ge d_X0_planTold_17 (by omega) (by omega) (fun c17 => absurd c17 (by omega)) (fun c17 => ?_)
      refine r_aload_n d_X0_planTold_20 rfl ?_
      refine r_getr d_X0_planTold_21 f_X0_137 (ttr_0 hq) (by decide) rfl (rrr_3 _) ?_
      refine r_iload_n d_X0_planTold_24 rfl ?_
      refine r_ialdJ d_X0_planTold_25 (ttr_2 hq) rfl (by omega) (hn := (by omega)) (kk := ?_)
      rw [e2]
      refine r_istore_n d_X0_planTold_26 (by decide) ?_
      refine r_aload_n d_X0_planTold_27 rfl ?_
      refine r_getr d_X0_planTold_28 f_X0_134 (ttr_0 hq) (by decide) rfl (rrr_2 _) ?_
      refine r_iload_n d_X0_planTold_31 rfl ?_
      refine r_ialdJ d_X0_planTold_32 (ttr_1 hq) rfl (by omega) (hn := (by omega)) (kk := ?_)
      rw [e1]
      refine r_istore d_X0_planTold_33 (by decide) ?_
      refine r_iload_n d_X0_planTold_35 rfl ?_
      refine r_aload_n d_X0_planTold_36 rfl ?_
      refine r_geti d_X0_planTold_37 f_X0_50 (tt_63 _ _) (by decide) (by decide) ?_
      rw [hn2]
      refine r_SN2i d_X0_planTold_40 (w_X0_63 _ rfl) (c_isBelow (by omega) (by omega)) (by decide) (Nat.le_of_ble_eq_true rfl) (fun z40 T40 I40 L40 R40 h40 => ?_)
      obtain ⟨rfl, rfl, rfl, rfl, rfl⟩ := h40
      refine r_if_eq d_X0_planTold_43 (by split <;> omega) (fun c43 => ?_) (fun c43 => ?_)
      · rw [if_neg (by intro h; rw [if_pos (by omega)] at c43; omega)] at hst
        refine r_iinc d_X0_planTold_68 rfl (by decide) ?_
        refine r_goto d_X0_planTold_71 ?_
        first | exact CpL (ih (b + 1) _ (by omega) (frb_tr hf hf2) (by rw [hst]; exact hD2)) (by repeat (first | exact trivial | refine ⟨rfl, ?_⟩)) | exact CpL (ih (b + 1) _ (by omega) hf (by rw [hst]; exact hD1)) (by repeat (first | exact trivial | refine ⟨rfl, ?_⟩))
      · have hw : tw b < nW := by
          by_cases h : tw b < nW
          · exact h
          · rw [if_neg (by omega)] at c43; omega
        refine r_iload d_X0_planTold_46 rfl ?_
        refine r_aload_n d_X0_planTold_48 rfl ?_
        refine r_getr d_X0_planTold_49 f_X0_46 (tt_63 _ _) (by decide) rfl (rr_63_7 _) ?_
        refine r_geti d_X0_planTold_52 f_X0_67 (tt_8 _ _) (by decide) (by decide) ?_
        rw [hn1]
        refine r_SN2i d_X0_planTold_55 (w_X0_63 _ rfl) (c_isBelow (by omega) (by omega)) (by decide) (Nat.le_of_ble_eq_true rfl) (fun z55 T55 I55 L55 R55 h55 => ?_)
        obtain ⟨rfl, rfl, rfl, rfl, rfl⟩ := h55
        refine r_if_eq d_X0_planTold_58 (by split <;> omega) (fun c58 => ?_) (fun c58 => ?_)
        · rw [if_neg (by intro h; rw [if_pos (by omega)] at c58; omega)] at hst
          refine r_iinc d_X0_planTold_68 rfl (by decide) ?_
          refine r_goto d_X0_planTold_71 ?_
          first | exact CpL (ih (b + 1) _ (by omega) (frb_tr hf hf2) (by rw [hst]; exact hD2)) (by repeat (first | exact trivial | refine ⟨rfl, ?_⟩)) | exact CpL (ih (b + 1) _ (by omega) hf (by rw [hst]; exact hD1)) (by repeat (first | exact trivial | refine ⟨rfl, ?_⟩))
        · have hr : tr b < nr := by
            by_cases h : tr b < nr
            · exact h
            · rw [if_neg (by omega)] at c58; omega
          rw [if_pos ⟨hw, hr⟩] at hst
          refine r_aload_n d_X0_planTold_61 rfl ?_
          refine r_iload_n d_X0_planTold_62 rfl ?_
          refine r_iload d_X0_planTold_63 rfl ?_
          refine r_V2v d_X0_planTold_65 (w_X0_100 _ rfl) (tt_63 _ _) rfl rfl (c_assign hS hK1 hV1 hD1 hw hr) (by decide) (Nat.le_of_ble_eq_true rfl) (fun T65 I65 L65 R65 h65 => ?_)
          obtain ⟨⟨rfl, hf2, rfl, rfl⟩, hD2, h72⟩ := h65
          refine r_iinc d_X0_planTold_68 rfl (by decide) ?_
          refine r_goto d_X0_planTold_71 ?_
          first | exact CpL (ih (b + 1) _ (by omega) (frb_tr hf hf2) (by rw [hst]; exact hD2)) (by repeat (first | exact trivial | refine ⟨rfl, ?_⟩)) | exact CpL (ih (b + 1) _ (by omega) hf (by rw [hst]; exact hD1)) (by repeat (first | exact trivial | refine ⟨rfl, ?_⟩))
  refine r_iconst d_X0_planTold_0 ?_
  refine r_istore_n d_X0_planTold_1 (by decide) ?_
  exact CpL (loop tn 0 I (by omega) frb_rf hD) (by repeat (first | exact trivial | refine ⟨rfl, ?_⟩))
theorem c_plan {nw ng : Nat} (hS : SV σ ℓ nr nW) (hHV : HV σ nr nw ng) (hX : HX 8 σ nr nw ng I) (hK : KX σ ℓ ab nr nW I) (hP : PX pm nr I) {q tn : Nat} {kd nn : Int} {tr tw : Nat → Nat} (hU : UX tl q kd nn tr tw tn I) {oa on : Nat} {od : Nat → Nat} (hT : (TT Ls tl)[oa]? = some (10, on)) (ho : nr ≤ on ∧ on ≤ 100) (hoa : oa < 70 ∨ 77 ≤ oa) (hod : ∀ k, k < nr → od k < nr ∧ I oa k = (od k : Int)) {way : Nat} (hway : way < 8) : Mc g 4 m_X0_plan 0 0 [vr 63, vr (186 + 3 * q), vr oa, vi (way : Int)] (TT Ls tl) I L (RR tl) (qV fun T' I' L' R' => pst 70 77 (TT Ls tl) I L (RR tl) T' I' L' R' ∧ DX (planX σ ℓ ab pm nr nW kd od tr tw tn way) nr nW I') := by
  refine Mc_of rfl (Nat.le_of_ble_eq_true rfl) ?_
  have h8 := hS.1
  have h4 := hS.2.1
  have hq := hU.1
  have hV := DV_op (way := way) hS
  have fin : ∀ (I2 : sI), frb 70 77 I I2 → DX (opS σ way) nr nW I2 → (∀ w : Nat, w < nW → I2 72 w = if (w : Int) = ab then 1 else 0) → Cp g 4 m_X0_plan 0 0 (qV fun T' I' L' R' => pst 70 77 (TT Ls tl) I L (RR tl) T' I' L' R' ∧ DX (planX σ ℓ ab pm nr nW kd od tr tw tn way) nr nW I') 5 [(0, vr 63), (1, vr (186 + 3 * q)), (2, vr oa)] [] (TT Ls tl) I2 L (RR tl) := by
    intro I2 hf hD hE
    have hK1 := KX_frb h8 h4 hK hf
    have hU1 := UX_frb hU hf (by omega)
    have hP1 := PX_frb hP hf (by omega)
    have hkd := hU1.2.2.1
    have hkb := hU1.2.2.2.2.1
    have hod1 : ∀ k, k < nr → od k < nr ∧ I2 oa k = (od k : Int) := fun k hk => by rw [hf oa hoa]; exact hod k hk
    have hE1 : ∀ w, w < nW → I2 72 w = if (fun w : Nat => decide ((w : Int) = ab)) w = true then 1 else 0 := fun w hw => by rw [hE w hw]; simp
    have k48 : kd = 1 → Cp g 4 m_X0_plan 0 0 (qV fun T' I' L' R' => pst 70 77 (TT Ls tl) I L (RR tl) T' I' L' R' ∧ DX (planX σ ℓ ab pm nr nW kd od tr tw tn way) nr nW I') 48 [(0, vr 63), (1, vr (186 + 3 * q)), (2, vr oa)] [] (TT Ls tl) I2 L (RR tl) := by
      intro hk
      unfold planX
      rw [if_pos hk]
      refine r_aload_n d_X0_plan_48 rfl ?_
      refine r_V0v d_X0_plan_49 (w_X0_83 _ rfl) (tt_63 _ _) rfl rfl (c_planFloors hS hK1 hV hD) (by decide) (Nat.le_of_ble_eq_true rfl) (fun T49 I49 L49 R49 h49 => ?_)
      obtain ⟨⟨rfl, hf2, rfl, rfl⟩, hD2⟩ := h49
      refine r_goto d_X0_plan_52 ?_
      refine r_vret d_X0_plan_79 rfl ?_
      exact ⟨rfl, ⟨rfl, frb_tr hf hf2, rfl, rfl⟩, hD2⟩
    have k55 : kd = 2 ∨ kd = 3 ∨ kd = 4 → Cp g 4 m_X0_plan 0 0 (qV fun T' I' L' R' => pst 70 77 (TT Ls tl) I L (RR tl) T' I' L' R' ∧ DX (planX σ ℓ ab pm nr nW kd od tr tw tn way) nr nW I') 55 [(0, vr 63), (1, vr (186 + 3 * q)), (2, vr oa)] [] (TT Ls tl) I2 L (RR tl) := by
      intro hk
      unfold planX
      rw [if_neg (by omega), if_pos hk]
      refine r_aload_n d_X0_plan_55 rfl ?_
      refine r_aload_n d_X0_plan_56 rfl ?_
      refine r_geti d_X0_plan_57 f_X0_78 (ttr_0 hq) (by decide) (by decide) ?_
      rw [hkd]
      refine r_V1v d_X0_plan_60 (w_X0_86 _ rfl) (tt_63 _ _) rfl rfl (c_planFree hS hK1 hP1 hV hD hE1 hk) (by decide) (Nat.le_of_ble_eq_true rfl) (fun T60 I60 L60 R60 h60 => ?_)
      obtain ⟨⟨rfl, hf2, rfl, rfl⟩, hD2⟩ := h60
      refine r_goto d_X0_plan_63 ?_
      refine r_vret d_X0_plan_79 rfl ?_
      exact ⟨rfl, ⟨rfl, frb_tr hf hf2, rfl, rfl⟩, hD2⟩
    have k66 : kd = 6 → Cp g 4 m_X0_plan 0 0 (qV fun T' I' L' R' => pst 70 77 (TT Ls tl) I L (RR tl) T' I' L' R' ∧ DX (planX σ ℓ ab pm nr nW kd od tr tw tn way) nr nW I') 66 [(0, vr 63), (1, vr (186 + 3 * q)), (2, vr oa)] [] (TT Ls tl) I2 L (RR tl) := by
      intro hk
      unfold planX
      rw [if_neg (by omega), if_neg (by omega), if_pos hk]
      refine r_aload_n d_X0_plan_66 rfl ?_
      refine r_aload_n d_X0_plan_67 rfl ?_
      refine r_V1v d_X0_plan_68 (w_X0_89 _ rfl) (tt_63 _ _) rfl rfl (c_planTold hS hK1 hV hD hU1) (by decide) (Nat.le_of_ble_eq_true rfl) (fun T68 I68 L68 R68 h68 => ?_)
      obtain ⟨⟨rfl, hf2, rfl, rfl⟩, hD2⟩ := h68
      refine r_goto d_X0_plan_71 ?_
      refine r_vret d_X0_plan_79 rfl ?_
      exact ⟨rfl, ⟨rfl, frb_tr hf hf2, rfl, rfl⟩, hD2⟩
    have k74 : kd = 0 ∨ kd = 5 → Cp g 4 m_X0_plan 0 0 (qV fun T' I' L' R' => pst 70 77 (TT Ls tl) I L (RR tl) T' I' L' R' ∧ DX (planX σ ℓ ab pm nr nW kd od tr tw tn way) nr nW I') 74 [(0, vr 63), (1, vr (186 + 3 * q)), (2, vr oa)] [] (TT Ls tl) I2 L (RR tl) := by
      intro hk
      unfold planX
      rw [if_neg (by omega), if_neg (by omega), if_neg (by omega)]
      refine r_aload_n d_X0_plan_74 rfl ?_
      refine r_aload_n d_X0_plan_75 rfl ?_
      refine r_V1v d_X0_plan_76 (w_X0_93 _ rfl) (tt_63 _ _) rfl rfl (c_planList hS hK1 hV hD hT ho hoa hod1) (by decide) (Nat.le_of_ble_eq_true rfl) (fun T76 I76 L76 R76 h76 => ?_)
      obtain ⟨⟨rfl, hf2, rfl, rfl⟩, hD2⟩ := h76
      refine r_vret d_X0_plan_79 rfl ?_
      exact ⟨rfl, ⟨rfl, frb_tr hf hf2, rfl, rfl⟩, hD2⟩
    refine r_aload_n d_X0_plan_5 rfl ?_
    refine r_geti d_X0_plan_6 f_X0_78 (ttr_0 hq) (by decide) (by decide) ?_
    rw [hkd]
    refine r_sw d_X0_plan_9 (by omega) (fun h1 h2 => ?_) (fun h => ?_)
    · have hc : kd = 1 ∨ kd = 2 ∨ kd = 3 ∨ kd = 4 ∨ kd = 5 ∨ kd = 6 := by omega
      rcases hc with hc | hc | hc | hc | hc | hc
      · rw [show (kd - 1).toNat = 0 by omega]; exact k48 hc
      · rw [show (kd - 1).toNat = 1 by omega]; exact k55 (by omega)
      · rw [show (kd - 1).toNat = 2 by omega]; exact k55 (by omega)
      · rw [show (kd - 1).toNat = 3 by omega]; exact k55 (by omega)
      · rw [show (kd - 1).toNat = 4 by omega]; exact k74 (by omega)
      · rw [show (kd - 1).toNat = 5 by omega]; exact k66 hc
    · exact k74 (by omega)
  refine r_aload_n d_X0_plan_0 rfl ?_
  refine r_iload_n d_X0_plan_1 rfl ?_
  refine r_V1v d_X0_plan_2 (w_X0_74 _ rfl) (tt_63 _ _) rfl rfl (c_open hS hHV hX hK hway) (by decide) (Nat.le_of_ble_eq_true rfl) (fun T2 I2 L2 R2 h2 => ?_)
  obtain ⟨⟨rfl, hf, rfl, rfl⟩, hD, hE⟩ := h2
  exact CpL (fin _ hf hD hE) (by repeat (first | exact trivial | refine ⟨rfl, ?_⟩))
def adS (σ : Sg) (nw : Nat) : Sg := fun k i => if (k = 7 ∨ k = 8 ∨ k = 9) ∧ i = nw then σ k 0 else σ k i
theorem c_hireLike {s w : Nat} (hs : s < 4) (hw : w < 3) (hn : I 63 3 = (s : Int)) : Mc g 0 m_X0_hireLike 0 0 [vr 63, vr (19 + w)] (TT Ls tl) I L (RR tl) (qV fun T' I' L' R' => (TT Ls tl) = T' ∧ I' = up2 (up2 (up2 (up2 (up2 I (65 + s) 0 (I (19 + w) 0)) (65 + s) 1 (I (19 + w) 1)) (65 + s) 2 (I (19 + w) 2)) 69 s 1) 63 3 ((s : Int) + 1) ∧ L = L' ∧ (RR tl) = R') := by
  refine Mc_of rfl (Nat.le_of_ble_eq_true rfl) ?_
  have n1 : 63 ≠ 65 + s := by omega
  have n2 : 19 + w ≠ 65 + s := by omega
  refine r_aload_n d_X0_hireLike_0 rfl ?_
  refine r_geti d_X0_hireLike_1 f_X0_50 (tt_63 _ _) (by decide) (by decide) ?_
  refine r_aload_n d_X0_hireLike_4 rfl ?_
  refine r_getr d_X0_hireLike_5 f_X0_17 (tt_63 _ _) (by decide) rfl (rr_63_1 _) ?_
  refine r_alen d_X0_hireLike_8 (tt_64 _ _) (by decide) ?_
  refine r_icmp_ge d_X0_hireLike_9 (by omega) (by omega) (fun c9 => absurd c9 (by omega)) (fun c9 => ?_)
  refine r_aload_n d_X0_hireLike_12 rfl ?_
  refine r_getr d_X0_hireLike_13 f_X0_17 (tt_63 _ _) (by decide) rfl (rr_63_1 _) ?_
  refine r_aload_n d_X0_hireLike_16 rfl ?_
  refine r_geti d_X0_hireLike_17 f_X0_50 (tt_63 _ _) (by decide) (by decide) ?_
  refine r_aaldJ (j := s) d_X0_hireLike_20 (tt_64 _ _) (by decide) (by omega) (by omega) (rr2_64 _ (by omega)) (kk := ?_)
  refine r_iconst d_X0_hireLike_21 ?_
  refine r_aload_n d_X0_hireLike_22 rfl ?_
  refine r_iconst d_X0_hireLike_23 ?_
  refine r_ialdJ (j := 0) d_X0_hireLike_24 (tt2_18 _ _ hw) rfl (by omega) (kk := ?_)
  refine r_iastJ (j := 0) d_X0_hireLike_25 (tt2_64 _ _ (by omega)) (by omega) rfl (by omega) (kk := ?_)
  refine r_aload_n d_X0_hireLike_26 rfl ?_
  refine r_getr d_X0_hireLike_27 f_X0_17 (tt_63 _ _) (by decide) rfl (rr_63_1 _) ?_
  refine r_aload_n d_X0_hireLike_30 rfl ?_
  refine r_geti d_X0_hireLike_31 f_X0_50 (tt_63 _ _) (by decide) (by decide) ?_
  simp only [up2_ne _ _ n1]
  refine r_aaldJ (j := s) d_X0_hireLike_34 (tt_64 _ _) (by decide) (by omega) (by omega) (rr2_64 _ (by omega)) (kk := ?_)
  refine r_iconst d_X0_hireLike_35 ?_
  refine r_aload_n d_X0_hireLike_36 rfl ?_
  refine r_iconst d_X0_hireLike_37 ?_
  refine r_ialdJ (j := 1) d_X0_hireLike_38 (tt2_18 _ _ hw) rfl (by omega) (kk := ?_)
  simp only [up2_ne _ _ n2]
  refine r_iastJ (j := 1) d_X0_hireLike_39 (tt2_64 _ _ (by omega)) (by omega) rfl (by omega) (kk := ?_)
  refine r_aload_n d_X0_hireLike_40 rfl ?_
  refine r_getr d_X0_hireLike_41 f_X0_17 (tt_63 _ _) (by decide) rfl (rr_63_1 _) ?_
  refine r_aload_n d_X0_hireLike_44 rfl ?_
  refine r_geti d_X0_hireLike_45 f_X0_50 (tt_63 _ _) (by decide) (by decide) ?_
  simp only [up2_ne _ _ n1]
  refine r_aaldJ (j := s) d_X0_hireLike_48 (tt_64 _ _) (by decide) (by omega) (by omega) (rr2_64 _ (by omega)) (kk := ?_)
  refine r_iconst d_X0_hireLike_49 ?_
  refine r_aload_n d_X0_hireLike_50 rfl ?_
  refine r_iconst d_X0_hireLike_51 ?_
  refine r_ialdJ (j := 2) d_X0_hireLike_52 (tt2_18 _ _ hw) rfl (by omega) (kk := ?_)
  simp only [up2_ne _ _ n2]
  refine r_iastJ (j := 2) d_X0_hireLike_53 (tt2_64 _ _ (by omega)) (by omega) rfl (by omega) (kk := ?_)
  refine r_aload_n d_X0_hireLike_54 rfl ?_
  refine r_getr d_X0_hireLike_55 f_X0_20 (tt_63 _ _) (by decide) rfl (rr_63_2 _) ?_
  refine r_aload_n d_X0_hireLike_58 rfl ?_
  refine r_geti d_X0_hireLike_59 f_X0_50 (tt_63 _ _) (by decide) (by decide) ?_
  simp only [up2_ne _ _ n1]
  refine r_iconst d_X0_hireLike_62 ?_
  refine r_zastJ (j := s) d_X0_hireLike_63 (tt_69 _ _) (by omega) (by omega) (by omega) (by omega) (kk := ?_)
  refine r_aload_n d_X0_hireLike_64 rfl ?_
  refine r_dup d_X0_hireLike_65 rfl ?_
  refine r_geti d_X0_hireLike_66 f_X0_50 (tt_63 _ _) (by decide) (by decide) ?_
  simp only [up2_ne _ _ n1, up2_ne _ _ (show 63 ≠ 69 by omega)]
  rw [hn]
  refine r_iconst d_X0_hireLike_69 ?_
  refine r_iadd d_X0_hireLike_70 ?_
  refine r_puti d_X0_hireLike_71 f_X0_50 (tt_63 _ _) (by decide) (Or.inl rfl) ?_
  refine r_vret d_X0_hireLike_74 rfl ?_
  exact ⟨rfl, rfl, rfl, rfl, rfl⟩
theorem c_hireAll {nw ng : Nat} (hHV : HV σ nr nw ng) (hX : HX 8 σ nr nw ng I) (hl : I 63 0 = ℓ) : Mc g 1 m_X0_hireAll 0 0 [vr 63] (TT Ls tl) I L (RR tl) (qV fun T' I' L' R' => pst 63 70 (TT Ls tl) I L (RR tl) T' I' L' R' ∧ KX σ ℓ (-1) nr nw I') := by
  refine Mc_of rfl (Nat.le_of_ble_eq_true rfl) ?_
  have h3 := hHV.2.1
  have h8 := hHV.1
  have loop : ∀ (k b : Nat) (I1 : sI), b + k = nw → frb 63 70 I I1 → I1 63 0 = ℓ → I1 63 3 = (b : Int) → (∀ w, w < b → ∀ k, k < 3 → I1 (65 + w) k = σ (7 + k) w) → (∀ w, w < b → I1 69 w = 1) → Cp g 1 m_X0_hireAll 0 0 (qV fun T' I' L' R' => pst 63 70 (TT Ls tl) I L (RR tl) T' I' L' R' ∧ KX σ ℓ (-1) nr nw I') 7 [(0, vr 63), (1, vi (b : Int))] [] (TT Ls tl) I1 L (RR tl) := by
    intro k
    induction k with
    | zero =>
      intro b I1 hbk hf hl1 hn1 h1 h2
      have hX1 := HX_frb hHV hX hf (by omega)
      have hnw := hX1.2.1
      refine r_iload_n d_X0_hireAll_7 rfl ?_
      refine r_aload_n d_X0_hireAll_8 rfl ?_
      refine r_getr d_X0_hireAll_9 f_X0_46 (tt_63 _ _) (by decide) rfl (rr_63_7 _) ?_
      refine r_geti d_X0_hireAll_12 f_X0_53 (tt_8 _ _) (by decide) (by decide) ?_
      refine r_icmp_ge d_X0_hireAll_15 (by omega) (by omega) (fun c15 => ?_) (fun c15 => absurd c15 (by omega))
      refine r_vret d_X0_hireAll_37 rfl ?_
      refine ⟨rfl, ⟨rfl, hf, rfl, rfl⟩, hX1.1, fun r hr k hk => HXr hX1 hr hk, hl1, by rw [hn1, show b = nw by omega], fun w hw k hk => h1 w (by omega) k hk, fun w hw => ?_⟩
      rw [h2 w (by omega), if_neg (by omega)]
    | succ k ih =>
      intro b I1 hbk hf hl1 hn1 h1 h2
      have hX1 := HX_frb hHV hX hf (by omega)
      have hnw := hX1.2.1
      have hb : b < nw := by omega
      refine r_iload_n d_X0_hireAll_7 rfl ?_
      refine r_aload_n d_X0_hireAll_8 rfl ?_
      refine r_getr d_X0_hireAll_9 f_X0_46 (tt_63 _ _) (by decide) rfl (rr_63_7 _) ?_
      refine r_geti d_X0_hireAll_12 f_X0_53 (tt_8 _ _) (by decide) (by decide) ?_
      refine r_icmp_ge d_X0_hireAll_15 (by omega) (by omega) (fun c15 => absurd c15 (by omega)) (fun c15 => ?_)
      refine r_aload_n d_X0_hireAll_18 rfl ?_
      refine r_aload_n d_X0_hireAll_19 rfl ?_
      refine r_getr d_X0_hireAll_20 f_X0_46 (tt_63 _ _) (by decide) rfl (rr_63_7 _) ?_
      refine r_getr d_X0_hireAll_23 f_X0_58 (tt_8 _ _) (by decide) rfl (rr_8_1 _) ?_
      refine r_iload_n d_X0_hireAll_26 rfl ?_
      refine r_aaldJ d_X0_hireAll_27 (tt_18 _ _) (by decide) rfl (by omega) (rr2_18 _ (by omega)) (kk := ?_)
      refine r_V1v d_X0_hireAll_28 (w_X0_59 _ rfl) (tt_63 _ _) rfl rfl (c_hireLike (s := b) (w := b) (by omega) (by omega) hn1) (by decide) (Nat.le_of_ble_eq_true rfl) (fun T28 I28 L28 R28 h28 => ?_)
      obtain ⟨rfl, rfl, rfl, rfl⟩ := h28
      refine r_iinc d_X0_hireAll_31 rfl (by decide) ?_
      refine r_goto d_X0_hireAll_34 ?_
      refine CpL (ih (b + 1) _ (by omega) (frb_up (frb_up (frb_up (frb_up (frb_up hf (by omega)) (by omega)) (by omega)) (by omega)) (by omega)) ?_ ?_ (fun w hw k hk => ?_) (fun w hw => ?_)) (by repeat (first | exact trivial | refine ⟨rfl, ?_⟩))
      · rw [up2_nj _ _ (by omega), up2_ne _ _ (by omega), up2_ne _ _ (by omega), up2_ne _ _ (by omega), up2_ne _ _ (by omega)]; exact hl1
      · rw [up2_at]; rfl
      · rw [up2_ne _ _ (by omega), up2_ne _ _ (by omega)]
        by_cases e : w = b
        · subst e
          have e0 := HXw hX1 hb (k := k) hk
          have : k = 0 ∨ k = 1 ∨ k = 2 := by omega
          rcases this with rfl | rfl | rfl <;> simp only [up2, Nat.reduceEqDiff, if_true, if_false] <;> exact e0
        · rw [up2_ne _ _ (by omega), up2_ne _ _ (by omega), up2_ne _ _ (by omega)]
          exact h1 w (by omega) k hk
      · rw [up2_ne _ _ (by omega)]
        by_cases e : w = b
        · subst e; rw [up2_at]
        · rw [up2_nj _ _ e, up2_ne _ _ (by omega), up2_ne _ _ (by omega), up2_ne _ _ (by omega)]; exact h2 w (by omega)
  refine r_aload_n d_X0_hireAll_0 rfl ?_
  refine r_iconst d_X0_hireAll_1 ?_
  refine r_puti d_X0_hireAll_2 f_X0_50 (tt_63 _ _) (by decide) (Or.inl rfl) ?_
  refine r_iconst d_X0_hireAll_5 ?_
  refine r_istore_n d_X0_hireAll_6 (by decide) ?_
  exact CpL (loop nw 0 _ (by omega) (frb_up frb_rf (by omega)) (by rw [up2_nj _ _ (by omega)]; exact hl) (by rw [up2_at]; rfl) (fun w hw => absurd hw (by omega)) (fun w hw => absurd hw (by omega))) (by repeat (first | exact trivial | refine ⟨rfl, ?_⟩))
theorem c_sendAway {w : Nat} (hw : w < nW) (h4 : nW ≤ 4) (hn : I 63 3 = (nW : Int)) : Mc g 1 m_X0_sendAway 0 0 [vr 63, vi (w : Int)] (TT Ls tl) I L (RR tl) (qV fun T' I' L' R' => (TT Ls tl) = T' ∧ I' = up2 I 69 w 0 ∧ L = L' ∧ (RR tl) = R') := by
  refine Mc_of rfl (Nat.le_of_ble_eq_true rfl) ?_
  refine r_iload_n d_X0_sendAway_0 rfl ?_
  refine r_aload_n d_X0_sendAway_1 rfl ?_
  refine r_geti d_X0_sendAway_2 f_X0_50 (tt_63 _ _) (by decide) (by decide) ?_
  rw [hn]
  refine r_SN2i d_X0_sendAway_5 (w_X0_63 _ rfl) (c_isBelow (by omega) (by omega)) (by decide) (Nat.le_of_ble_eq_true rfl) (fun z5 T5 I5 L5 R5 h5 => ?_)
  obtain ⟨rfl, rfl, rfl, rfl, rfl⟩ := h5
  refine r_if_eq d_X0_sendAway_8 (by split <;> omega) (fun c8 => absurd c8 (by rw [if_pos (by omega)]; omega)) (fun c8 => ?_)
  refine r_aload_n d_X0_sendAway_11 rfl ?_
  refine r_getr d_X0_sendAway_12 f_X0_20 (tt_63 _ _) (by decide) rfl (rr_63_2 _) ?_
  refine r_iload_n d_X0_sendAway_15 rfl ?_
  refine r_iconst d_X0_sendAway_16 ?_
  refine r_zastJ d_X0_sendAway_17 (tt_69 _ _) (by omega) rfl (by omega) (by omega) (kk := ?_)
  refine r_vret d_X0_sendAway_18 rfl ?_
  exact ⟨rfl, rfl, rfl, rfl, rfl⟩
end C7
