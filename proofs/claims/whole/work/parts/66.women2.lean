theorem nm_bd {pg : Nat → Int} {len p : Nat} {st : Bool} {lo hi : Int} (hl : 0 ≤ lo ∧ 9 ≤ hi) : 0 ≤ (nmS pg len st p lo hi).2.2 ∧ (nmS pg len st p lo hi).2.2 ≤ hi := by
  have hd := dh_rg (pg := pg) (len := len) (p := p) (st := st)
  unfold nmS
  split
  · show (0 : Int) ≤ 0 ∧ (0 : Int) ≤ hi; omega
  · split
    · show 0 ≤ dhS pg len st p ∧ dhS pg len st p ≤ hi; omega
    · split
      · show (0 : Int) ≤ 0 ∧ (0 : Int) ≤ hi; omega
      · have hd2 := dh_rg (pg := pg) (len := len) (p := p + 1) (st := false)
        show 0 ≤ dhS pg len st p * 10 + dhS pg len false (p + 1) ∧ dhS pg len st p * 10 + dhS pg len false (p + 1) ≤ hi
        omega
/-- the women so far -/
def WDX (D : Sg) (hb w : Nat) (I : sI) : Prop := ∀ i, i < w → (∀ k, k < 3 → I (hb + 11 + i) k = D (7 + k) i) ∧ WV D i
theorem WDX_D {D D' : Sg} {hb w : Nat} {I : sI} (h : WDX D hb w I) (hD : ∀ k i, 7 ≤ k → k < 10 → i < w → D' k i = D k i) : WDX D' hb w I := fun i hi => by
  obtain ⟨h1, h2⟩ := h i hi
  refine ⟨fun k hk => by rw [hD (7 + k) i (by omega) (by omega) hi]; exact h1 k hk, ?_⟩
  unfold WV at h2 ⊢
  rw [hD 7 i (by omega) (by omega) hi, hD 8 i (by omega) (by omega) hi, hD 9 i (by omega) (by omega) hi]
  exact h2
theorem WDX_I {D : Sg} {hb w : Nat} {I I' : sI} (h : WDX D hb w I) (f : ∀ i, i < w → I' (hb + 11 + i) = I (hb + 11 + i)) : WDX D hb w I' := fun i hi => by rw [f i hi]; exact h i hi
/-- behind all women -/
def WRS (pg : Nat → Int) (len : Nat) (D0 D : Sg) (hb nr p' nw : Nat) (D' : Sg) (I' : sI) : Prop := PGX pg len false p' I' ∧ runA pg D0 p' = some D' ∧ D' 20 7 = 20 ∧ D' 20 4 = -1 ∧ D' 20 5 = 0 ∧ D' 20 6 = 44 ∧ D' 20 0 = D 20 0 ∧ D' 20 1 = (nw : Int) ∧ (1 ≤ nw ∧ nw ≤ 3) ∧ RDX D' hb nr I' ∧ WDX D' hb nw I' ∧ I' hb 4 = (nw : Int) ∧ D' 20 2 = D 20 2
section C66
variable {g : sG} {Ls : Nat} {tl : List Nat} {I L : sI} {pg : Nat → Int} {len p hb nr : Nat} {D0 D : Sg}
theorem c_readWomen_s (hh : hb = 8 ∨ hb = 35) (hP : PGX pg len true p I) : Mc g 3 m_X5_readWomen 0 0 [vr 4, vr hb] (TT Ls tl) I L (RR tl) (qV fun T' I' L' R' => same (TT Ls tl) I L (RR tl) T' I' L' R') := by
  refine Mc_of rfl (Nat.le_of_ble_eq_true rfl) ?_
  have h5 : I 4 3 = 1 := hP.2.2.2.2.1
  refine r_iconst d_X5_readWomen_0 ?_
  refine r_istore_n d_X5_readWomen_1 (by decide) ?_
  refine r_iload_n d_X5_readWomen_2 rfl ?_
  refine r_iconst d_X5_readWomen_3 ?_
  refine r_icmp_ge d_X5_readWomen_4 (by omega) (by omega) (fun c4 => absurd c4 (by omega)) (fun c4 => ?_)
  refine r_aload_n d_X5_readWomen_7 rfl ?_
  refine r_geti d_X5_readWomen_8 f_X5_31 (tt_4 _ _) (by decide) (by decide) ?_
  rw [h5]
  refine r_if_ne d_X5_readWomen_11 (by omega) (fun c11 => ?_) (fun c11 => absurd c11 (by decide))
  refine r_vret d_X5_readWomen_106 rfl ?_
  exact ⟨rfl, same_rf⟩
theorem c_readWomen (hh : hb = 8 ∨ hb = 35) (hP : PGX pg len false p I) (hA : runA pg D0 p = some D) (hs : D 20 7 = 10) (hw0 : D 20 1 = 0) (hnr : nr ≤ 8) (hR : RDX D hb nr I) : Mc g 3 m_X5_readWomen 0 0 [vr 4, vr hb] (TT Ls tl) I L (RR tl) (qV fun T' I' L' R' => T' = TT Ls tl ∧ R' = RR tl ∧ L' = L ∧ FH hb I I' ∧ (∀ k, k ≠ 4 → I' hb k = I hb k) ∧ ((∃ p', PGX pg len true p' I' ∧ badA pg len D0 p') ∨ (∃ p' nw D', WRS pg len D0 D hb nr p' nw D' I'))) := by
  refine Mc_of rfl (Nat.le_of_ble_eq_true rfl) ?_
  obtain ⟨Q, hQ⟩ : ∃ Q : sQ, Q = (qV fun T' I' L' R' => T' = TT Ls tl ∧ R' = RR tl ∧ L' = L ∧ FH hb I I' ∧ (∀ k, k ≠ 4 → I' hb k = I hb k) ∧ ((∃ p', PGX pg len true p' I' ∧ badA pg len D0 p') ∨ (∃ p' nw D', WRS pg len D0 D hb nr p' nw D' I'))) := ⟨_, rfl⟩
  rw [← hQ]
  have ls : ∀ (I1 : sI) (w p1 : Nat), w ≤ 3 → PGX pg len true p1 I1 → badA pg len D0 p1 → FH hb I I1 → (∀ k, k ≠ 4 → I1 hb k = I hb k) → Cp g 3 m_X5_readWomen 0 0 Q 2 [(0, vr 4), (1, vr hb), (2, vi (w : Int))] [] (TT Ls tl) I1 L (RR tl) := by
    intro I1 w p1 hw hP1 hb1 f fk
    have h5 : I1 4 3 = 1 := hP1.2.2.2.2.1
    refine r_iload_n d_X5_readWomen_2 rfl ?_
    refine r_iconst d_X5_readWomen_3 ?_
    refine r_icmp_ge d_X5_readWomen_4 (by omega) (by omega) (fun c4 => ?_) (fun c4 => ?_)
    · refine r_vret d_X5_readWomen_106 rfl ?_
      rw [hQ]
      exact ⟨rfl, rfl, rfl, rfl, f, fk, Or.inl ⟨p1, hP1, hb1⟩⟩
    · refine r_aload_n d_X5_readWomen_7 rfl ?_
      refine r_geti d_X5_readWomen_8 f_X5_31 (tt_4 _ _) (by decide) (by decide) ?_
      rw [h5]
      refine r_if_ne d_X5_readWomen_11 (by omega) (fun c11 => ?_) (fun c11 => absurd c11 (by decide))
      refine r_vret d_X5_readWomen_106 rfl ?_
      rw [hQ]
      exact ⟨rfl, rfl, rfl, rfl, f, fk, Or.inl ⟨p1, hP1, hb1⟩⟩
  have step : ∀ (w : Nat) (I1 : sI) (p1 : Nat) (D1 : Sg), w < 3 → PGX pg len false p1 I1 → runA pg D0 p1 = some D1 → D1 20 7 = 10 → D1 20 1 = (w : Int) → RDX D1 hb nr I1 → WDX D1 hb w I1 → D1 20 0 = D 20 0 → D1 20 2 = D 20 2 → FH hb I I1 → (∀ k, k ≠ 4 → I1 hb k = I hb k) → (w + 1 < 3 → ∀ (I2 : sI) (p2 : Nat) (D2 : Sg), PGX pg len false p2 I2 → runA pg D0 p2 = some D2 → D2 20 7 = 10 → D2 20 1 = ((w + 1 : Nat) : Int) → RDX D2 hb nr I2 → WDX D2 hb (w + 1) I2 → D2 20 0 = D 20 0 → D2 20 2 = D 20 2 → FH hb I I2 → (∀ k, k ≠ 4 → I2 hb k = I hb k) → Cp g 3 m_X5_readWomen 0 0 Q 2 [(0, vr 4), (1, vr hb), (2, vi ((w + 1 : Nat) : Int))] [] (TT Ls tl) I2 L (RR tl)) → Cp g 3 m_X5_readWomen 0 0 Q 2 [(0, vr 4), (1, vr hb), (2, vi (w : Int))] [] (TT Ls tl) I1 L (RR tl) := by
    intro w I1 p1 D1 hw hP1 hA1 a7 a1 hR1 hW1 a0 a2 f fk next
    obtain ⟨LS, hLS⟩ : ∃ LS : List (Nat × sV), LS = [(0, vr 4), (1, vr hb), (2, vi (w : Int)), (3, vr (hb + 11 + w))] := ⟨_, rfl⟩
    have h5 : I1 4 3 = 0 := hP1.2.2.2.2.1
    have ts67 : ∀ (I2 : sI) (p2 : Nat), PGX pg len true p2 I2 → badA pg len D0 p2 → FH hb I I2 → (∀ k, k ≠ 4 → I2 hb k = I hb k) → Cp g 3 m_X5_readWomen 0 0 Q 67 LS [] (TT Ls tl) I2 L (RR tl) := by
      intro I2 p2 hP2 hb2 f2 fk2
      rw [hLS]
      have hP3 : PGX pg len true p2 (up2 I2 hb 4 ((w : Int) + 1)) := PGX_up hP2 (by omega)
      have f3 : FH hb I (up2 I2 hb 4 ((w : Int) + 1)) := FH_up hh f2 (by omega)
      have fk3 : ∀ k, k ≠ 4 → up2 I2 hb 4 ((w : Int) + 1) hb k = I hb k := fun k h4 => by rw [up2_nj _ _ h4]; exact fk2 k h4
      by_cases k8 : w + 1 < 3
      · skip
        refine r_aload_n d_X5_readWomen_67 rfl ?_
        refine r_iload_n d_X5_readWomen_68 rfl ?_
        refine r_iconst d_X5_readWomen_69 ?_
        refine r_iadd d_X5_readWomen_70 ?_
        refine r_puti d_X5_readWomen_71 f_X5_96 (th_0 _ _ hh) (by decide) (Or.inl rfl) ?_
        refine r_aload_n d_X5_readWomen_74 rfl ?_
        refine r_bipush d_X5_readWomen_75 (by decide) ?_
        refine r_V1i d_X5_readWomen_77 (w_X5_60 _ rfl) (tt_4 _ _) rfl rfl (c_takes hP3 (by omega)) (by decide) (Nat.le_of_ble_eq_true rfl) (fun z77 T77 I77 L77 R77 h77 => ?_)
        obtain ⟨rfl, rfl, rfl, rfl, y1, y3⟩ := h77
        rw [tk_st, if_neg (by decide)] at y3
        refine r_if_eq d_X5_readWomen_80 (by rw [tk_st, if_neg (by decide)]; omega) (fun c80 => ?_) (fun c80 => absurd c80 (by rw [tk_st, if_neg (by decide)]; decide))
        refine r_aload_n d_X5_readWomen_84 rfl ?_
        refine r_iload_n d_X5_readWomen_85 rfl ?_
        refine r_iconst d_X5_readWomen_86 ?_
        refine r_iadd d_X5_readWomen_87 ?_
        refine r_iconst d_X5_readWomen_88 ?_
        refine r_icmp_ge d_X5_readWomen_89 (by omega) (by omega) (fun c89 => absurd c89 (by omega)) (fun c89 => ?_)
        refine r_iconst d_X5_readWomen_92 ?_
        refine r_goto d_X5_readWomen_93 ?_
        refine r_V1v d_X5_readWomen_97 (w_X5_64 _ rfl) (tt_4 _ _) rfl rfl (c_needsAnother (b := true) y3) (by decide) (Nat.le_of_ble_eq_true rfl) (fun T97 I97 L97 R97 h97 => ?_)
        obtain ⟨rfl, rfl, rfl, w1, w3⟩ := h97
        rw [tk_st, Bool.and_false, if_neg (by decide)] at w3
        refine r_iinc d_X5_readWomen_100 rfl (by decide) ?_
        refine r_goto d_X5_readWomen_103 ?_
        exact CpL (ls I97 (w + 1) p2 (by omega) w3 hb2 (FH_pg (FH_pg f3 y1) w1) (fun k h4 => by rw [w1.1 hb (by omega), y1.1 hb (by omega)]; exact fk3 k h4)) (by repeat (first | exact trivial | refine ⟨rfl, ?_⟩))
      · skip
        refine r_aload_n d_X5_readWomen_67 rfl ?_
        refine r_iload_n d_X5_readWomen_68 rfl ?_
        refine r_iconst d_X5_readWomen_69 ?_
        refine r_iadd d_X5_readWomen_70 ?_
        refine r_puti d_X5_readWomen_71 f_X5_96 (th_0 _ _ hh) (by decide) (Or.inl rfl) ?_
        refine r_aload_n d_X5_readWomen_74 rfl ?_
        refine r_bipush d_X5_readWomen_75 (by decide) ?_
        refine r_V1i d_X5_readWomen_77 (w_X5_60 _ rfl) (tt_4 _ _) rfl rfl (c_takes hP3 (by omega)) (by decide) (Nat.le_of_ble_eq_true rfl) (fun z77 T77 I77 L77 R77 h77 => ?_)
        obtain ⟨rfl, rfl, rfl, rfl, y1, y3⟩ := h77
        rw [tk_st, if_neg (by decide)] at y3
        refine r_if_eq d_X5_readWomen_80 (by rw [tk_st, if_neg (by decide)]; omega) (fun c80 => ?_) (fun c80 => absurd c80 (by rw [tk_st, if_neg (by decide)]; decide))
        refine r_aload_n d_X5_readWomen_84 rfl ?_
        refine r_iload_n d_X5_readWomen_85 rfl ?_
        refine r_iconst d_X5_readWomen_86 ?_
        refine r_iadd d_X5_readWomen_87 ?_
        refine r_iconst d_X5_readWomen_88 ?_
        refine r_icmp_ge d_X5_readWomen_89 (by omega) (by omega) (fun c89 => ?_) (fun c89 => absurd c89 (by omega))
        refine r_iconst d_X5_readWomen_96 ?_
        refine r_V1v d_X5_readWomen_97 (w_X5_64 _ rfl) (tt_4 _ _) rfl rfl (c_needsAnother (b := false) y3) (by decide) (Nat.le_of_ble_eq_true rfl) (fun T97 I97 L97 R97 h97 => ?_)
        obtain ⟨rfl, rfl, rfl, w1, w3⟩ := h97
        rw [Bool.false_and, if_neg (by decide)] at w3
        refine r_iinc d_X5_readWomen_100 rfl (by decide) ?_
        refine r_goto d_X5_readWomen_103 ?_
        exact CpL (ls I97 (w + 1) p2 (by omega) w3 hb2 (FH_pg (FH_pg f3 y1) w1) (fun k h4 => by rw [w1.1 hb (by omega), y1.1 hb (by omega)]; exact fk3 k h4)) (by repeat (first | exact trivial | refine ⟨rfl, ?_⟩))
    have ts53 : ∀ (I2 : sI) (p2 : Nat), PGX pg len true p2 I2 → badA pg len D0 p2 → FH hb I I2 → (∀ k, k ≠ 4 → I2 hb k = I hb k) → (0 ≤ I2 (hb + 11 + w) 1 ∧ I2 (hb + 11 + w) 1 ≤ 40) → Cp g 3 m_X5_readWomen 0 0 Q 53 LS [] (TT Ls tl) I2 L (RR tl) := by
      intro I2 p2 hP2 hb2 f2 fk2 h1
      rw [hLS]
      refine r_aload_n d_X5_readWomen_53 rfl ?_
      refine r_iconst d_X5_readWomen_54 ?_
      refine r_aload_n d_X5_readWomen_55 rfl ?_
      refine r_aload_n d_X5_readWomen_56 rfl ?_
      refine r_iconst d_X5_readWomen_57 ?_
      refine r_ialdJ (j := 1) d_X5_readWomen_58 (th2_10 _ _ hh hw) rfl (by omega) (kk := ?_)
      refine r_iconst d_X5_readWomen_59 ?_
      refine r_iadd d_X5_readWomen_60 ?_
      refine r_bipush d_X5_readWomen_61 (by decide) ?_
      refine r_V2i d_X5_readWomen_63 (w_X5_84 _ rfl) (tt_4 _ _) rfl rfl (c_number hP2 (by omega) (by omega)) (by decide) (Nat.le_of_ble_eq_true rfl) (fun z63 T63 I63 L63 R63 h63 => ?_)
      obtain ⟨rfl, rfl, rfl, y1, y2, y3⟩ := h63
      rw [nm_st] at y3
      refine r_iastJ (j := 2) d_X5_readWomen_66 (th2_10 _ _ hh hw) (by omega) rfl (by omega) (kk := ?_)
      rw [← hLS]
      exact ts67 _ p2 (PGX_up y3 (by omega)) hb2 (FH_up hh (FH_pg f2 y1) (by omega)) (fun k h4 => by rw [up2_ne _ _ (by omega), y1.1 hb (by omega)]; exact fk2 k h4)
    have ts47 : ∀ (I2 : sI) (p2 : Nat), PGX pg len true p2 I2 → badA pg len D0 p2 → FH hb I I2 → (∀ k, k ≠ 4 → I2 hb k = I hb k) → (0 ≤ I2 (hb + 11 + w) 1 ∧ I2 (hb + 11 + w) 1 ≤ 40) → Cp g 3 m_X5_readWomen 0 0 Q 47 LS [] (TT Ls tl) I2 L (RR tl) := by
      intro I2 p2 hP2 hb2 f2 fk2 h1
      rw [hLS]
      refine r_aload_n d_X5_readWomen_47 rfl ?_
      refine r_bipush d_X5_readWomen_48 (by decide) ?_
      refine r_V1v d_X5_readWomen_50 (w_X5_80 _ rfl) (tt_4 _ _) rfl rfl (c_needs hP2 (by omega)) (by decide) (Nat.le_of_ble_eq_true rfl) (fun T50 I50 L50 R50 h50 => ?_)
      obtain ⟨rfl, rfl, rfl, y1, y3⟩ := h50
      rw [tk_st, if_neg (by decide)] at y3
      rw [← hLS]
      exact ts53 _ p2 y3 hb2 (FH_pg f2 y1) (fun k h4 => by rw [y1.1 hb (by omega)]; exact fk2 k h4) (by rw [y1.1 _ (by omega)]; exact h1)
    have ts37 : ∀ (I2 : sI) (p2 : Nat), PGX pg len true p2 I2 → badA pg len D0 p2 → FH hb I I2 → (∀ k, k ≠ 4 → I2 hb k = I hb k) → Cp g 3 m_X5_readWomen 0 0 Q 37 LS [] (TT Ls tl) I2 L (RR tl) := by
      intro I2 p2 hP2 hb2 f2 fk2
      rw [hLS]
      refine r_aload_n d_X5_readWomen_37 rfl ?_
      refine r_iconst d_X5_readWomen_38 ?_
      refine r_aload_n d_X5_readWomen_39 rfl ?_
      refine r_iconst d_X5_readWomen_40 ?_
      refine r_bipush d_X5_readWomen_41 (by decide) ?_
      refine r_V2i d_X5_readWomen_43 (w_X5_84 _ rfl) (tt_4 _ _) rfl rfl (c_number hP2 (by omega) (by omega)) (by decide) (Nat.le_of_ble_eq_true rfl) (fun z43 T43 I43 L43 R43 h43 => ?_)
      obtain ⟨rfl, rfl, rfl, y1, y2, y3⟩ := h43
      rw [nm_st] at y3 y2
      refine r_iastJ (j := 1) d_X5_readWomen_46 (th2_10 _ _ hh hw) (by omega) rfl (by omega) (kk := ?_)
      rw [← hLS]
      exact ts47 _ p2 (PGX_up y3 (by omega)) hb2 (FH_up hh (FH_pg f2 y1) (by omega)) (fun k h4 => by rw [up2_ne _ _ (by omega), y1.1 hb (by omega)]; exact fk2 k h4) (by rw [up2_at, y2]; show (0 : Int) ≤ 0 ∧ (0 : Int) ≤ 40; omega)
    have ts31 : ∀ (I2 : sI) (p2 : Nat), PGX pg len true p2 I2 → badA pg len D0 p2 → FH hb I I2 → (∀ k, k ≠ 4 → I2 hb k = I hb k) → Cp g 3 m_X5_readWomen 0 0 Q 31 LS [] (TT Ls tl) I2 L (RR tl) := by
      intro I2 p2 hP2 hb2 f2 fk2
      rw [hLS]
      refine r_aload_n d_X5_readWomen_31 rfl ?_
      refine r_bipush d_X5_readWomen_32 (by decide) ?_
      refine r_V1v d_X5_readWomen_34 (w_X5_80 _ rfl) (tt_4 _ _) rfl rfl (c_needs hP2 (by omega)) (by decide) (Nat.le_of_ble_eq_true rfl) (fun T34 I34 L34 R34 h34 => ?_)
      obtain ⟨rfl, rfl, rfl, y1, y3⟩ := h34
      rw [tk_st, if_neg (by decide)] at y3
      rw [← hLS]
      exact ts37 _ p2 y3 hb2 (FH_pg f2 y1) (fun k h4 => by rw [y1.1 hb (by omega)]; exact fk2 k h4)
    -- it goes on
    have rK : ∀ {D2 : Sg} {I2 : sI}, chA (fun k => 7 ≤ k ∧ k < 10) D1 D2 w → D2 20 3 = D1 20 3 → (∀ a, a ≠ 4 → a ≠ hb → a ≠ hb + 11 + w → I2 a = I1 a) → (∀ k, k ≠ 4 → I2 hb k = I1 hb k) → RDX D2 hb nr I2 := fun hc h3 o oh => RDX_D (RDX_I hR1 (fun i _ => o _ (by omega) (by omega) (by omega)) (o _ (by omega) (by omega) (by omega)) (oh 6 (by decide))) (fun k i hk _ => hc k i (by omega) (fun q => by have := q.1.1; omega)) h3
    have wK : ∀ {D2 : Sg} {I2 : sI}, chA (fun k => 7 ≤ k ∧ k < 10) D1 D2 w → (∀ a, a ≠ 4 → a ≠ hb → a ≠ hb + 11 + w → I2 a = I1 a) → WDX D2 hb w I2 := fun hc o => WDX_D (WDX_I hW1 (fun i _ => o _ (by omega) (by omega) (by omega))) (fun k i h1 h2 h3 => hc k i (by omega) (fun q => by have := q.2; omega))
    have t67 : ∀ (I2 : sI) (p2 : Nat) (D2 : Sg), PGX pg len false p2 I2 → runA pg D0 p2 = some D2 → FH hb I I2 → (∀ a, a ≠ 4 → a ≠ hb + 11 + w → I2 a = I1 a) → chA (fun k => 7 ≤ k ∧ k < 10) D1 D2 w → D2 20 7 = 14 → D2 20 1 = (w : Int) + 1 → D2 20 3 = D1 20 3 → D2 20 0 = D1 20 0 → D2 20 2 = D1 20 2 → D2 20 5 ≤ D2 20 4 → (0 ≤ D2 20 4 ∧ D2 20 4 ≤ 44) → (p2 < len → ftA D2 (pg p2) = false) → I2 (hb + 11 + w) 0 = D2 7 w → I2 (hb + 11 + w) 1 = D2 8 w → I2 (hb + 11 + w) 2 = D2 20 4 → (1 ≤ D2 7 w ∧ D2 7 w ≤ 6) → (0 ≤ D2 8 w ∧ D2 8 w ≤ 40) → Cp g 3 m_X5_readWomen 0 0 Q 67 LS [] (TT Ls tl) I2 L (RR tl) := by
      intro I2 p2 D2 hP2 hA2 f2 o hch b7 b1 b3 b0 b2 b5 b4 hnf r0 r1 r2 d7 d8
      rw [hLS]
      obtain ⟨J, hJ⟩ : ∃ J, J = up2 I2 hb 4 ((w : Int) + 1) := ⟨_, rfl⟩
      have hPJ : PGX pg len false p2 J := by rw [hJ]; exact PGX_up hP2 (by omega)
      have fJ : FH hb I J := by rw [hJ]; exact FH_up hh f2 (by omega)
      have oJ : ∀ a, a ≠ 4 → a ≠ hb → a ≠ hb + 11 + w → J a = I1 a := fun a h1 h2 h3 => by rw [hJ, up2_ne _ _ h2]; exact o a h1 h3
      have kJ : ∀ k, k ≠ 4 → J hb k = I1 hb k := fun k hk => by rw [hJ, up2_nj _ _ hk, o hb (by omega) (by omega)]
      have J4 : J hb 4 = (w : Int) + 1 := by rw [hJ, up2_at]
      have Jr : J (hb + 11 + w) = I2 (hb + 11 + w) := by rw [hJ]; exact up2_ne _ _ (by omega)
      obtain ⟨E, hE⟩ : ∃ E, E = up2 D2 9 w (D2 20 4) := ⟨_, rfl⟩
      have hchE : chA (fun k => 7 ≤ k ∧ k < 10) D1 E w := by rw [hE]; exact chA_up hch (by omega)
      have E20 : ∀ i, E 20 i = D2 20 i := fun i => by rw [hE, up_20 (by decide)]
      have E9 : E 9 w = D2 20 4 := by rw [hE, up2_at]
      have Ek : ∀ k, k ≠ 9 → E k w = D2 k w := fun k h => by rw [hE, up2_ne _ _ h]
      have hm : p2 < len → mstA D2 (pg p2) = if pg p2 = 44 then (if D2 20 1 < 3 then some (scA E 7 10) else none) else if pg p2 = 59 then some (scA (bgA E 0 44) 7 20) else none := fun hl => by
        rw [mst_end (by unfold NSA; omega) (hnf hl) (by omega)]
        unfold endA
        rw [if_neg (by omega), if_neg (by omega), if_pos b7, lc_of b1, ← hE]
      have rowE : ∀ (I3 : sI), (∀ a, a ≠ 4 → I3 a = J a) → WDX E hb (w + 1) I3 := fun I3 o3 i hi => by
        by_cases e : i = w
        · subst e
          rw [o3 _ (by omega), Jr]
          refine ⟨fun k hk => ?_, ?_⟩
          · rcases (show k = 0 ∨ k = 1 ∨ k = 2 by omega) with rfl | rfl | rfl
            · rw [r0, Ek 7 (by decide)]
            · rw [r1, Ek 8 (by decide)]
            · rw [r2, E9]
          · unfold WV
            rw [Ek 7 (by decide), Ek 8 (by decide), E9]
            exact ⟨d7, d8, b4⟩
        · rw [o3 _ (by omega)]
          exact wK hchE (fun a h1 h2 h3 => oJ a h1 h2 h3) i (by omega)
      have rooE : ∀ (I3 : sI), (∀ a, a ≠ 4 → I3 a = J a) → RDX E hb nr I3 := fun I3 o3 => rK hchE (by rw [E20]; exact b3) (fun a h1 h2 h3 => by rw [o3 a h1]; exact oJ a h1 h2 h3) (fun k hk => by rw [o3 hb (by omega)]; exact kJ k hk)
      have htk := c_takes (g := g) (Ls := Ls) (tl := tl) (L := L) hPJ (c := 59) (by omega)
      cases ht : tkS pg len false p2 59 with
      | true =>
        rw [ht, if_pos rfl, if_pos rfl] at htk
        obtain ⟨-, t1, t2⟩ := decide_eq_true_iff.mp ht
        refine r_aload_n d_X5_readWomen_67 rfl ?_
        refine r_iload_n d_X5_readWomen_68 rfl ?_
        refine r_iconst d_X5_readWomen_69 ?_
        refine r_iadd d_X5_readWomen_70 ?_
        refine r_puti d_X5_readWomen_71 f_X5_96 (th_0 _ _ hh) (by decide) (Or.inl rfl) ?_
        rw [← hJ]
        refine r_aload_n d_X5_readWomen_74 rfl ?_
        refine r_bipush d_X5_readWomen_75 (by decide) ?_
        refine r_V1i d_X5_readWomen_77 (w_X5_60 _ rfl) (tt_4 _ _) rfl rfl (htk) (by decide) (Nat.le_of_ble_eq_true rfl) (fun z77 T77 I77 L77 R77 h77 => ?_)
        obtain ⟨rfl, rfl, rfl, rfl, y1, y3⟩ := h77
        refine r_if_eq d_X5_readWomen_80 (by omega) (fun c80 => absurd c80 (by decide)) (fun c80 => ?_)
        refine r_vret d_X5_readWomen_83 rfl ?_
        rw [hQ]
        have Go : ∀ i, i ≠ 7 → i ≠ 4 → i ≠ 5 → i ≠ 6 → scA (bgA E 0 44) 7 20 20 i = D2 20 i := fun i h7 h4 h5 h6 => by rw [sc_nj h7, bg_o h4 h5 h6, E20]
        refine ⟨rfl, rfl, rfl, rfl, FH_pg fJ y1, fun k h4 => by rw [y1.1 hb (by omega), kJ k h4]; exact fk k h4, Or.inr ⟨p2 + 1, w + 1, scA (bgA E 0 44) 7 20, y3, run_suc hA2 (by rw [hm t1, if_neg (by omega), if_pos t2]), sc_at, by rw [sc_nj (by decide), bg_4], by rw [sc_nj (by decide), bg_5], by rw [sc_nj (by decide), bg_6], by rw [Go 0 (by decide) (by decide) (by decide) (by decide), b0]; exact a0, by rw [Go 1 (by decide) (by decide) (by decide) (by decide), b1]; omega, by omega, ?_, ?_, by rw [y1.1 hb (by omega), J4]; omega, by rw [Go 2 (by decide) (by decide) (by decide) (by decide), b2]; exact a2⟩⟩
        · exact RDX_D (rooE _ y1.1) (fun k i hk _ => by rw [sc_ne (by omega), bg_k (by omega)]) (by rw [sc_nj (by decide), bg_o (by decide) (by decide) (by decide)])
        · exact WDX_D (rowE _ y1.1) (fun k i h1 h2 _ => by rw [sc_ne (by omega), bg_k (by omega)])
      | false =>
        rw [ht, if_neg (by decide), if_neg (by decide)] at htk
        have n59 : p2 < len → pg p2 ≠ 59 := fun hl q => of_decide_eq_false ht ⟨rfl, hl, q⟩
        by_cases k8 : w + 1 < 3
        · skip
          refine r_aload_n d_X5_readWomen_67 rfl ?_
          refine r_iload_n d_X5_readWomen_68 rfl ?_
          refine r_iconst d_X5_readWomen_69 ?_
          refine r_iadd d_X5_readWomen_70 ?_
          refine r_puti d_X5_readWomen_71 f_X5_96 (th_0 _ _ hh) (by decide) (Or.inl rfl) ?_
          rw [← hJ]
          refine r_aload_n d_X5_readWomen_74 rfl ?_
          refine r_bipush d_X5_readWomen_75 (by decide) ?_
          refine r_V1i d_X5_readWomen_77 (w_X5_60 _ rfl) (tt_4 _ _) rfl rfl (htk) (by decide) (Nat.le_of_ble_eq_true rfl) (fun z77 T77 I77 L77 R77 h77 => ?_)
          obtain ⟨rfl, rfl, rfl, rfl, y1, y3⟩ := h77
          refine r_if_eq d_X5_readWomen_80 (by omega) (fun c80 => ?_) (fun c80 => absurd c80 (by decide))
          refine r_aload_n d_X5_readWomen_84 rfl ?_
          refine r_iload_n d_X5_readWomen_85 rfl ?_
          refine r_iconst d_X5_readWomen_86 ?_
          refine r_iadd d_X5_readWomen_87 ?_
          refine r_iconst d_X5_readWomen_88 ?_
          refine r_icmp_ge d_X5_readWomen_89 (by omega) (by omega) (fun c89 => absurd c89 (by omega)) (fun c89 => ?_)
          refine r_iconst d_X5_readWomen_92 ?_
          refine r_goto d_X5_readWomen_93 ?_
          refine r_V1v d_X5_readWomen_97 (w_X5_64 _ rfl) (tt_4 _ _) rfl rfl (c_needsAnother (b := true) y3) (by decide) (Nat.le_of_ble_eq_true rfl) (fun T97 I97 L97 R97 h97 => ?_)
          obtain ⟨rfl, rfl, rfl, w1, w3⟩ := h97
          refine r_iinc d_X5_readWomen_100 rfl (by decide) ?_
          refine r_goto d_X5_readWomen_103 ?_
          rw [Bool.true_and] at w3
          have f5 := FH_pg (FH_pg fJ y1) w1
          have o5 : ∀ a, a ≠ 4 → I97 a = J a := fun a ha => by rw [w1.1 a ha, y1.1 a ha]
          have fk5 : ∀ k, k ≠ 4 → I97 hb k = I hb k := fun k h4 => by rw [o5 hb (by omega), kJ k h4]; exact fk k h4
          cases ht2 : tkS pg len false p2 44 with
          | true =>
            rw [ht2, if_pos rfl] at w3
            obtain ⟨-, t1, t2⟩ := decide_eq_true_iff.mp ht2
            exact CpL (next k8 I97 (p2 + 1) (scA E 7 10) w3 (run_suc hA2 (by rw [hm t1, if_pos t2, if_pos (by omega)])) sc_at (by rw [sc_nj (by decide), E20, b1]; omega) (RDX_sc (rooE _ o5)) (WDX_D (rowE _ o5) (fun k i h1 h2 _ => by rw [sc_ne (by omega)])) (by rw [sc_nj (by decide), E20, b0]; exact a0) (by rw [sc_nj (by decide), E20, b2]; exact a2) f5 fk5) (by repeat (first | exact trivial | refine ⟨rfl, ?_⟩))
          | false =>
            rw [ht2, if_neg (by decide)] at w3
            refine CpL (ls I97 (w + 1) p2 (by omega) w3 (bad_of hA2 hP2.2.2.2.1 (by omega) (fun hl => ?_)) f5 fk5) (by repeat (first | exact trivial | refine ⟨rfl, ?_⟩))
            rw [hm hl, if_neg (fun q => of_decide_eq_false ht2 ⟨rfl, hl, q⟩), if_neg (n59 hl)]
        · skip
          refine r_aload_n d_X5_readWomen_67 rfl ?_
          refine r_iload_n d_X5_readWomen_68 rfl ?_
          refine r_iconst d_X5_readWomen_69 ?_
          refine r_iadd d_X5_readWomen_70 ?_
          refine r_puti d_X5_readWomen_71 f_X5_96 (th_0 _ _ hh) (by decide) (Or.inl rfl) ?_
          rw [← hJ]
          refine r_aload_n d_X5_readWomen_74 rfl ?_
          refine r_bipush d_X5_readWomen_75 (by decide) ?_
          refine r_V1i d_X5_readWomen_77 (w_X5_60 _ rfl) (tt_4 _ _) rfl rfl (htk) (by decide) (Nat.le_of_ble_eq_true rfl) (fun z77 T77 I77 L77 R77 h77 => ?_)
          obtain ⟨rfl, rfl, rfl, rfl, y1, y3⟩ := h77
          refine r_if_eq d_X5_readWomen_80 (by omega) (fun c80 => ?_) (fun c80 => absurd c80 (by decide))
          refine r_aload_n d_X5_readWomen_84 rfl ?_
          refine r_iload_n d_X5_readWomen_85 rfl ?_
          refine r_iconst d_X5_readWomen_86 ?_
          refine r_iadd d_X5_readWomen_87 ?_
          refine r_iconst d_X5_readWomen_88 ?_
          refine r_icmp_ge d_X5_readWomen_89 (by omega) (by omega) (fun c89 => ?_) (fun c89 => absurd c89 (by omega))
          refine r_iconst d_X5_readWomen_96 ?_
          refine r_V1v d_X5_readWomen_97 (w_X5_64 _ rfl) (tt_4 _ _) rfl rfl (c_needsAnother (b := false) y3) (by decide) (Nat.le_of_ble_eq_true rfl) (fun T97 I97 L97 R97 h97 => ?_)
          obtain ⟨rfl, rfl, rfl, w1, w3⟩ := h97
          rw [Bool.false_and, if_neg (by decide)] at w3
          refine r_iinc d_X5_readWomen_100 rfl (by decide) ?_
          refine r_goto d_X5_readWomen_103 ?_
          refine CpL (ls I97 (w + 1) p2 (by omega) w3 (bad_of hA2 hP2.2.2.2.1 (by omega) (fun hl => ?_)) (FH_pg (FH_pg fJ y1) w1) (fun k h4 => by rw [w1.1 hb (by omega), y1.1 hb (by omega), kJ k h4]; exact fk k h4)) (by repeat (first | exact trivial | refine ⟨rfl, ?_⟩))
          rw [hm hl, if_neg (show ¬ D2 20 1 < 3 by omega), if_neg (n59 hl)]
          split <;> rfl
    have t53 : ∀ (I2 : sI) (p2 : Nat) (D2 : Sg), PGX pg len false p2 I2 → runA pg D0 p2 = some D2 → FH hb I I2 → (∀ a, a ≠ 4 → a ≠ hb + 11 + w → I2 a = I1 a) → chA (fun k => 7 ≤ k ∧ k < 10) D1 D2 w → D2 20 7 = 14 → D2 20 1 = (w : Int) + 1 → D2 20 3 = D1 20 3 → D2 20 0 = D1 20 0 → D2 20 2 = D1 20 2 → D2 20 4 = -1 → D2 20 5 = D2 8 w + 1 → D2 20 6 = 44 → I2 (hb + 11 + w) 0 = D2 7 w → I2 (hb + 11 + w) 1 = D2 8 w → (1 ≤ D2 7 w ∧ D2 7 w ≤ 6) → (0 ≤ D2 8 w ∧ D2 8 w ≤ 40) → Cp g 3 m_X5_readWomen 0 0 Q 53 LS [] (TT Ls tl) I2 L (RR tl) := by
      intro I2 p2 D2 hP2 hA2 f2 o hch b7 b1 b3 b0 b2 b4 b5 b6 r0 r1 d7 d8
      rw [hLS]
      have hnum := num_run (pg := pg) (len := len) (lo := D2 8 w + 1) (hi := 44) hA2 hP2.2.2.2.1 (by unfold NSA; omega) b4 b5 b6 (by omega)
      refine r_aload_n d_X5_readWomen_53 rfl ?_
      refine r_iconst d_X5_readWomen_54 ?_
      refine r_aload_n d_X5_readWomen_55 rfl ?_
      refine r_aload_n d_X5_readWomen_56 rfl ?_
      refine r_iconst d_X5_readWomen_57 ?_
      refine r_ialdJ (j := 1) d_X5_readWomen_58 (th2_10 _ _ hh hw) rfl (by omega) (kk := ?_)
      rw [r1]
      refine r_iconst d_X5_readWomen_59 ?_
      refine r_iadd d_X5_readWomen_60 ?_
      refine r_bipush d_X5_readWomen_61 (by decide) ?_
      refine r_V2i d_X5_readWomen_63 (w_X5_84 _ rfl) (tt_4 _ _) rfl rfl (c_number (lo := D2 8 w + 1) (hi := 44) hP2 (by omega) (by omega)) (by decide) (Nat.le_of_ble_eq_true rfl) (fun z63 T63 I63 L63 R63 h63 => ?_)
      obtain ⟨rfl, rfl, rfl, y1, y2, y3⟩ := h63
      refine r_iastJ (j := 2) d_X5_readWomen_66 (th2_10 _ _ hh hw) (by omega) rfl (by omega) (kk := ?_)
      rw [← hLS]
      obtain ⟨N, hN⟩ : ∃ N, N = nmS pg len false p2 (D2 8 w + 1) 44 := ⟨_, rfl⟩
      rw [← hN] at hnum y2 y3
      have oL : ∀ (a : Nat), a ≠ 4 → a ≠ hb + 11 + w → up2 I63 (hb + 11 + w) 2 z63 a = I1 a := fun a h4 h5 => by rw [up2_ne _ _ h5, y1.1 a h4]; exact o a h4 h5
      cases hst : N.1 with
      | true =>
        rw [hst] at y3
        exact ts67 _ _ (PGX_up y3 (by omega)) (hnum.1 hst) (FH_up hh (FH_pg f2 y1) (by omega)) (fun k h4 => by rw [oL hb (by omega) (by omega)]; exact fk k h4)
      | false =>
        obtain ⟨n1, n2, n3, n4⟩ := hnum.2 hst
        rw [hst] at y3
        refine t67 _ _ _ (PGX_up y3 (by omega)) n2 (FH_up hh (FH_pg f2 y1) (by omega)) oL (chA_sc hch) (by rw [sc_nj (by decide)]; exact b7) (by rw [sc_nj (by decide)]; exact b1) (by rw [sc_nj (by decide)]; exact b3) (by rw [sc_nj (by decide)]; exact b0) (by rw [sc_nj (by decide)]; exact b2) (by rw [sc_nj (by decide), sc_at, b5]; exact n3.1) (by rw [sc_at]; omega) n4 ?_ ?_ (by rw [up2_at, sc_at]; exact y2) ?_ ?_
        · rw [up2_nj _ _ (by decide), y1.1 _ (by omega), sc_ne (by decide)]; exact r0
        · rw [up2_nj _ _ (by decide), y1.1 _ (by omega), sc_ne (by decide)]; exact r1
        · rw [sc_ne (by decide)]; exact d7
        · rw [sc_ne (by decide)]; exact d8
    have t47 : ∀ (I2 : sI) (p2 : Nat) (D2 : Sg), PGX pg len false p2 I2 → runA pg D0 p2 = some D2 → FH hb I I2 → (∀ a, a ≠ 4 → a ≠ hb + 11 + w → I2 a = I1 a) → chA (fun k => 7 ≤ k ∧ k < 10) D1 D2 w → D2 20 7 = 12 → D2 20 1 = (w : Int) + 1 → D2 20 3 = D1 20 3 → D2 20 0 = D1 20 0 → D2 20 2 = D1 20 2 → D2 20 5 = 0 → (0 ≤ D2 20 4 ∧ D2 20 4 ≤ 40) → (p2 < len → ftA D2 (pg p2) = false) → I2 (hb + 11 + w) 0 = D2 7 w → I2 (hb + 11 + w) 1 = D2 20 4 → (1 ≤ D2 7 w ∧ D2 7 w ≤ 6) → Cp g 3 m_X5_readWomen 0 0 Q 47 LS [] (TT Ls tl) I2 L (RR tl) := by
      intro I2 p2 D2 hP2 hA2 f2 o hch b7 b1 b3 b0 b2 b5 b4 hnf r0 r1 d7
      rw [hLS]
      have hm : p2 < len → mstA D2 (pg p2) = if pg p2 = 116 then some (scA (bgA (up2 D2 8 w (D2 20 4)) (D2 20 4 + 1) 44) 7 14) else none := fun hl => by
        rw [mst_end (by unfold NSA; omega) (hnf hl) (by omega)]
        unfold endA
        rw [if_neg (by omega), if_pos b7, lc_of b1]
      refine r_aload_n d_X5_readWomen_47 rfl ?_
      refine r_bipush d_X5_readWomen_48 (by decide) ?_
      refine r_V1v d_X5_readWomen_50 (w_X5_80 _ rfl) (tt_4 _ _) rfl rfl (c_needs hP2 (by omega)) (by decide) (Nat.le_of_ble_eq_true rfl) (fun T50 I50 L50 R50 h50 => ?_)
      obtain ⟨rfl, rfl, rfl, y1, y3⟩ := h50
      rw [← hLS]
      have oL : ∀ (a : Nat), a ≠ 4 → a ≠ hb + 11 + w → I50 a = I1 a := fun a h4 h5 => by rw [y1.1 a h4]; exact o a h4 h5
      cases ht : tkS pg len false p2 116 with
      | true =>
        rw [ht, if_pos rfl] at y3
        obtain ⟨-, t1, t2⟩ := decide_eq_true_iff.mp ht
        obtain ⟨E, hE⟩ : ∃ E, E = scA (bgA (up2 D2 8 w (D2 20 4)) (D2 20 4 + 1) 44) 7 14 := ⟨_, rfl⟩
        have Go : ∀ i, i ≠ 7 → i ≠ 4 → i ≠ 5 → i ≠ 6 → E 20 i = D2 20 i := fun i h7 h4 h5 h6 => by rw [hE, sc_nj h7, bg_o h4 h5 h6, up_20 (by decide)]
        have E8 : E 8 w = D2 20 4 := by rw [hE, sc_ne (by decide), bg_k (by decide), up2_at]
        have E7 : E 7 w = D2 7 w := by rw [hE, sc_ne (by decide), bg_k (by decide), up2_ne _ _ (by decide)]
        exact t53 I50 (p2 + 1) E y3 (run_suc hA2 (by rw [hm t1, if_pos t2, hE])) (FH_pg f2 y1) oL (by rw [hE]; exact chA_sc (chA_bg (chA_up hch (by omega)))) (by rw [hE, sc_at]) (by rw [Go 1 (by decide) (by decide) (by decide) (by decide)]; exact b1) (by rw [Go 3 (by decide) (by decide) (by decide) (by decide)]; exact b3) (by rw [Go 0 (by decide) (by decide) (by decide) (by decide)]; exact b0) (by rw [Go 2 (by decide) (by decide) (by decide) (by decide)]; exact b2) (by rw [hE, sc_nj (by decide), bg_4]) (by rw [E8, hE, sc_nj (by decide), bg_5]) (by rw [hE, sc_nj (by decide), bg_6]) (by rw [y1.1 _ (by omega), E7]; exact r0) (by rw [y1.1 _ (by omega), E8]; exact r1) (by rw [E7]; exact d7) (by rw [E8]; exact b4)
      | false =>
        rw [ht, if_neg (by decide)] at y3
        refine ts53 I50 p2 y3 (bad_of hA2 hP2.2.2.2.1 (by omega) (fun hl => ?_)) (FH_pg f2 y1) (fun k h4 => by rw [oL hb (by omega) (by omega)]; exact fk k h4) (by rw [y1.1 _ (by omega), r1]; exact b4)
        rw [hm hl, if_neg (fun q => of_decide_eq_false ht ⟨rfl, hl, q⟩)]
    have t37 : ∀ (I2 : sI) (p2 : Nat) (D2 : Sg), PGX pg len false p2 I2 → runA pg D0 p2 = some D2 → FH hb I I2 → (∀ a, a ≠ 4 → a ≠ hb + 11 + w → I2 a = I1 a) → chA (fun k => 7 ≤ k ∧ k < 10) D1 D2 w → D2 20 7 = 12 → D2 20 1 = (w : Int) + 1 → D2 20 3 = D1 20 3 → D2 20 0 = D1 20 0 → D2 20 2 = D1 20 2 → D2 20 4 = -1 → D2 20 5 = 0 → D2 20 6 = 40 → I2 (hb + 11 + w) 0 = D2 7 w → (1 ≤ D2 7 w ∧ D2 7 w ≤ 6) → Cp g 3 m_X5_readWomen 0 0 Q 37 LS [] (TT Ls tl) I2 L (RR tl) := by
      intro I2 p2 D2 hP2 hA2 f2 o hch b7 b1 b3 b0 b2 b4 b5 b6 r0 d7
      rw [hLS]
      have hnum := num_run (pg := pg) (len := len) (lo := 0) (hi := 40) hA2 hP2.2.2.2.1 (by unfold NSA; omega) b4 b5 b6 (by omega)
      refine r_aload_n d_X5_readWomen_37 rfl ?_
      refine r_iconst d_X5_readWomen_38 ?_
      refine r_aload_n d_X5_readWomen_39 rfl ?_
      refine r_iconst d_X5_readWomen_40 ?_
      refine r_bipush d_X5_readWomen_41 (by decide) ?_
      refine r_V2i d_X5_readWomen_43 (w_X5_84 _ rfl) (tt_4 _ _) rfl rfl (c_number (lo := 0) (hi := 40) hP2 (by omega) (by omega)) (by decide) (Nat.le_of_ble_eq_true rfl) (fun z43 T43 I43 L43 R43 h43 => ?_)
      obtain ⟨rfl, rfl, rfl, y1, y2, y3⟩ := h43
      refine r_iastJ (j := 1) d_X5_readWomen_46 (th2_10 _ _ hh hw) (by omega) rfl (by omega) (kk := ?_)
      rw [← hLS]
      obtain ⟨N, hN⟩ : ∃ N, N = nmS pg len false p2 0 40 := ⟨_, rfl⟩
      rw [← hN] at hnum y2 y3
      have oL : ∀ (a : Nat), a ≠ 4 → a ≠ hb + 11 + w → up2 I43 (hb + 11 + w) 1 z43 a = I1 a := fun a h4 h5 => by rw [up2_ne _ _ h5, y1.1 a h4]; exact o a h4 h5
      cases hst : N.1 with
      | true =>
        rw [hst] at y3
        refine ts47 _ _ (PGX_up y3 (by omega)) (hnum.1 hst) (FH_up hh (FH_pg f2 y1) (by omega)) (fun k h4 => by rw [oL hb (by omega) (by omega)]; exact fk k h4) ?_
        rw [up2_at, y2, hN]
        have := nm_bd (pg := pg) (len := len) (st := false) (p := p2) (lo := 0) (hi := 40) (by omega)
        exact this
      | false =>
        obtain ⟨n1, n2, n3, n4⟩ := hnum.2 hst
        rw [hst] at y3
        refine t47 _ _ _ (PGX_up y3 (by omega)) n2 (FH_up hh (FH_pg f2 y1) (by omega)) oL (chA_sc hch) (by rw [sc_nj (by decide)]; exact b7) (by rw [sc_nj (by decide)]; exact b1) (by rw [sc_nj (by decide)]; exact b3) (by rw [sc_nj (by decide)]; exact b0) (by rw [sc_nj (by decide)]; exact b2) (by rw [sc_nj (by decide)]; exact b5) (by rw [sc_at]; omega) n4 ?_ (by rw [up2_at, sc_at]; exact y2) ?_
        · rw [up2_nj _ _ (by decide), y1.1 _ (by omega), sc_ne (by decide)]; exact r0
        · rw [sc_ne (by decide)]; exact d7
    have t31 : ∀ (I2 : sI) (p2 : Nat) (D2 : Sg), PGX pg len false p2 I2 → runA pg D0 p2 = some D2 → FH hb I I2 → (∀ a, a ≠ 4 → a ≠ hb + 11 + w → I2 a = I1 a) → chA (fun k => 7 ≤ k ∧ k < 10) D1 D2 w → D2 20 7 = 11 → D2 20 1 = (w : Int) + 1 → D2 20 3 = D1 20 3 → D2 20 0 = D1 20 0 → D2 20 2 = D1 20 2 → I2 (hb + 11 + w) 0 = D2 7 w → (1 ≤ D2 7 w ∧ D2 7 w ≤ 6) → Cp g 3 m_X5_readWomen 0 0 Q 31 LS [] (TT Ls tl) I2 L (RR tl) := by
      intro I2 p2 D2 hP2 hA2 f2 o hch b7 b1 b3 b0 b2 r0 d7
      rw [hLS]
      have hm : ∀ c, mstA D2 c = if c = 102 then some (scA (bgA D2 0 40) 7 12) else none := fun c => by
        rw [mst_pln (by unfold NSA; omega)]
        unfold plnA
        rw [if_neg (by omega), if_neg (by omega), if_neg (by omega), if_neg (by omega), if_neg (by omega), if_neg (by omega), if_neg (by omega), if_pos b7]
      refine r_aload_n d_X5_readWomen_31 rfl ?_
      refine r_bipush d_X5_readWomen_32 (by decide) ?_
      refine r_V1v d_X5_readWomen_34 (w_X5_80 _ rfl) (tt_4 _ _) rfl rfl (c_needs hP2 (by omega)) (by decide) (Nat.le_of_ble_eq_true rfl) (fun T34 I34 L34 R34 h34 => ?_)
      obtain ⟨rfl, rfl, rfl, y1, y3⟩ := h34
      rw [← hLS]
      have oL : ∀ (a : Nat), a ≠ 4 → a ≠ hb + 11 + w → I34 a = I1 a := fun a h4 h5 => by rw [y1.1 a h4]; exact o a h4 h5
      cases ht : tkS pg len false p2 102 with
      | true =>
        rw [ht, if_pos rfl] at y3
        obtain ⟨-, t1, t2⟩ := decide_eq_true_iff.mp ht
        obtain ⟨E, hE⟩ : ∃ E, E = scA (bgA D2 0 40) 7 12 := ⟨_, rfl⟩
        have Go : ∀ i, i ≠ 7 → i ≠ 4 → i ≠ 5 → i ≠ 6 → E 20 i = D2 20 i := fun i h7 h4 h5 h6 => by rw [hE, sc_nj h7, bg_o h4 h5 h6]
        have E7 : E 7 w = D2 7 w := by rw [hE, sc_ne (by decide), bg_k (by decide)]
        exact t37 I34 (p2 + 1) E y3 (run_suc hA2 (by rw [hm, if_pos t2, hE])) (FH_pg f2 y1) oL (by rw [hE]; exact chA_sc (chA_bg hch)) (by rw [hE, sc_at]) (by rw [Go 1 (by decide) (by decide) (by decide) (by decide)]; exact b1) (by rw [Go 3 (by decide) (by decide) (by decide) (by decide)]; exact b3) (by rw [Go 0 (by decide) (by decide) (by decide) (by decide)]; exact b0) (by rw [Go 2 (by decide) (by decide) (by decide) (by decide)]; exact b2) (by rw [hE, sc_nj (by decide), bg_4]) (by rw [hE, sc_nj (by decide), bg_5]) (by rw [hE, sc_nj (by decide), bg_6]) (by rw [y1.1 _ (by omega), E7]; exact r0) (by rw [E7]; exact d7)
      | false =>
        rw [ht, if_neg (by decide)] at y3
        refine ts37 I34 p2 y3 (bad_of hA2 hP2.2.2.2.1 (by omega) (fun hl => ?_)) (FH_pg f2 y1) (fun k h4 => by rw [oL hb (by omega) (by omega)]; exact fk k h4)
        rw [hm, if_neg (fun q => of_decide_eq_false ht ⟨rfl, hl, q⟩)]
    have hm : ∀ c, mstA D1 c = if 49 ≤ c ∧ c ≤ 54 then some (scA (scA (up2 D1 7 w (c - 48)) 1 ((w : Int) + 1)) 7 11) else none := fun c => by
      rw [mst_pln (by unfold NSA; omega)]
      unfold plnA
      rw [if_neg (by omega), if_neg (by omega), if_neg (by omega), if_neg (by omega), if_neg (by omega), if_neg (by omega), if_pos a7, a1, Int.toNat_natCast]
    have hdd := dh_rg (pg := pg) (len := len) (p := p1) (st := false)
    refine r_iload_n d_X5_readWomen_2 rfl ?_
    refine r_iconst d_X5_readWomen_3 ?_
    refine r_icmp_ge d_X5_readWomen_4 (by omega) (by omega) (fun c4 => absurd c4 (by omega)) (fun c4 => ?_)
    refine r_aload_n d_X5_readWomen_7 rfl ?_
    refine r_geti d_X5_readWomen_8 f_X5_31 (tt_4 _ _) (by decide) (by decide) ?_
    rw [h5]
    refine r_if_ne d_X5_readWomen_11 (by omega) (fun c11 => absurd c11 (by decide)) (fun c11 => ?_)
    refine r_aload_n d_X5_readWomen_14 rfl ?_
    refine r_getr d_X5_readWomen_15 f_X5_93 (th_0 _ _ hh) (by decide) rfl (rh_1 _ hh) ?_
    refine r_iload_n d_X5_readWomen_18 rfl ?_
    refine r_aaldJ d_X5_readWomen_19 (th_10 _ _ hh) (by decide) rfl (by omega) (rh2_10 _ hh (by omega)) (kk := ?_)
    refine r_astore_n d_X5_readWomen_20 (by decide) ?_
    refine r_aload_n d_X5_readWomen_21 rfl ?_
    refine r_iconst d_X5_readWomen_22 ?_
    refine r_aload_n d_X5_readWomen_23 rfl ?_
    refine r_iconst d_X5_readWomen_24 ?_
    refine r_bipush d_X5_readWomen_25 (by decide) ?_
    refine r_V2i d_X5_readWomen_27 (w_X5_72 _ rfl) (tt_4 _ _) rfl rfl (c_digit hP1 (by omega) (by omega)) (by decide) (Nat.le_of_ble_eq_true rfl) (fun z27 T27 I27 L27 R27 h27 => ?_)
    obtain ⟨rfl, rfl, rfl, w1, w2, w3⟩ := h27
    refine r_iastJ (j := 0) d_X5_readWomen_30 (th2_10 _ _ hh (by omega)) (by omega) rfl (by omega) (kk := ?_)
    refine CpL (ls' := LS) ?_ (by rw [hLS]; repeat (first | exact trivial | refine ⟨rfl, ?_⟩))
    have oL : ∀ (x : Int) (a : Nat), a ≠ 4 → a ≠ hb + 11 + w → up2 I27 (hb + 11 + w) 0 x a = I1 a := fun x a h4 h5 => by rw [up2_ne _ _ h5, w1.1 a h4]
    by_cases kd : 1 ≤ dhS pg len false p1 ∧ dhS pg len false p1 ≤ 6
    · obtain ⟨x1, x2⟩ := w2 kd
      obtain ⟨-, x3, x4⟩ := dh_ok (pg := pg) (len := len) (p := p1) (st := false) (by omega)
      obtain ⟨u, hu⟩ : ∃ u, u = dhS pg len false p1 := ⟨_, rfl⟩
      rw [← hu] at x1 x4 kd
      have eu : pg p1 - 48 = u := by omega
      rw [x1]
      obtain ⟨E, hE⟩ : ∃ E, E = scA (scA (up2 D1 7 w u) 1 ((w : Int) + 1)) 7 11 := ⟨_, rfl⟩
      have Eo : ∀ i, i ≠ 7 → i ≠ 1 → E 20 i = D1 20 i := fun i h h0 => by rw [hE, sc_nj h, sc_nj h0, up_20 (by decide)]
      have E7 : E 7 w = u := by rw [hE, sc_ne (by decide), sc_ne (by decide), up2_at]
      exact t31 _ (p1 + 1) E (PGX_up x2 (by omega)) (run_suc hA1 (by rw [hm, if_pos (by omega), eu, hE])) (FH_up hh (FH_pg f w1) (by omega)) (oL u) (by rw [hE]; exact chA_sc (chA_sc (chA_up chA_rf (by decide)))) (by rw [hE, sc_at]) (by rw [hE, sc_nj (by decide), sc_at]) (Eo 3 (by decide) (by decide)) (Eo 0 (by decide) (by decide)) (Eo 2 (by decide) (by decide)) (by rw [up2_at, E7]) (by rw [E7]; exact kd)
    · obtain ⟨x1, x2⟩ := w3 kd
      rw [x1]
      refine ts31 _ p1 (PGX_up x2 (by omega)) (bad_of hA1 hP1.2.2.2.1 (by omega) (fun hl => ?_)) (FH_up hh (FH_pg f w1) (by omega)) (fun k h4 => by rw [oL 0 hb (by omega) (by omega)]; exact fk k h4)
      rw [hm, if_neg]
      intro q
      refine kd ?_
      unfold dhS
      rw [if_pos ⟨rfl, hl, by omega⟩]
      omega
  have loop : ∀ (n w : Nat) (I1 : sI) (p1 : Nat) (D1 : Sg), w + n = 2 → PGX pg len false p1 I1 → runA pg D0 p1 = some D1 → D1 20 7 = 10 → D1 20 1 = (w : Int) → RDX D1 hb nr I1 → WDX D1 hb w I1 → D1 20 0 = D 20 0 → D1 20 2 = D 20 2 → FH hb I I1 → (∀ k, k ≠ 4 → I1 hb k = I hb k) → Cp g 3 m_X5_readWomen 0 0 Q 2 [(0, vr 4), (1, vr hb), (2, vi (w : Int))] [] (TT Ls tl) I1 L (RR tl) := by
    intro n
    induction n with
    | zero =>
      intro w I1 p1 D1 hrn h1 h2 h3 h4 h5 h6 h7 h8 h9 h10
      exact step w I1 p1 D1 (by omega) h1 h2 h3 h4 h5 h6 h7 h8 h9 h10 (fun h => absurd h (by omega))
    | succ n ih =>
      intro w I1 p1 D1 hrn h1 h2 h3 h4 h5 h6 h7 h8 h9 h10
      exact step w I1 p1 D1 (by omega) h1 h2 h3 h4 h5 h6 h7 h8 h9 h10 (fun _ I2 p2 D2 => ih (w + 1) I2 p2 D2 (by omega))
  refine r_iconst d_X5_readWomen_0 ?_
  refine r_istore_n d_X5_readWomen_1 (by decide) ?_
  exact CpL (loop 2 0 I p D (by omega) hP hA hs hw0 hR (fun i h => absurd h (by omega)) rfl rfl FH_rf (fun _ _ => rfl)) (by repeat (first | exact trivial | refine ⟨rfl, ?_⟩))
end C66
