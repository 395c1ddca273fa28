/-- the guests so far -/
def GDX (D : Sg) (hb n : Nat) (I : sI) : Prop := ∀ i, i < n → (∀ k, k < 4 → I (hb + 15 + i) k = D (10 + k) i) ∧ GV D i
theorem GDX_D {D D' : Sg} {hb w : Nat} {I : sI} (h : GDX D hb w I) (hD : ∀ k i, 10 ≤ k → k < 14 → i < w → D' k i = D k i) : GDX D' hb w I := fun i hi => by
  obtain ⟨h1, h2⟩ := h i hi
  refine ⟨fun k hk => by rw [hD (10 + k) i (by omega) (by omega) hi]; exact h1 k hk, ?_⟩
  unfold GV at h2 ⊢
  rw [hD 10 i (by omega) (by omega) hi, hD 11 i (by omega) (by omega) hi, hD 12 i (by omega) (by omega) hi, hD 13 i (by omega) (by omega) hi]
  exact h2
theorem GDX_I {D : Sg} {hb w : Nat} {I I' : sI} (h : GDX D hb w I) (f : ∀ i, i < w → I' (hb + 15 + i) = I (hb + 15 + i)) : GDX D hb w I' := fun i hi => by rw [f i hi]; exact h i hi
theorem bad_lt {pg : Nat → Int} {len p : Nat} {D0 D : Sg} (h : runA pg D0 p = some D) (hp : p < len) (hn : mstA D (pg p) = none) : badA pg len D0 p := ⟨D, ⟨h, by omega, Or.inr hn⟩, fun q => by omega⟩
/-- behind all guests -/
def GRS (pg : Nat → Int) (len : Nat) (D0 D : Sg) (hb nr nw ng : Nat) (D' : Sg) (I' : sI) : Prop := PGX pg len false len I' ∧ runA pg D0 len = some D' ∧ D' 20 7 = 23 ∧ D' 20 0 = D 20 0 ∧ D' 20 1 = D 20 1 ∧ D' 20 2 = (ng : Int) ∧ (1 ≤ ng ∧ ng ≤ 8) ∧ RDX D' hb nr I' ∧ WDX D' hb nw I' ∧ GDX D' hb ng I' ∧ I' hb 5 = (ng : Int)
section C67
variable {g : sG} {Ls : Nat} {tl : List Nat} {I L : sI} {pg : Nat → Int} {len p hb nr nw : Nat} {D0 D : Sg}
theorem c_readGuests_s (hh : hb = 8 ∨ hb = 35) (hP : PGX pg len true p I) : Mc g 3 m_X5_readGuests 0 0 [vr 4, vr hb] (TT Ls tl) I L (RR tl) (qV fun T' I' L' R' => same (TT Ls tl) I L (RR tl) T' I' L' R') := by
  refine Mc_of rfl (Nat.le_of_ble_eq_true rfl) ?_
  have h5 : I 4 3 = 1 := hP.2.2.2.2.1
  refine r_iconst d_X5_readGuests_0 ?_
  refine r_istore_n d_X5_readGuests_1 (by decide) ?_
  refine r_iload_n d_X5_readGuests_2 rfl ?_
  refine r_bipush d_X5_readGuests_3 (by decide) ?_
  refine r_icmp_ge d_X5_readGuests_5 (by omega) (by omega) (fun c5 => absurd c5 (by omega)) (fun c5 => ?_)
  refine r_aload_n d_X5_readGuests_8 rfl ?_
  refine r_geti d_X5_readGuests_9 f_X5_31 (tt_4 _ _) (by decide) (by decide) ?_
  rw [h5]
  refine r_if_ne d_X5_readGuests_12 (by omega) (fun c12 => ?_) (fun c12 => absurd c12 (by decide))
  refine r_vret d_X5_readGuests_121 rfl ?_
  exact ⟨rfl, same_rf⟩
theorem c_readGuests (hh : hb = 8 ∨ hb = 35) (hP : PGX pg len false p I) (hA : runA pg D0 p = some D) (hs : D 20 7 = 20) (hs4 : D 20 4 = -1) (hs5 : D 20 5 = 0) (hs6 : D 20 6 = 44) (hg0 : D 20 2 = 0) (hnr : nr ≤ 8) (hnw : nw ≤ 3) (hR : RDX D hb nr I) (hW : WDX D hb nw I) : Mc g 3 m_X5_readGuests 0 0 [vr 4, vr hb] (TT Ls tl) I L (RR tl) (qV fun T' I' L' R' => T' = TT Ls tl ∧ R' = RR tl ∧ L' = L ∧ FH hb I I' ∧ (∀ k, k ≠ 5 → I' hb k = I hb k) ∧ ((∃ p', PGX pg len true p' I' ∧ badA pg len D0 p') ∨ (∃ ng D', GRS pg len D0 D hb nr nw ng D' I'))) := by
  refine Mc_of rfl (Nat.le_of_ble_eq_true rfl) ?_
  obtain ⟨Q, hQ⟩ : ∃ Q : sQ, Q = (qV fun T' I' L' R' => T' = TT Ls tl ∧ R' = RR tl ∧ L' = L ∧ FH hb I I' ∧ (∀ k, k ≠ 5 → I' hb k = I hb k) ∧ ((∃ p', PGX pg len true p' I' ∧ badA pg len D0 p') ∨ (∃ ng D', GRS pg len D0 D hb nr nw ng D' I'))) := ⟨_, rfl⟩
  rw [← hQ]
  have ls : ∀ (I1 : sI) (w p1 : Nat), w ≤ 8 → PGX pg len true p1 I1 → badA pg len D0 p1 → FH hb I I1 → (∀ k, k ≠ 5 → I1 hb k = I hb k) → Cp g 3 m_X5_readGuests 0 0 Q 2 [(0, vr 4), (1, vr hb), (2, vi (w : Int))] [] (TT Ls tl) I1 L (RR tl) := by
    intro I1 w p1 hw hP1 hb1 f fk
    have h5 : I1 4 3 = 1 := hP1.2.2.2.2.1
    refine r_iload_n d_X5_readGuests_2 rfl ?_
    refine r_bipush d_X5_readGuests_3 (by decide) ?_
    refine r_icmp_ge d_X5_readGuests_5 (by omega) (by omega) (fun c5 => ?_) (fun c5 => ?_)
    · refine r_vret d_X5_readGuests_121 rfl ?_
      rw [hQ]
      exact ⟨rfl, rfl, rfl, rfl, f, fk, Or.inl ⟨p1, hP1, hb1⟩⟩
    · refine r_aload_n d_X5_readGuests_8 rfl ?_
      refine r_geti d_X5_readGuests_9 f_X5_31 (tt_4 _ _) (by decide) (by decide) ?_
      rw [h5]
      refine r_if_ne d_X5_readGuests_12 (by omega) (fun c12 => ?_) (fun c12 => absurd c12 (by decide))
      refine r_vret d_X5_readGuests_121 rfl ?_
      rw [hQ]
      exact ⟨rfl, rfl, rfl, rfl, f, fk, Or.inl ⟨p1, hP1, hb1⟩⟩
  have step : ∀ (w : Nat) (I1 : sI) (p1 : Nat) (D1 : Sg), w < 8 → PGX pg len false p1 I1 → runA pg D0 p1 = some D1 → D1 20 7 = 20 → D1 20 4 = -1 → D1 20 5 = 0 → D1 20 6 = 44 → D1 20 2 = (w : Int) → RDX D1 hb nr I1 → WDX D1 hb nw I1 → GDX D1 hb w I1 → D1 20 0 = D 20 0 → D1 20 1 = D 20 1 → FH hb I I1 → (∀ k, k ≠ 5 → I1 hb k = I hb k) → (w + 1 < 8 → ∀ (I2 : sI) (p2 : Nat) (D2 : Sg), PGX pg len false p2 I2 → runA pg D0 p2 = some D2 → D2 20 7 = 20 → D2 20 4 = -1 → D2 20 5 = 0 → D2 20 6 = 44 → D2 20 2 = ((w + 1 : Nat) : Int) → RDX D2 hb nr I2 → WDX D2 hb nw I2 → GDX D2 hb (w + 1) I2 → D2 20 0 = D 20 0 → D2 20 1 = D 20 1 → FH hb I I2 → (∀ k, k ≠ 5 → I2 hb k = I hb k) → Cp g 3 m_X5_readGuests 0 0 Q 2 [(0, vr 4), (1, vr hb), (2, vi ((w + 1 : Nat) : Int))] [] (TT Ls tl) I2 L (RR tl)) → Cp g 3 m_X5_readGuests 0 0 Q 2 [(0, vr 4), (1, vr hb), (2, vi (w : Int))] [] (TT Ls tl) I1 L (RR tl) := by
    intro w I1 p1 D1 hw hP1 hA1 a7 a4 a5 a6 a2 hR1 hW1 hG1 a0 a1 f fk next
    obtain ⟨LS, hLS⟩ : ∃ LS : List (Nat × sV), LS = [(0, vr 4), (1, vr hb), (2, vi (w : Int)), (3, vr (hb + 15 + w))] := ⟨_, rfl⟩
    have h5 : I1 4 3 = 0 := hP1.2.2.2.2.1
    have ts79 : ∀ (I2 : sI) (p2 : Nat), PGX pg len true p2 I2 → badA pg len D0 p2 → FH hb I I2 → (∀ k, k ≠ 5 → I2 hb k = I hb k) → Cp g 3 m_X5_readGuests 0 0 Q 79 LS [] (TT Ls tl) I2 L (RR tl) := by
      intro I2 p2 hP2 hb2 f2 fk2
      rw [hLS]
      have hP3 : PGX pg len true p2 (up2 I2 hb 5 ((w : Int) + 1)) := PGX_up hP2 (by omega)
      have f3 : FH hb I (up2 I2 hb 5 ((w : Int) + 1)) := FH_up hh f2 (by omega)
      have fk3 : ∀ k, k ≠ 5 → up2 I2 hb 5 ((w : Int) + 1) hb k = I hb k := fun k h4 => by rw [up2_nj _ _ h4]; exact fk2 k h4
      obtain ⟨q1, q2, q3, q4, q5, q6⟩ := id hP3
      by_cases kl : p2 < len
      · by_cases k8 : w + 1 < 8
        · skip
          refine r_aload_n d_X5_readGuests_79 rfl ?_
          refine r_iload_n d_X5_readGuests_80 rfl ?_
          refine r_iconst d_X5_readGuests_81 ?_
          refine r_iadd d_X5_readGuests_82 ?_
          refine r_puti d_X5_readGuests_83 f_X5_102 (th_0 _ _ hh) (by decide) (Or.inl rfl) ?_
          refine r_aload_n d_X5_readGuests_86 rfl ?_
          refine r_geti d_X5_readGuests_87 f_X5_28 (tt_4 _ _) (by decide) (by decide) ?_
          refine r_aload_n d_X5_readGuests_90 rfl ?_
          refine r_geti d_X5_readGuests_91 f_X5_22 (tt_4 _ _) (by decide) (by decide) ?_
          rw [q3, q1]
          refine r_icmp_lt d_X5_readGuests_94 (by omega) (by omega) (fun c94 => ?_) (fun c94 => absurd c94 (by omega))
          refine r_aload_n d_X5_readGuests_98 rfl ?_
          refine r_iload_n d_X5_readGuests_99 rfl ?_
          refine r_iconst d_X5_readGuests_100 ?_
          refine r_iadd d_X5_readGuests_101 ?_
          refine r_bipush d_X5_readGuests_102 (by decide) ?_
          refine r_icmp_ge d_X5_readGuests_104 (by omega) (by omega) (fun c104 => absurd c104 (by omega)) (fun c104 => ?_)
          refine r_iconst d_X5_readGuests_107 ?_
          refine r_goto d_X5_readGuests_108 ?_
          refine r_V1v d_X5_readGuests_112 (w_X5_64 _ rfl) (tt_4 _ _) rfl rfl (c_needsAnother (b := true) hP3) (by decide) (Nat.le_of_ble_eq_true rfl) (fun T112 I112 L112 R112 h112 => ?_)
          obtain ⟨rfl, rfl, rfl, w1, w3⟩ := h112
          rw [tk_st, Bool.and_false, if_neg (by decide)] at w3
          refine r_iinc d_X5_readGuests_115 rfl (by decide) ?_
          refine r_goto d_X5_readGuests_118 ?_
          exact CpL (ls I112 (w + 1) p2 (by omega) w3 hb2 (FH_pg f3 w1) (fun k h4 => by rw [w1.1 hb (by omega)]; exact fk3 k h4)) (by repeat (first | exact trivial | refine ⟨rfl, ?_⟩))
        · skip
          refine r_aload_n d_X5_readGuests_79 rfl ?_
          refine r_iload_n d_X5_readGuests_80 rfl ?_
          refine r_iconst d_X5_readGuests_81 ?_
          refine r_iadd d_X5_readGuests_82 ?_
          refine r_puti d_X5_readGuests_83 f_X5_102 (th_0 _ _ hh) (by decide) (Or.inl rfl) ?_
          refine r_aload_n d_X5_readGuests_86 rfl ?_
          refine r_geti d_X5_readGuests_87 f_X5_28 (tt_4 _ _) (by decide) (by decide) ?_
          refine r_aload_n d_X5_readGuests_90 rfl ?_
          refine r_geti d_X5_readGuests_91 f_X5_22 (tt_4 _ _) (by decide) (by decide) ?_
          rw [q3, q1]
          refine r_icmp_lt d_X5_readGuests_94 (by omega) (by omega) (fun c94 => ?_) (fun c94 => absurd c94 (by omega))
          refine r_aload_n d_X5_readGuests_98 rfl ?_
          refine r_iload_n d_X5_readGuests_99 rfl ?_
          refine r_iconst d_X5_readGuests_100 ?_
          refine r_iadd d_X5_readGuests_101 ?_
          refine r_bipush d_X5_readGuests_102 (by decide) ?_
          refine r_icmp_ge d_X5_readGuests_104 (by omega) (by omega) (fun c104 => ?_) (fun c104 => absurd c104 (by omega))
          refine r_iconst d_X5_readGuests_111 ?_
          refine r_V1v d_X5_readGuests_112 (w_X5_64 _ rfl) (tt_4 _ _) rfl rfl (c_needsAnother (b := false) hP3) (by decide) (Nat.le_of_ble_eq_true rfl) (fun T112 I112 L112 R112 h112 => ?_)
          obtain ⟨rfl, rfl, rfl, w1, w3⟩ := h112
          rw [Bool.false_and, if_neg (by decide)] at w3
          refine r_iinc d_X5_readGuests_115 rfl (by decide) ?_
          refine r_goto d_X5_readGuests_118 ?_
          exact CpL (ls I112 (w + 1) p2 (by omega) w3 hb2 (FH_pg f3 w1) (fun k h4 => by rw [w1.1 hb (by omega)]; exact fk3 k h4)) (by repeat (first | exact trivial | refine ⟨rfl, ?_⟩))
      · skip
        refine r_aload_n d_X5_readGuests_79 rfl ?_
        refine r_iload_n d_X5_readGuests_80 rfl ?_
        refine r_iconst d_X5_readGuests_81 ?_
        refine r_iadd d_X5_readGuests_82 ?_
        refine r_puti d_X5_readGuests_83 f_X5_102 (th_0 _ _ hh) (by decide) (Or.inl rfl) ?_
        refine r_aload_n d_X5_readGuests_86 rfl ?_
        refine r_geti d_X5_readGuests_87 f_X5_28 (tt_4 _ _) (by decide) (by decide) ?_
        refine r_aload_n d_X5_readGuests_90 rfl ?_
        refine r_geti d_X5_readGuests_91 f_X5_22 (tt_4 _ _) (by decide) (by decide) ?_
        rw [q3, q1]
        refine r_icmp_lt d_X5_readGuests_94 (by omega) (by omega) (fun c94 => absurd c94 (by omega)) (fun c94 => ?_)
        refine r_vret d_X5_readGuests_97 rfl ?_
        rw [hQ]
        exact ⟨rfl, rfl, rfl, rfl, f3, fk3, Or.inl ⟨p2, hP3, hb2⟩⟩
    have ts69 : ∀ (I2 : sI) (p2 : Nat), PGX pg len true p2 I2 → badA pg len D0 p2 → FH hb I I2 → (∀ k, k ≠ 5 → I2 hb k = I hb k) → Cp g 3 m_X5_readGuests 0 0 Q 69 LS [] (TT Ls tl) I2 L (RR tl) := by
      intro I2 p2 hP2 hb2 f2 fk2
      rw [hLS]
      refine r_aload_n d_X5_readGuests_69 rfl ?_
      refine r_iconst d_X5_readGuests_70 ?_
      refine r_aload_n d_X5_readGuests_71 rfl ?_
      refine r_iconst d_X5_readGuests_72 ?_
      refine r_bipush d_X5_readGuests_73 (by decide) ?_
      refine r_V2i d_X5_readGuests_75 (w_X5_72 _ rfl) (tt_4 _ _) rfl rfl (c_digit hP2 (by omega) (by omega)) (by decide) (Nat.le_of_ble_eq_true rfl) (fun z75 T75 I75 L75 R75 h75 => ?_)
      obtain ⟨rfl, rfl, rfl, y1, y2, y3⟩ := h75
      obtain ⟨-, y3⟩ := y3 (by rw [dh_st]; omega)
      refine r_iastJ (j := 3) d_X5_readGuests_78 (th2_14 _ _ hh hw) (by omega) rfl (by omega) (kk := ?_)
      rw [← hLS]
      exact ts79 _ p2 (PGX_up y3 (by omega)) hb2 (FH_up hh (FH_pg f2 y1) (by omega)) (fun k h4 => by rw [up2_ne _ _ (by omega), y1.1 hb (by omega)]; exact fk2 k h4)
    have ts52 : ∀ (I2 : sI) (p2 : Nat), PGX pg len true p2 I2 → badA pg len D0 p2 → FH hb I I2 → (∀ k, k ≠ 5 → I2 hb k = I hb k) → Cp g 3 m_X5_readGuests 0 0 Q 52 LS [] (TT Ls tl) I2 L (RR tl) := by
      intro I2 p2 hP2 hb2 f2 fk2
      rw [hLS]
      refine r_aload_n d_X5_readGuests_52 rfl ?_
      refine r_iconst d_X5_readGuests_53 ?_
      refine r_aload_n d_X5_readGuests_54 rfl ?_
      refine r_bipush d_X5_readGuests_55 (by decide) ?_
      refine r_V1i d_X5_readGuests_57 (w_X5_60 _ rfl) (tt_4 _ _) rfl rfl (c_takes hP2 (by omega)) (by decide) (Nat.le_of_ble_eq_true rfl) (fun z57 T57 I57 L57 R57 h57 => ?_)
      obtain ⟨rfl, rfl, rfl, rfl, y1, y3⟩ := h57
      rw [tk_st, if_neg (by decide)] at y3
      refine r_if_eq d_X5_readGuests_60 (by rw [tk_st, if_neg (by decide)]; omega) (fun c60 => ?_) (fun c60 => absurd c60 (by rw [tk_st, if_neg (by decide)]; decide))
      refine r_iconst d_X5_readGuests_67 ?_
      refine r_iastJ (j := 2) d_X5_readGuests_68 (th2_14 _ _ hh hw) (by omega) rfl (by omega) (kk := ?_)
      rw [← hLS]
      exact ts69 _ p2 (PGX_up y3 (by omega)) hb2 (FH_up hh (FH_pg f2 y1) (by omega)) (fun k h4 => by rw [up2_ne _ _ (by omega), y1.1 hb (by omega)]; exact fk2 k h4)
    have ts32 : ∀ (I2 : sI) (p2 : Nat), PGX pg len true p2 I2 → badA pg len D0 p2 → FH hb I I2 → (∀ k, k ≠ 5 → I2 hb k = I hb k) → Cp g 3 m_X5_readGuests 0 0 Q 32 LS [] (TT Ls tl) I2 L (RR tl) := by
      intro I2 p2 hP2 hb2 f2 fk2
      rw [hLS]
      refine r_aload_n d_X5_readGuests_32 rfl ?_
      refine r_iconst d_X5_readGuests_33 ?_
      refine r_aload_n d_X5_readGuests_34 rfl ?_
      refine r_bipush d_X5_readGuests_35 (by decide) ?_
      refine r_V1i d_X5_readGuests_37 (w_X5_60 _ rfl) (tt_4 _ _) rfl rfl (c_takes hP2 (by omega)) (by decide) (Nat.le_of_ble_eq_true rfl) (fun z37 T37 I37 L37 R37 h37 => ?_)
      obtain ⟨rfl, rfl, rfl, rfl, y1, y3⟩ := h37
      rw [tk_st, if_neg (by decide)] at y3
      refine r_if_eq d_X5_readGuests_40 (by rw [tk_st, if_neg (by decide)]; omega) (fun c40 => ?_) (fun c40 => absurd c40 (by rw [tk_st, if_neg (by decide)]; decide))
      refine r_aload_n d_X5_readGuests_47 rfl ?_
      refine r_V0i d_X5_readGuests_48 (w_X5_76 _ rfl) (tt_4 _ _) rfl rfl (c_sort y3) (by decide) (Nat.le_of_ble_eq_true rfl) (fun z48 T48 I48 L48 R48 h48 => ?_)
      obtain ⟨rfl, rfl, rfl, w1, w2, w3⟩ := h48
      obtain ⟨-, w3⟩ := w3 (by rw [so_st]; omega)
      refine r_iastJ (j := 1) d_X5_readGuests_51 (th2_14 _ _ hh hw) (by omega) rfl (by omega) (kk := ?_)
      rw [← hLS]
      exact ts52 _ p2 (PGX_up w3 (by omega)) hb2 (FH_up hh (FH_pg (FH_pg f2 y1) w1) (by omega)) (fun k h4 => by rw [up2_ne _ _ (by omega), w1.1 hb (by omega), y1.1 hb (by omega)]; exact fk2 k h4)
    -- it goes on
    have rK : ∀ {D2 : Sg} {I2 : sI}, chA (fun k => 10 ≤ k ∧ k < 14) D1 D2 w → D2 20 3 = D1 20 3 → (∀ a, a ≠ 4 → a ≠ hb → a ≠ hb + 15 + w → I2 a = I1 a) → (∀ k, k ≠ 5 → I2 hb k = I1 hb k) → RDX D2 hb nr I2 := fun hc h3 o oh => RDX_D (RDX_I hR1 (fun i _ => o _ (by omega) (by omega) (by omega)) (o _ (by omega) (by omega) (by omega)) (oh 6 (by decide))) (fun k i hk _ => hc k i (by omega) (fun q => by have := q.1.1; omega)) h3
    have wK : ∀ {D2 : Sg} {I2 : sI}, chA (fun k => 10 ≤ k ∧ k < 14) D1 D2 w → (∀ a, a ≠ 4 → a ≠ hb → a ≠ hb + 15 + w → I2 a = I1 a) → WDX D2 hb nw I2 := fun hc o => WDX_D (WDX_I hW1 (fun i _ => o _ (by omega) (by omega) (by omega))) (fun k i h1 h2 h3 => hc k i (by omega) (fun q => by have := q.1.1; omega))
    have gK : ∀ {D2 : Sg} {I2 : sI}, chA (fun k => 10 ≤ k ∧ k < 14) D1 D2 w → (∀ a, a ≠ 4 → a ≠ hb → a ≠ hb + 15 + w → I2 a = I1 a) → GDX D2 hb w I2 := fun hc o => GDX_D (GDX_I hG1 (fun i _ => o _ (by omega) (by omega) (by omega))) (fun k i h1 h2 h3 => hc k i (by omega) (fun q => by have := q.2; omega))
    have t79 : ∀ (I2 : sI) (p2 : Nat) (D2 : Sg), PGX pg len false p2 I2 → runA pg D0 p2 = some D2 → FH hb I I2 → (∀ a, a ≠ 4 → a ≠ hb + 15 + w → I2 a = I1 a) → chA (fun k => 10 ≤ k ∧ k < 14) D1 D2 w → D2 20 7 = 23 → D2 20 2 = (w : Int) + 1 → D2 20 3 = D1 20 3 → D2 20 0 = D1 20 0 → D2 20 1 = D1 20 1 → (∀ k, k < 4 → I2 (hb + 15 + w) k = D2 (10 + k) w) → GV D2 w → Cp g 3 m_X5_readGuests 0 0 Q 79 LS [] (TT Ls tl) I2 L (RR tl) := by
      intro I2 p2 D2 hP2 hA2 f2 o hch b7 b2 b3 b0 b1 hrow hgv
      rw [hLS]
      obtain ⟨J, hJ⟩ : ∃ J, J = up2 I2 hb 5 ((w : Int) + 1) := ⟨_, rfl⟩
      have hPJ : PGX pg len false p2 J := by rw [hJ]; exact PGX_up hP2 (by omega)
      have fJ : FH hb I J := by rw [hJ]; exact FH_up hh f2 (by omega)
      have oJ : ∀ a, a ≠ 4 → a ≠ hb → a ≠ hb + 15 + w → J a = I1 a := fun a h1 h2 h3 => by rw [hJ, up2_ne _ _ h2]; exact o a h1 h3
      have kJ : ∀ k, k ≠ 5 → J hb k = I1 hb k := fun k hk => by rw [hJ, up2_nj _ _ hk, o hb (by omega) (by omega)]
      have J5 : J hb 5 = (w : Int) + 1 := by rw [hJ, up2_at]
      have Jr : J (hb + 15 + w) = I2 (hb + 15 + w) := by rw [hJ]; exact up2_ne _ _ (by omega)
      have rowE : ∀ (I3 : sI), (∀ a, a ≠ 4 → I3 a = J a) → GDX D2 hb (w + 1) I3 := fun I3 o3 i hi => by
        by_cases e : i = w
        · subst e
          rw [o3 _ (by omega), Jr]
          exact ⟨hrow, hgv⟩
        · rw [o3 _ (by omega)]
          exact gK hch (fun a h1 h2 h3 => oJ a h1 h2 h3) i (by omega)
      have rooE : ∀ (I3 : sI), (∀ a, a ≠ 4 → I3 a = J a) → RDX D2 hb nr I3 := fun I3 o3 => rK hch b3 (fun a h1 h2 h3 => by rw [o3 a h1]; exact oJ a h1 h2 h3) (fun k hk => by rw [o3 hb (by omega)]; exact kJ k hk)
      have womE : ∀ (I3 : sI), (∀ a, a ≠ 4 → I3 a = J a) → WDX D2 hb nw I3 := fun I3 o3 => wK hch (fun a h1 h2 h3 => by rw [o3 a h1]; exact oJ a h1 h2 h3)
      have hm : ∀ c, mstA D2 c = if c = 44 ∧ D2 20 2 < 8 then some (scA (bgA D2 0 44) 7 20) else none := fun c => by
        rw [mst_pln (by unfold NSA; omega)]
        unfold plnA
        rw [if_neg (by omega), if_neg (by omega), if_neg (by omega), if_neg (by omega), if_neg (by omega), if_neg (by omega), if_neg (by omega), if_neg (by omega), if_neg (by omega), if_neg (by omega)]
      obtain ⟨q1, q2, q3, q4, q5, q6⟩ := id hPJ
      by_cases kl : p2 < len
      · by_cases k8 : w + 1 < 8
        · skip
          refine r_aload_n d_X5_readGuests_79 rfl ?_
          refine r_iload_n d_X5_readGuests_80 rfl ?_
          refine r_iconst d_X5_readGuests_81 ?_
          refine r_iadd d_X5_readGuests_82 ?_
          refine r_puti d_X5_readGuests_83 f_X5_102 (th_0 _ _ hh) (by decide) (Or.inl rfl) ?_
          rw [← hJ]
          refine r_aload_n d_X5_readGuests_86 rfl ?_
          refine r_geti d_X5_readGuests_87 f_X5_28 (tt_4 _ _) (by decide) (by decide) ?_
          refine r_aload_n d_X5_readGuests_90 rfl ?_
          refine r_geti d_X5_readGuests_91 f_X5_22 (tt_4 _ _) (by decide) (by decide) ?_
          rw [q3, q1]
          refine r_icmp_lt d_X5_readGuests_94 (by omega) (by omega) (fun c94 => ?_) (fun c94 => absurd c94 (by omega))
          refine r_aload_n d_X5_readGuests_98 rfl ?_
          refine r_iload_n d_X5_readGuests_99 rfl ?_
          refine r_iconst d_X5_readGuests_100 ?_
          refine r_iadd d_X5_readGuests_101 ?_
          refine r_bipush d_X5_readGuests_102 (by decide) ?_
          refine r_icmp_ge d_X5_readGuests_104 (by omega) (by omega) (fun c104 => absurd c104 (by omega)) (fun c104 => ?_)
          refine r_iconst d_X5_readGuests_107 ?_
          refine r_goto d_X5_readGuests_108 ?_
          refine r_V1v d_X5_readGuests_112 (w_X5_64 _ rfl) (tt_4 _ _) rfl rfl (c_needsAnother (b := true) hPJ) (by decide) (Nat.le_of_ble_eq_true rfl) (fun T112 I112 L112 R112 h112 => ?_)
          obtain ⟨rfl, rfl, rfl, w1, w3⟩ := h112
          refine r_iinc d_X5_readGuests_115 rfl (by decide) ?_
          refine r_goto d_X5_readGuests_118 ?_
          rw [Bool.true_and] at w3
          have f5 := FH_pg fJ w1
          have fk5 : ∀ k, k ≠ 5 → I112 hb k = I hb k := fun k h4 => by rw [w1.1 hb (by omega), kJ k h4]; exact fk k h4
          cases ht2 : tkS pg len false p2 44 with
          | true =>
            rw [ht2, if_pos rfl] at w3
            obtain ⟨-, t1, t2⟩ := decide_eq_true_iff.mp ht2
            have Go : ∀ i, i ≠ 7 → i ≠ 4 → i ≠ 5 → i ≠ 6 → scA (bgA D2 0 44) 7 20 20 i = D2 20 i := fun i h7 h4 h5 h6 => by rw [sc_nj h7, bg_o h4 h5 h6]
            exact CpL (next k8 I112 (p2 + 1) (scA (bgA D2 0 44) 7 20) w3 (run_suc hA2 (by rw [hm, if_pos ⟨t2, by omega⟩])) sc_at (by rw [sc_nj (by decide), bg_4]) (by rw [sc_nj (by decide), bg_5]) (by rw [sc_nj (by decide), bg_6]) (by rw [Go 2 (by decide) (by decide) (by decide) (by decide), b2]; omega) (RDX_D (rooE _ w1.1) (fun k i hk _ => by rw [sc_ne (by omega), bg_k (by omega)]) (Go 3 (by decide) (by decide) (by decide) (by decide))) (WDX_D (womE _ w1.1) (fun k i h1 h2 _ => by rw [sc_ne (by omega), bg_k (by omega)])) (GDX_D (rowE _ w1.1) (fun k i h1 h2 _ => by rw [sc_ne (by omega), bg_k (by omega)])) (by rw [Go 0 (by decide) (by decide) (by decide) (by decide), b0]; exact a0) (by rw [Go 1 (by decide) (by decide) (by decide) (by decide), b1]; exact a1) f5 fk5) (by repeat (first | exact trivial | refine ⟨rfl, ?_⟩))
          | false =>
            rw [ht2, if_neg (by decide)] at w3
            refine CpL (ls I112 (w + 1) p2 (by omega) w3 (bad_lt hA2 kl ?_) f5 fk5) (by repeat (first | exact trivial | refine ⟨rfl, ?_⟩))
            rw [hm, if_neg (fun q => of_decide_eq_false ht2 ⟨rfl, kl, q.1⟩)]
        · skip
          refine r_aload_n d_X5_readGuests_79 rfl ?_
          refine r_iload_n d_X5_readGuests_80 rfl ?_
          refine r_iconst d_X5_readGuests_81 ?_
          refine r_iadd d_X5_readGuests_82 ?_
          refine r_puti d_X5_readGuests_83 f_X5_102 (th_0 _ _ hh) (by decide) (Or.inl rfl) ?_
          rw [← hJ]
          refine r_aload_n d_X5_readGuests_86 rfl ?_
          refine r_geti d_X5_readGuests_87 f_X5_28 (tt_4 _ _) (by decide) (by decide) ?_
          refine r_aload_n d_X5_readGuests_90 rfl ?_
          refine r_geti d_X5_readGuests_91 f_X5_22 (tt_4 _ _) (by decide) (by decide) ?_
          rw [q3, q1]
          refine r_icmp_lt d_X5_readGuests_94 (by omega) (by omega) (fun c94 => ?_) (fun c94 => absurd c94 (by omega))
          refine r_aload_n d_X5_readGuests_98 rfl ?_
          refine r_iload_n d_X5_readGuests_99 rfl ?_
          refine r_iconst d_X5_readGuests_100 ?_
          refine r_iadd d_X5_readGuests_101 ?_
          refine r_bipush d_X5_readGuests_102 (by decide) ?_
          refine r_icmp_ge d_X5_readGuests_104 (by omega) (by omega) (fun c104 => ?_) (fun c104 => absurd c104 (by omega))
          refine r_iconst d_X5_readGuests_111 ?_
          refine r_V1v d_X5_readGuests_112 (w_X5_64 _ rfl) (tt_4 _ _) rfl rfl (c_needsAnother (b := false) hPJ) (by decide) (Nat.le_of_ble_eq_true rfl) (fun T112 I112 L112 R112 h112 => ?_)
          obtain ⟨rfl, rfl, rfl, w1, w3⟩ := h112
          rw [Bool.false_and, if_neg (by decide)] at w3
          refine r_iinc d_X5_readGuests_115 rfl (by decide) ?_
          refine r_goto d_X5_readGuests_118 ?_
          refine CpL (ls I112 (w + 1) p2 (by omega) w3 (bad_lt hA2 kl ?_) (FH_pg fJ w1) (fun k h4 => by rw [w1.1 hb (by omega), kJ k h4]; exact fk k h4)) (by repeat (first | exact trivial | refine ⟨rfl, ?_⟩))
          rw [hm, if_neg (by omega)]
      · have el : p2 = len := by omega
        subst el
        refine r_aload_n d_X5_readGuests_79 rfl ?_
        refine r_iload_n d_X5_readGuests_80 rfl ?_
        refine r_iconst d_X5_readGuests_81 ?_
        refine r_iadd d_X5_readGuests_82 ?_
        refine r_puti d_X5_readGuests_83 f_X5_102 (th_0 _ _ hh) (by decide) (Or.inl rfl) ?_
        rw [← hJ]
        refine r_aload_n d_X5_readGuests_86 rfl ?_
        refine r_geti d_X5_readGuests_87 f_X5_28 (tt_4 _ _) (by decide) (by decide) ?_
        refine r_aload_n d_X5_readGuests_90 rfl ?_
        refine r_geti d_X5_readGuests_91 f_X5_22 (tt_4 _ _) (by decide) (by decide) ?_
        rw [q3, q1]
        refine r_icmp_lt d_X5_readGuests_94 (by omega) (by omega) (fun c94 => absurd c94 (by omega)) (fun c94 => ?_)
        refine r_vret d_X5_readGuests_97 rfl ?_
        rw [hQ]
        exact ⟨rfl, rfl, rfl, rfl, fJ, fun k h4 => by rw [kJ k h4]; exact fk k h4, Or.inr ⟨w + 1, D2, hPJ, hA2, b7, b0.trans a0, b1.trans a1, by rw [b2]; omega, by omega, rooE J (fun _ _ => rfl), womE J (fun _ _ => rfl), rowE J (fun _ _ => rfl), by rw [J5]; omega⟩⟩
    have t69 : ∀ (I2 : sI) (p2 : Nat) (D2 : Sg), PGX pg len false p2 I2 → runA pg D0 p2 = some D2 → FH hb I I2 → (∀ a, a ≠ 4 → a ≠ hb + 15 + w → I2 a = I1 a) → chA (fun k => 10 ≤ k ∧ k < 14) D1 D2 w → (D2 20 7 = 22 ∨ (D2 20 7 = 21 ∧ (p2 < len → pg p2 ≠ 104))) → D2 20 2 = (w : Int) + 1 → D2 20 3 = D1 20 3 → D2 20 0 = D1 20 0 → D2 20 1 = D1 20 1 → (∀ k, k < 3 → I2 (hb + 15 + w) k = D2 (10 + k) w) → (0 ≤ D2 10 w ∧ D2 10 w ≤ 44) → (-1 ≤ D2 11 w ∧ D2 11 w ≤ 3) → (D2 12 w = 0 ∨ D2 12 w = 1) → Cp g 3 m_X5_readGuests 0 0 Q 69 LS [] (TT Ls tl) I2 L (RR tl) := by
      intro I2 p2 D2 hP2 hA2 f2 o hch b7 b2 b3 b0 b1 hrow d0 d1 d2
      rw [hLS]
      have hm : p2 < len → mstA D2 (pg p2) = if 49 ≤ pg p2 ∧ pg p2 ≤ 57 then some (scA (up2 D2 13 w (pg p2 - 48)) 7 23) else none := fun hl => by
        rw [mst_pln (by unfold NSA; omega)]
        unfold plnA
        have nx : ¬ (D2 20 7 = 21 ∧ pg p2 = 104) := fun q => by
          rcases b7 with h | h
          · omega
          · exact h.2 hl q.2
        rw [if_neg (by omega), if_neg (by omega), if_neg (by omega), if_neg (by omega), if_neg (by omega), if_neg (by omega), if_neg (by omega), if_neg (by omega), if_neg nx, if_pos (by omega), lc_of b2]
      have hdd := dh_rg (pg := pg) (len := len) (p := p2) (st := false)
      refine r_aload_n d_X5_readGuests_69 rfl ?_
      refine r_iconst d_X5_readGuests_70 ?_
      refine r_aload_n d_X5_readGuests_71 rfl ?_
      refine r_iconst d_X5_readGuests_72 ?_
      refine r_bipush d_X5_readGuests_73 (by decide) ?_
      refine r_V2i d_X5_readGuests_75 (w_X5_72 _ rfl) (tt_4 _ _) rfl rfl (c_digit hP2 (by omega) (by omega)) (by decide) (Nat.le_of_ble_eq_true rfl) (fun z75 T75 I75 L75 R75 h75 => ?_)
      obtain ⟨rfl, rfl, rfl, w1, w2, w3⟩ := h75
      refine r_iastJ (j := 3) d_X5_readGuests_78 (th2_14 _ _ hh hw) (by omega) rfl (by omega) (kk := ?_)
      rw [← hLS]
      have oL : ∀ (x : Int) (a : Nat), a ≠ 4 → a ≠ hb + 15 + w → up2 I75 (hb + 15 + w) 3 x a = I1 a := fun x a h4 h5 => by rw [up2_ne _ _ h5, w1.1 a h4]; exact o a h4 h5
      by_cases kd : 1 ≤ dhS pg len false p2 ∧ dhS pg len false p2 ≤ 9
      · obtain ⟨x1, x2⟩ := w2 kd
        obtain ⟨-, x3, x4⟩ := dh_ok (pg := pg) (len := len) (p := p2) (st := false) (by omega)
        obtain ⟨u, hu⟩ : ∃ u, u = dhS pg len false p2 := ⟨_, rfl⟩
        rw [← hu] at x1 x4 kd
        have eu : pg p2 - 48 = u := by omega
        rw [x1]
        obtain ⟨E, hE⟩ : ∃ E, E = scA (up2 D2 13 w u) 7 23 := ⟨_, rfl⟩
        have Go : ∀ i, i ≠ 7 → E 20 i = D2 20 i := fun i h7 => by rw [hE, sc_nj h7, up_20 (by decide)]
        have Gk : ∀ k, k ≠ 20 → k ≠ 13 → E k w = D2 k w := fun k h1 h2 => by rw [hE, sc_ne h1, up2_ne _ _ h2]
        have G13 : E 13 w = u := by rw [hE, sc_ne (by decide), up2_at]
        refine t79 _ (p2 + 1) E (PGX_up x2 (by omega)) (run_suc hA2 (by rw [hm x3, if_pos (by omega), eu, hE])) (FH_up hh (FH_pg f2 w1) (by omega)) (oL u) (by rw [hE]; exact chA_sc (chA_up hch (by decide))) (by rw [hE, sc_at]) (by rw [Go 2 (by decide)]; exact b2) (by rw [Go 3 (by decide)]; exact b3) (by rw [Go 0 (by decide)]; exact b0) (by rw [Go 1 (by decide)]; exact b1) (fun k hk => ?_) ?_
        · by_cases e3 : k = 3
          · rw [e3, up2_at]; exact G13.symm
          · rw [up2_nj _ _ e3, w1.1 _ (by omega), Gk (10 + k) (by omega) (by omega)]; exact hrow k (by omega)
        · unfold GV
          rw [Gk 10 (by decide) (by decide), Gk 11 (by decide) (by decide), Gk 12 (by decide) (by decide), G13]
          exact ⟨d0, d1, d2, kd⟩
      · obtain ⟨x1, x2⟩ := w3 kd
        rw [x1]
        refine ts79 _ p2 (PGX_up x2 (by omega)) (bad_of hA2 hP2.2.2.2.1 (by omega) (fun hl => ?_)) (FH_up hh (FH_pg f2 w1) (by omega)) (fun k h4 => by rw [oL 0 hb (by omega) (by omega)]; exact fk k h4)
        rw [hm hl, if_neg]
        intro q
        refine kd ?_
        unfold dhS
        rw [if_pos ⟨rfl, hl, by omega⟩]
        omega
    have t52 : ∀ (I2 : sI) (p2 : Nat) (D2 : Sg), PGX pg len false p2 I2 → runA pg D0 p2 = some D2 → FH hb I I2 → (∀ a, a ≠ 4 → a ≠ hb + 15 + w → I2 a = I1 a) → chA (fun k => 10 ≤ k ∧ k < 14) D1 D2 w → D2 20 7 = 21 → D2 20 2 = (w : Int) + 1 → D2 20 3 = D1 20 3 → D2 20 0 = D1 20 0 → D2 20 1 = D1 20 1 → (∀ k, k < 2 → I2 (hb + 15 + w) k = D2 (10 + k) w) → (0 ≤ D2 10 w ∧ D2 10 w ≤ 44) → (-1 ≤ D2 11 w ∧ D2 11 w ≤ 3) → D2 12 w = 0 → Cp g 3 m_X5_readGuests 0 0 Q 52 LS [] (TT Ls tl) I2 L (RR tl) := by
      intro I2 p2 D2 hP2 hA2 f2 o hch b7 b2 b3 b0 b1 hrow d0 d1 d2
      rw [hLS]
      have htk := c_takes (g := g) (Ls := Ls) (tl := tl) (L := L) hP2 (c := 104) (by omega)
      cases ht : tkS pg len false p2 104 with
      | true =>
        rw [ht, if_pos rfl, if_pos rfl] at htk
        obtain ⟨-, t1, t2⟩ := decide_eq_true_iff.mp ht
        have hm : mstA D2 (pg p2) = some (scA (up2 D2 12 w 1) 7 22) := by
          rw [mst_pln (by unfold NSA; omega)]
          unfold plnA
          rw [if_neg (by omega), if_neg (by omega), if_neg (by omega), if_neg (by omega), if_neg (by omega), if_neg (by omega), if_neg (by omega), if_neg (by omega), if_pos ⟨b7, t2⟩, lc_of b2]
        refine r_aload_n d_X5_readGuests_52 rfl ?_
        refine r_iconst d_X5_readGuests_53 ?_
        refine r_aload_n d_X5_readGuests_54 rfl ?_
        refine r_bipush d_X5_readGuests_55 (by decide) ?_
        refine r_V1i d_X5_readGuests_57 (w_X5_60 _ rfl) (tt_4 _ _) rfl rfl (htk) (by decide) (Nat.le_of_ble_eq_true rfl) (fun z57 T57 I57 L57 R57 h57 => ?_)
        obtain ⟨rfl, rfl, rfl, rfl, y1, y3⟩ := h57
        refine r_if_eq d_X5_readGuests_60 (by omega) (fun c60 => absurd c60 (by decide)) (fun c60 => ?_)
        refine r_iconst d_X5_readGuests_63 ?_
        refine r_goto d_X5_readGuests_64 ?_
        refine r_iastJ (j := 2) d_X5_readGuests_68 (th2_14 _ _ hh hw) (by omega) rfl (by omega) (kk := ?_)
        rw [← hLS]
        have oL : ∀ (a : Nat), a ≠ 4 → a ≠ hb + 15 + w → up2 I57 (hb + 15 + w) 2 1 a = I1 a := fun a h4 h5 => by rw [up2_ne _ _ h5, y1.1 a h4]; exact o a h4 h5
        obtain ⟨E, hE⟩ : ∃ E, E = scA (up2 D2 12 w 1) 7 22 := ⟨_, rfl⟩
        have Go : ∀ i, i ≠ 7 → E 20 i = D2 20 i := fun i h7 => by rw [hE, sc_nj h7, up_20 (by decide)]
        have Gk : ∀ k, k ≠ 20 → k ≠ 12 → E k w = D2 k w := fun k h1 h2 => by rw [hE, sc_ne h1, up2_ne _ _ h2]
        have G12 : E 12 w = 1 := by rw [hE, sc_ne (by decide), up2_at]
        refine t69 _ (p2 + 1) E (PGX_up y3 (by omega)) (run_suc hA2 (by rw [hm, hE])) (FH_up hh (FH_pg f2 y1) (by omega)) oL (by rw [hE]; exact chA_sc (chA_up hch (by decide))) (Or.inl (by rw [hE, sc_at])) (by rw [Go 2 (by decide)]; exact b2) (by rw [Go 3 (by decide)]; exact b3) (by rw [Go 0 (by decide)]; exact b0) (by rw [Go 1 (by decide)]; exact b1) (fun k hk => ?_) (by rw [Gk 10 (by decide) (by decide)]; exact d0) (by rw [Gk 11 (by decide) (by decide)]; exact d1) (Or.inr G12)
        by_cases e2 : k = 2
        · rw [e2, up2_at]; exact G12.symm
        · rw [up2_nj _ _ e2, y1.1 _ (by omega), Gk (10 + k) (by omega) (by omega)]; exact hrow k (by omega)
      | false =>
        rw [ht, if_neg (by decide), if_neg (by decide)] at htk
        refine r_aload_n d_X5_readGuests_52 rfl ?_
        refine r_iconst d_X5_readGuests_53 ?_
        refine r_aload_n d_X5_readGuests_54 rfl ?_
        refine r_bipush d_X5_readGuests_55 (by decide) ?_
        refine r_V1i d_X5_readGuests_57 (w_X5_60 _ rfl) (tt_4 _ _) rfl rfl (htk) (by decide) (Nat.le_of_ble_eq_true rfl) (fun z57 T57 I57 L57 R57 h57 => ?_)
        obtain ⟨rfl, rfl, rfl, rfl, y1, y3⟩ := h57
        refine r_if_eq d_X5_readGuests_60 (by omega) (fun c60 => ?_) (fun c60 => absurd c60 (by decide))
        refine r_iconst d_X5_readGuests_67 ?_
        refine r_iastJ (j := 2) d_X5_readGuests_68 (th2_14 _ _ hh hw) (by omega) rfl (by omega) (kk := ?_)
        rw [← hLS]
        have oL : ∀ (a : Nat), a ≠ 4 → a ≠ hb + 15 + w → up2 I57 (hb + 15 + w) 2 0 a = I1 a := fun a h4 h5 => by rw [up2_ne _ _ h5, y1.1 a h4]; exact o a h4 h5
        refine t69 _ p2 D2 (PGX_up y3 (by omega)) hA2 (FH_up hh (FH_pg f2 y1) (by omega)) oL hch (Or.inr ⟨b7, fun hl q => of_decide_eq_false ht ⟨rfl, hl, q⟩⟩) b2 b3 b0 b1 (fun k hk => ?_) d0 d1 (Or.inl d2)
        by_cases e2 : k = 2
        · rw [e2, up2_at]; exact d2.symm
        · rw [up2_nj _ _ e2, y1.1 _ (by omega)]; exact hrow k (by omega)
    have t32 : ∀ (I2 : sI) (p2 : Nat) (D2 : Sg), PGX pg len false p2 I2 → runA pg D0 p2 = some D2 → FH hb I I2 → (∀ a, a ≠ 4 → a ≠ hb + 15 + w → I2 a = I1 a) → chA (fun k => 10 ≤ k ∧ k < 14) D1 D2 w → D2 20 7 = 20 → D2 20 2 = (w : Int) → D2 20 3 = D1 20 3 → D2 20 0 = D1 20 0 → D2 20 1 = D1 20 1 → D2 20 5 = 0 → (0 ≤ D2 20 4 ∧ D2 20 4 ≤ 44) → (p2 < len → ftA D2 (pg p2) = false) → I2 (hb + 15 + w) 0 = D2 20 4 → Cp g 3 m_X5_readGuests 0 0 Q 32 LS [] (TT Ls tl) I2 L (RR tl) := by
      intro I2 p2 D2 hP2 hA2 f2 o hch b7 b2 b3 b0 b1 b5 b4 hnf r0
      rw [hLS]
      have hm : p2 < len → mstA D2 (pg p2) = if (97 ≤ pg p2 ∧ pg p2 ≤ 100) ∨ pg p2 = 120 then some (scA (scA (up2 (up2 (up2 D2 10 w (D2 20 4)) 11 w (if pg p2 = 120 then -1 else pg p2 - 97)) 12 w 0) 2 ((w : Int) + 1)) 7 21) else none := fun hl => by
        rw [mst_end (by unfold NSA; omega) (hnf hl) (by omega)]
        unfold endA
        rw [if_neg (by omega), if_neg (by omega), if_neg (by omega), b2, Int.toNat_natCast]
      have fin : ∀ (I3 : sI) (x : Int), p2 < len → ((97 ≤ pg p2 ∧ pg p2 ≤ 100) ∨ pg p2 = 120) → x = (if pg p2 = 120 then -1 else pg p2 - 97) → (-1 ≤ x ∧ x ≤ 3) → PGX pg len false (p2 + 1) I3 → FH hb I I3 → (∀ a, a ≠ 4 → I3 a = I2 a) → Cp g 3 m_X5_readGuests 0 0 Q 52 LS [] (TT Ls tl) (up2 I3 (hb + 15 + w) 1 x) L (RR tl) := by
        intro I3 x hl hc hx hxb hP3 f3 o3
        obtain ⟨E, hE⟩ : ∃ E, E = scA (scA (up2 (up2 (up2 D2 10 w (D2 20 4)) 11 w x) 12 w 0) 2 ((w : Int) + 1)) 7 21 := ⟨_, rfl⟩
        have Go : ∀ i, i ≠ 7 → i ≠ 2 → E 20 i = D2 20 i := fun i h7 h2 => by rw [hE, sc_nj h7, sc_nj h2, up_20 (by decide), up_20 (by decide), up_20 (by decide)]
        have G10 : E 10 w = D2 20 4 := by rw [hE, sc_ne (by decide), sc_ne (by decide), up2_ne _ _ (by decide), up2_ne _ _ (by decide), up2_at]
        have G11 : E 11 w = x := by rw [hE, sc_ne (by decide), sc_ne (by decide), up2_ne _ _ (by decide), up2_at]
        have G12 : E 12 w = 0 := by rw [hE, sc_ne (by decide), sc_ne (by decide), up2_at]
        refine t52 _ (p2 + 1) E (PGX_up hP3 (by omega)) (run_suc hA2 (by rw [hm hl, if_pos hc, hE, hx])) (FH_up hh f3 (by omega)) (fun a h4 h5 => by rw [up2_ne _ _ h5, o3 a h4]; exact o a h4 h5) (by rw [hE]; exact chA_sc (chA_sc (chA_up (chA_up (chA_up hch (by decide)) (by decide)) (by decide)))) (by rw [hE, sc_at]) (by rw [hE, sc_nj (by decide), sc_at]) (by rw [Go 3 (by decide) (by decide)]; exact b3) (by rw [Go 0 (by decide) (by decide)]; exact b0) (by rw [Go 1 (by decide) (by decide)]; exact b1) (fun k hk => ?_) (by rw [G10]; exact b4) (by rw [G11]; exact hxb) G12
        by_cases e1 : k = 1
        · rw [e1, up2_at]; exact G11.symm
        · rw [show k = 0 by omega, up2_nj _ _ (by decide), o3 _ (by omega), r0]; exact G10.symm
      have htk := c_takes (g := g) (Ls := Ls) (tl := tl) (L := L) hP2 (c := 120) (by omega)
      cases ht : tkS pg len false p2 120 with
      | true =>
        rw [ht, if_pos rfl, if_pos rfl] at htk
        obtain ⟨-, t1, t2⟩ := decide_eq_true_iff.mp ht
        refine r_aload_n d_X5_readGuests_32 rfl ?_
        refine r_iconst d_X5_readGuests_33 ?_
        refine r_aload_n d_X5_readGuests_34 rfl ?_
        refine r_bipush d_X5_readGuests_35 (by decide) ?_
        refine r_V1i d_X5_readGuests_37 (w_X5_60 _ rfl) (tt_4 _ _) rfl rfl (htk) (by decide) (Nat.le_of_ble_eq_true rfl) (fun z37 T37 I37 L37 R37 h37 => ?_)
        obtain ⟨rfl, rfl, rfl, rfl, y1, y3⟩ := h37
        refine r_if_eq d_X5_readGuests_40 (by omega) (fun c40 => absurd c40 (by decide)) (fun c40 => ?_)
        refine r_iconst d_X5_readGuests_43 ?_
        refine r_goto d_X5_readGuests_44 ?_
        refine r_iastJ (j := 1) d_X5_readGuests_51 (th2_14 _ _ hh hw) (by omega) rfl (by omega) (kk := ?_)
        rw [← hLS]
        exact fin I37 (-1) t1 (Or.inr t2) (by rw [if_pos t2]) (by omega) y3 (FH_pg f2 y1) y1.1
      | false =>
        rw [ht, if_neg (by decide), if_neg (by decide)] at htk
        have n120 : p2 < len → pg p2 ≠ 120 := fun hl q => of_decide_eq_false ht ⟨rfl, hl, q⟩
        refine r_aload_n d_X5_readGuests_32 rfl ?_
        refine r_iconst d_X5_readGuests_33 ?_
        refine r_aload_n d_X5_readGuests_34 rfl ?_
        refine r_bipush d_X5_readGuests_35 (by decide) ?_
        refine r_V1i d_X5_readGuests_37 (w_X5_60 _ rfl) (tt_4 _ _) rfl rfl (htk) (by decide) (Nat.le_of_ble_eq_true rfl) (fun z37 T37 I37 L37 R37 h37 => ?_)
        obtain ⟨rfl, rfl, rfl, rfl, y1, y3⟩ := h37
        refine r_if_eq d_X5_readGuests_40 (by omega) (fun c40 => ?_) (fun c40 => absurd c40 (by decide))
        refine r_aload_n d_X5_readGuests_47 rfl ?_
        refine r_V0i d_X5_readGuests_48 (w_X5_76 _ rfl) (tt_4 _ _) rfl rfl (c_sort y3) (by decide) (Nat.le_of_ble_eq_true rfl) (fun z48 T48 I48 L48 R48 h48 => ?_)
        obtain ⟨rfl, rfl, rfl, w1, w2, w3⟩ := h48
        refine r_iastJ (j := 1) d_X5_readGuests_51 (th2_14 _ _ hh hw) (by omega) rfl (by omega) (kk := ?_)
        rw [← hLS]
        have f5 := FH_pg (FH_pg f2 y1) w1
        have o5 : ∀ a, a ≠ 4 → I48 a = I2 a := fun a ha => by rw [w1.1 a ha, y1.1 a ha]
        by_cases kd : p2 < len ∧ 97 ≤ pg p2 ∧ pg p2 ≤ 100
        · have es : soS pg len false p2 = pg p2 - 97 := by unfold soS; rw [if_pos ⟨rfl, kd⟩]
          obtain ⟨x1, x2⟩ := w2 (by omega)
          exact fin I48 z48 kd.1 (Or.inl kd.2) (by rw [if_neg (n120 kd.1), x1, es]) (by omega) x2 f5 o5
        · have es : soS pg len false p2 = -1 := by unfold soS; rw [if_neg (fun q => kd q.2)]
          obtain ⟨x1, x2⟩ := w3 (by omega)
          refine ts52 _ p2 (PGX_up x2 (by omega)) (bad_of hA2 hP2.2.2.2.1 (by omega) (fun hl => ?_)) (FH_up hh f5 (by omega)) (fun k h4 => by rw [up2_ne _ _ (by omega), o5 hb (by omega), o hb (by omega) (by omega)]; exact fk k h4)
          rw [hm hl, if_neg]
          intro q
          rcases q with q | q
          · exact kd ⟨hl, q⟩
          · exact n120 hl q
    have hnum := num_run (pg := pg) (len := len) (lo := 0) (hi := 44) hA1 hP1.2.2.2.1 (by unfold NSA; omega) a4 a5 a6 (by omega)
    refine r_iload_n d_X5_readGuests_2 rfl ?_
    refine r_bipush d_X5_readGuests_3 (by decide) ?_
    refine r_icmp_ge d_X5_readGuests_5 (by omega) (by omega) (fun c5 => absurd c5 (by omega)) (fun c5 => ?_)
    refine r_aload_n d_X5_readGuests_8 rfl ?_
    refine r_geti d_X5_readGuests_9 f_X5_31 (tt_4 _ _) (by decide) (by decide) ?_
    rw [h5]
    refine r_if_ne d_X5_readGuests_12 (by omega) (fun c12 => absurd c12 (by decide)) (fun c12 => ?_)
    refine r_aload_n d_X5_readGuests_15 rfl ?_
    refine r_getr d_X5_readGuests_16 f_X5_99 (th_0 _ _ hh) (by decide) rfl (rh_2 _ hh) ?_
    refine r_iload_n d_X5_readGuests_19 rfl ?_
    refine r_aaldJ d_X5_readGuests_20 (th_14 _ _ hh) (by decide) rfl (by omega) (rh2_14 _ hh (by omega)) (kk := ?_)
    refine r_astore_n d_X5_readGuests_21 (by decide) ?_
    refine r_aload_n d_X5_readGuests_22 rfl ?_
    refine r_iconst d_X5_readGuests_23 ?_
    refine r_aload_n d_X5_readGuests_24 rfl ?_
    refine r_iconst d_X5_readGuests_25 ?_
    refine r_bipush d_X5_readGuests_26 (by decide) ?_
    refine r_V2i d_X5_readGuests_28 (w_X5_84 _ rfl) (tt_4 _ _) rfl rfl (c_number (lo := 0) (hi := 44) hP1 (by omega) (by omega)) (by decide) (Nat.le_of_ble_eq_true rfl) (fun z28 T28 I28 L28 R28 h28 => ?_)
    obtain ⟨rfl, rfl, rfl, y1, y2, y3⟩ := h28
    refine r_iastJ (j := 0) d_X5_readGuests_31 (th2_14 _ _ hh (by omega)) (by omega) rfl (by omega) (kk := ?_)
    refine CpL (ls' := LS) ?_ (by rw [hLS]; repeat (first | exact trivial | refine ⟨rfl, ?_⟩))
    obtain ⟨N, hN⟩ : ∃ N, N = nmS pg len false p1 0 44 := ⟨_, rfl⟩
    rw [← hN] at hnum y2 y3
    have oL : ∀ (a : Nat), a ≠ 4 → a ≠ hb + 15 + w → up2 I28 (hb + 15 + w) 0 z28 a = I1 a := fun a h4 h5 => by rw [up2_ne _ _ h5, y1.1 a h4]
    cases hst : N.1 with
    | true =>
      rw [hst] at y3
      exact ts32 _ _ (PGX_up y3 (by omega)) (hnum.1 hst) (FH_up hh (FH_pg f y1) (by omega)) (fun k h4 => by rw [oL hb (by omega) (by omega)]; exact fk k h4)
    | false =>
      obtain ⟨n1, n2, n3, n4⟩ := hnum.2 hst
      rw [hst] at y3
      exact t32 _ _ _ (PGX_up y3 (by omega)) n2 (FH_up hh (FH_pg f y1) (by omega)) oL (chA_sc chA_rf) (by rw [sc_nj (by decide)]; exact a7) (by rw [sc_nj (by decide)]; exact a2) (sc_nj (by decide)) (sc_nj (by decide)) (sc_nj (by decide)) (by rw [sc_nj (by decide)]; exact a5) (by rw [sc_at]; exact n3) n4 (by rw [up2_at, sc_at]; exact y2)
  have loop : ∀ (n w : Nat) (I1 : sI) (p1 : Nat) (D1 : Sg), w + n = 7 → PGX pg len false p1 I1 → runA pg D0 p1 = some D1 → D1 20 7 = 20 → D1 20 4 = -1 → D1 20 5 = 0 → D1 20 6 = 44 → D1 20 2 = (w : Int) → RDX D1 hb nr I1 → WDX D1 hb nw I1 → GDX D1 hb w I1 → D1 20 0 = D 20 0 → D1 20 1 = D 20 1 → FH hb I I1 → (∀ k, k ≠ 5 → I1 hb k = I hb k) → Cp g 3 m_X5_readGuests 0 0 Q 2 [(0, vr 4), (1, vr hb), (2, vi (w : Int))] [] (TT Ls tl) I1 L (RR tl) := by
    intro n
    induction n with
    | zero =>
      intro w I1 p1 D1 hrn h1 h2 h3 h4 h5 h6 h7 h8 h9 h10 h11 h12 h13 h14
      exact step w I1 p1 D1 (by omega) h1 h2 h3 h4 h5 h6 h7 h8 h9 h10 h11 h12 h13 h14 (fun h => absurd h (by omega))
    | succ n ih =>
      intro w I1 p1 D1 hrn h1 h2 h3 h4 h5 h6 h7 h8 h9 h10 h11 h12 h13 h14
      exact step w I1 p1 D1 (by omega) h1 h2 h3 h4 h5 h6 h7 h8 h9 h10 h11 h12 h13 h14 (fun _ I2 p2 D2 => ih (w + 1) I2 p2 D2 (by omega))
  refine r_iconst d_X5_readGuests_0 ?_
  refine r_istore_n d_X5_readGuests_1 (by decide) ?_
  exact CpL (loop 7 0 I p D (by omega) hP hA hs hs4 hs5 hs6 hg0 hR hW (fun i h => absurd h (by omega)) rfl rfl FH_rf (fun _ _ => rfl)) (by repeat (first | exact trivial | refine ⟨rfl, ?_⟩))
end C67
