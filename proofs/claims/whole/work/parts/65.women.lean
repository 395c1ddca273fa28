/-- behind all rooms -/
def RRS (pg : Nat → Int) (len : Nat) (D0 D : Sg) (hb p' nr : Nat) (D' : Sg) (I' : sI) : Prop := PGX pg len false p' I' ∧ runA pg D0 p' = some D' ∧ D' 20 7 = 10 ∧ D' 20 0 = (nr : Int) ∧ (1 ≤ nr ∧ nr ≤ 8) ∧ RDX D' hb nr I' ∧ I' hb 3 = (nr : Int) ∧ D' 20 1 = D 20 1 ∧ D' 20 2 = D 20 2
theorem cpl_20 {D : Sg} {i : Nat} : cplA D 20 i = D 20 i := by
  unfold cplA
  split
  · exact up_20 (by decide)
  · exact up_20 (by decide)
theorem RDX_sc {D : Sg} {hb r : Nat} {I : sI} {x : Int} (h : RDX D hb r I) : RDX (scA D 7 x) hb r I := RDX_D h (fun k i hk _ => by rw [sc_ne (by omega)]) (sc_nj (by decide))
section C65
variable {g : sG} {Ls : Nat} {tl : List Nat} {I L : sI} {pg : Nat → Int} {len p hb : Nat} {D0 D : Sg}
theorem c_readRooms (hh : hb = 8 ∨ hb = 35) (hP : PGX pg len false p I) (hA : runA pg D0 p = some D) (hs : D 20 7 = 0) (hr0 : D 20 0 = 0) (hR : RDX D hb 0 I) : Mc g 4 m_X5_readRooms 0 0 [vr 4, vr hb] (TT Ls tl) I L (RR tl) (qV fun T' I' L' R' => T' = TT Ls tl ∧ R' = RR tl ∧ L' = L ∧ FH hb I I' ∧ (∀ k, k ≠ 6 → k ≠ 3 → I' hb k = I hb k) ∧ ((∃ p', PGX pg len true p' I' ∧ badA pg len D0 p') ∨ (∃ p' nr D', RRS pg len D0 D hb p' nr D' I'))) := by
  refine Mc_of rfl (Nat.le_of_ble_eq_true rfl) ?_
  obtain ⟨Q, hQ⟩ : ∃ Q : sQ, Q = (qV fun T' I' L' R' => T' = TT Ls tl ∧ R' = RR tl ∧ L' = L ∧ FH hb I I' ∧ (∀ k, k ≠ 6 → k ≠ 3 → I' hb k = I hb k) ∧ ((∃ p', PGX pg len true p' I' ∧ badA pg len D0 p') ∨ (∃ p' nr D', RRS pg len D0 D hb p' nr D' I'))) := ⟨_, rfl⟩
  rw [← hQ]
  have ls : ∀ (I1 : sI) (r p1 : Nat), r ≤ 8 → PGX pg len true p1 I1 → badA pg len D0 p1 → FH hb I I1 → (∀ k, k ≠ 6 → k ≠ 3 → I1 hb k = I hb k) → Cp g 4 m_X5_readRooms 0 0 Q 2 [(0, vr 4), (1, vr hb), (2, vi (r : Int))] [] (TT Ls tl) I1 L (RR tl) := by
    intro I1 r p1 hr hP1 hb1 f fk
    have h5 : I1 4 3 = 1 := hP1.2.2.2.2.1
    refine r_iload_n d_X5_readRooms_2 rfl ?_
    refine r_bipush d_X5_readRooms_3 (by decide) ?_
    refine r_icmp_ge d_X5_readRooms_5 (by omega) (by omega) (fun c5 => ?_) (fun c5 => ?_)
    · refine r_vret d_X5_readRooms_61 rfl ?_
      rw [hQ]
      exact ⟨rfl, rfl, rfl, rfl, f, fk, Or.inl ⟨p1, hP1, hb1⟩⟩
    · refine r_aload_n d_X5_readRooms_8 rfl ?_
      refine r_geti d_X5_readRooms_9 f_X5_31 (tt_4 _ _) (by decide) (by decide) ?_
      rw [h5]
      refine r_if_ne d_X5_readRooms_12 (by omega) (fun c12 => ?_) (fun c12 => absurd c12 (by decide))
      refine r_vret d_X5_readRooms_61 rfl ?_
      rw [hQ]
      exact ⟨rfl, rfl, rfl, rfl, f, fk, Or.inl ⟨p1, hP1, hb1⟩⟩
  have step : ∀ (r : Nat) (I1 : sI) (p1 : Nat) (D1 : Sg), r < 8 → PGX pg len false p1 I1 → runA pg D0 p1 = some D1 → D1 20 7 = 0 → D1 20 0 = (r : Int) → RDX D1 hb r I1 → D1 20 1 = D 20 1 → D1 20 2 = D 20 2 → FH hb I I1 → (∀ k, k ≠ 6 → k ≠ 3 → I1 hb k = I hb k) → (r + 1 < 8 → ∀ (I2 : sI) (p2 : Nat) (D2 : Sg), PGX pg len false p2 I2 → runA pg D0 p2 = some D2 → D2 20 7 = 0 → D2 20 0 = ((r + 1 : Nat) : Int) → RDX D2 hb (r + 1) I2 → D2 20 1 = D 20 1 → D2 20 2 = D 20 2 → FH hb I I2 → (∀ k, k ≠ 6 → k ≠ 3 → I2 hb k = I hb k) → Cp g 4 m_X5_readRooms 0 0 Q 2 [(0, vr 4), (1, vr hb), (2, vi ((r + 1 : Nat) : Int))] [] (TT Ls tl) I2 L (RR tl)) → Cp g 4 m_X5_readRooms 0 0 Q 2 [(0, vr 4), (1, vr hb), (2, vi (r : Int))] [] (TT Ls tl) I1 L (RR tl) := by
    intro r I1 p1 D1 hr hP1 hA1 a7 a0 hR1 a1 a2 f fk next
    have h5 : I1 4 3 = 0 := hP1.2.2.2.2.1
    have t21s : ∀ (I2 : sI) (p2 : Nat), PGX pg len true p2 I2 → badA pg len D0 p2 → FH hb I I2 → (∀ k, k ≠ 6 → k ≠ 3 → I2 hb k = I hb k) → Cp g 4 m_X5_readRooms 0 0 Q 21 [(0, vr 4), (1, vr hb), (2, vi (r : Int))] [] (TT Ls tl) I2 L (RR tl) := by
      intro I2 p2 hP2 hb2 f2 fk2
      have hP3 : PGX pg len true p2 (up2 I2 hb 3 ((r : Int) + 1)) := PGX_up hP2 (by omega)
      have f3 : FH hb I (up2 I2 hb 3 ((r : Int) + 1)) := FH_up hh f2 (by omega)
      have fk3 : ∀ k, k ≠ 6 → k ≠ 3 → up2 I2 hb 3 ((r : Int) + 1) hb k = I hb k := fun k h6 h3 => by rw [up2_nj _ _ h3]; exact fk2 k h6 h3
      by_cases k8 : r + 1 < 8
      · skip
        refine r_aload_n d_X5_readRooms_21 rfl ?_
        refine r_iload_n d_X5_readRooms_22 rfl ?_
        refine r_iconst d_X5_readRooms_23 ?_
        refine r_iadd d_X5_readRooms_24 ?_
        refine r_puti d_X5_readRooms_25 f_X5_57 (th_0 _ _ hh) (by decide) (Or.inl rfl) ?_
        refine r_aload_n d_X5_readRooms_28 rfl ?_
        refine r_bipush d_X5_readRooms_29 (by decide) ?_
        refine r_V1i d_X5_readRooms_31 (w_X5_60 _ rfl) (tt_4 _ _) rfl rfl (c_takes hP3 (by omega)) (by decide) (Nat.le_of_ble_eq_true rfl) (fun z31 T31 I31 L31 R31 h31 => ?_)
        obtain ⟨rfl, rfl, rfl, rfl, y1, y3⟩ := h31
        rw [tk_st, if_neg (by decide)] at y3
        refine r_if_eq d_X5_readRooms_34 (by rw [tk_st, if_neg (by decide)]; omega) (fun c34 => ?_) (fun c34 => absurd c34 (by rw [tk_st, if_neg (by decide)]; decide))
        refine r_aload_n d_X5_readRooms_38 rfl ?_
        refine r_iload_n d_X5_readRooms_39 rfl ?_
        refine r_iconst d_X5_readRooms_40 ?_
        refine r_iadd d_X5_readRooms_41 ?_
        refine r_bipush d_X5_readRooms_42 (by decide) ?_
        refine r_icmp_ge d_X5_readRooms_44 (by omega) (by omega) (fun c44 => absurd c44 (by omega)) (fun c44 => ?_)
        refine r_iconst d_X5_readRooms_47 ?_
        refine r_goto d_X5_readRooms_48 ?_
        refine r_V1v d_X5_readRooms_52 (w_X5_64 _ rfl) (tt_4 _ _) rfl rfl (c_needsAnother (b := true) y3) (by decide) (Nat.le_of_ble_eq_true rfl) (fun T52 I52 L52 R52 h52 => ?_)
        obtain ⟨rfl, rfl, rfl, w1, w3⟩ := h52
        rw [tk_st, Bool.and_false, if_neg (by decide)] at w3
        refine r_iinc d_X5_readRooms_55 rfl (by decide) ?_
        refine r_goto d_X5_readRooms_58 ?_
        exact CpL (ls I52 (r + 1) p2 (by omega) w3 hb2 (FH_pg (FH_pg f3 y1) w1) (fun k h6 h3 => by rw [w1.1 hb (by omega), y1.1 hb (by omega)]; exact fk3 k h6 h3)) (by repeat (first | exact trivial | refine ⟨rfl, ?_⟩))
      · skip
        refine r_aload_n d_X5_readRooms_21 rfl ?_
        refine r_iload_n d_X5_readRooms_22 rfl ?_
        refine r_iconst d_X5_readRooms_23 ?_
        refine r_iadd d_X5_readRooms_24 ?_
        refine r_puti d_X5_readRooms_25 f_X5_57 (th_0 _ _ hh) (by decide) (Or.inl rfl) ?_
        refine r_aload_n d_X5_readRooms_28 rfl ?_
        refine r_bipush d_X5_readRooms_29 (by decide) ?_
        refine r_V1i d_X5_readRooms_31 (w_X5_60 _ rfl) (tt_4 _ _) rfl rfl (c_takes hP3 (by omega)) (by decide) (Nat.le_of_ble_eq_true rfl) (fun z31 T31 I31 L31 R31 h31 => ?_)
        obtain ⟨rfl, rfl, rfl, rfl, y1, y3⟩ := h31
        rw [tk_st, if_neg (by decide)] at y3
        refine r_if_eq d_X5_readRooms_34 (by rw [tk_st, if_neg (by decide)]; omega) (fun c34 => ?_) (fun c34 => absurd c34 (by rw [tk_st, if_neg (by decide)]; decide))
        refine r_aload_n d_X5_readRooms_38 rfl ?_
        refine r_iload_n d_X5_readRooms_39 rfl ?_
        refine r_iconst d_X5_readRooms_40 ?_
        refine r_iadd d_X5_readRooms_41 ?_
        refine r_bipush d_X5_readRooms_42 (by decide) ?_
        refine r_icmp_ge d_X5_readRooms_44 (by omega) (by omega) (fun c44 => ?_) (fun c44 => absurd c44 (by omega))
        refine r_iconst d_X5_readRooms_51 ?_
        refine r_V1v d_X5_readRooms_52 (w_X5_64 _ rfl) (tt_4 _ _) rfl rfl (c_needsAnother (b := false) y3) (by decide) (Nat.le_of_ble_eq_true rfl) (fun T52 I52 L52 R52 h52 => ?_)
        obtain ⟨rfl, rfl, rfl, w1, w3⟩ := h52
        rw [Bool.false_and, if_neg (by decide)] at w3
        refine r_iinc d_X5_readRooms_55 rfl (by decide) ?_
        refine r_goto d_X5_readRooms_58 ?_
        exact CpL (ls I52 (r + 1) p2 (by omega) w3 hb2 (FH_pg (FH_pg f3 y1) w1) (fun k h6 h3 => by rw [w1.1 hb (by omega), y1.1 hb (by omega)]; exact fk3 k h6 h3)) (by repeat (first | exact trivial | refine ⟨rfl, ?_⟩))
    have t21 : ∀ (I2 : sI) (p2 : Nat) (D2 : Sg), RBH pg len D0 D1 hb r p2 D2 I2 → FH hb I I2 → (∀ k, k ≠ 6 → k ≠ 3 → I2 hb k = I hb k) → Cp g 4 m_X5_readRooms 0 0 Q 21 [(0, vr 4), (1, vr hb), (2, vi (r : Int))] [] (TT Ls tl) I2 L (RR tl) := by
      intro I2 p2 D2 ⟨hP2, hA2, b7, b0, b5, bf, b47, hR2, b1, b2⟩ f2 fk2
      have hP3 : PGX pg len false p2 (up2 I2 hb 3 ((r : Int) + 1)) := PGX_up hP2 (by omega)
      have f3 : FH hb I (up2 I2 hb 3 ((r : Int) + 1)) := FH_up hh f2 (by omega)
      have fk3 : ∀ k, k ≠ 6 → k ≠ 3 → up2 I2 hb 3 ((r : Int) + 1) hb k = I hb k := fun k h6 h3 => by rw [up2_nj _ _ h3]; exact fk2 k h6 h3
      have hR3 : RDX (cplA D2) hb (r + 1) (up2 I2 hb 3 ((r : Int) + 1)) := RDX_I hR2 (fun i _ => up2_ne _ _ (by omega)) (up2_ne _ _ (by omega)) (up2_nj _ _ (by decide))
      have hns : NSA D2 := by unfold NSA; omega
      have h23 : D2 20 7 ≠ 23 := by omega
      have hm : p2 < len → mstA D2 (pg p2) = if pg p2 = 44 then (if D2 20 0 < 8 then some (scA (cplA D2) 7 0) else none) else if pg p2 = 59 then some (scA (cplA D2) 7 10) else none := fun hl => by
        rw [mst_end hns (bf hl) (by omega)]
        unfold endA
        rw [if_pos b7, if_neg (fun q => b47 q.1 q.2.2 hl q.2.1)]
      have htk := c_takes (g := g) (Ls := Ls) (tl := tl) (L := L) hP3 (c := 59) (by omega)
      cases ht : tkS pg len false p2 59 with
      | true =>
        rw [ht, if_pos rfl, if_pos rfl] at htk
        obtain ⟨-, t1, t2⟩ := decide_eq_true_iff.mp ht
        refine r_aload_n d_X5_readRooms_21 rfl ?_
        refine r_iload_n d_X5_readRooms_22 rfl ?_
        refine r_iconst d_X5_readRooms_23 ?_
        refine r_iadd d_X5_readRooms_24 ?_
        refine r_puti d_X5_readRooms_25 f_X5_57 (th_0 _ _ hh) (by decide) (Or.inl rfl) ?_
        refine r_aload_n d_X5_readRooms_28 rfl ?_
        refine r_bipush d_X5_readRooms_29 (by decide) ?_
        refine r_V1i d_X5_readRooms_31 (w_X5_60 _ rfl) (tt_4 _ _) rfl rfl (htk) (by decide) (Nat.le_of_ble_eq_true rfl) (fun z31 T31 I31 L31 R31 h31 => ?_)
        obtain ⟨rfl, rfl, rfl, rfl, y1, y3⟩ := h31
        refine r_if_eq d_X5_readRooms_34 (by omega) (fun c34 => absurd c34 (by decide)) (fun c34 => ?_)
        refine r_vret d_X5_readRooms_37 rfl ?_
        rw [hQ]
        refine ⟨rfl, rfl, rfl, rfl, FH_pg f3 y1, fun k h6 h3 => by rw [y1.1 hb (by omega)]; exact fk3 k h6 h3, Or.inr ⟨p2 + 1, r + 1, scA (cplA D2) 7 10, y3, run_suc hA2 (by rw [hm t1, if_neg (by omega), if_pos t2]), sc_at, by rw [sc_nj (by decide), cpl_20, b0]; omega, by omega, ?_, ?_, by rw [sc_nj (by decide), cpl_20, b1]; exact a1, by rw [sc_nj (by decide), cpl_20, b2]; exact a2⟩⟩
        · exact RDX_sc (RDX_I hR3 (fun i _ => y1.1 _ (by omega)) (y1.1 _ (by omega)) (by rw [y1.1 hb (by omega)]))
        · rw [y1.1 hb (by omega), up2_at]; omega
      | false =>
        rw [ht, if_neg (by decide), if_neg (by decide)] at htk
        have n59 : p2 < len → pg p2 ≠ 59 := fun hl q => of_decide_eq_false ht ⟨rfl, hl, q⟩
        by_cases k8 : r + 1 < 8
        · skip
          refine r_aload_n d_X5_readRooms_21 rfl ?_
          refine r_iload_n d_X5_readRooms_22 rfl ?_
          refine r_iconst d_X5_readRooms_23 ?_
          refine r_iadd d_X5_readRooms_24 ?_
          refine r_puti d_X5_readRooms_25 f_X5_57 (th_0 _ _ hh) (by decide) (Or.inl rfl) ?_
          refine r_aload_n d_X5_readRooms_28 rfl ?_
          refine r_bipush d_X5_readRooms_29 (by decide) ?_
          refine r_V1i d_X5_readRooms_31 (w_X5_60 _ rfl) (tt_4 _ _) rfl rfl (htk) (by decide) (Nat.le_of_ble_eq_true rfl) (fun z31 T31 I31 L31 R31 h31 => ?_)
          obtain ⟨rfl, rfl, rfl, rfl, y1, y3⟩ := h31
          refine r_if_eq d_X5_readRooms_34 (by omega) (fun c34 => ?_) (fun c34 => absurd c34 (by decide))
          refine r_aload_n d_X5_readRooms_38 rfl ?_
          refine r_iload_n d_X5_readRooms_39 rfl ?_
          refine r_iconst d_X5_readRooms_40 ?_
          refine r_iadd d_X5_readRooms_41 ?_
          refine r_bipush d_X5_readRooms_42 (by decide) ?_
          refine r_icmp_ge d_X5_readRooms_44 (by omega) (by omega) (fun c44 => absurd c44 (by omega)) (fun c44 => ?_)
          refine r_iconst d_X5_readRooms_47 ?_
          refine r_goto d_X5_readRooms_48 ?_
          refine r_V1v d_X5_readRooms_52 (w_X5_64 _ rfl) (tt_4 _ _) rfl rfl (c_needsAnother (b := true) y3) (by decide) (Nat.le_of_ble_eq_true rfl) (fun T52 I52 L52 R52 h52 => ?_)
          obtain ⟨rfl, rfl, rfl, w1, w3⟩ := h52
          refine r_iinc d_X5_readRooms_55 rfl (by decide) ?_
          refine r_goto d_X5_readRooms_58 ?_
          rw [Bool.true_and] at w3
          have f5 := FH_pg (FH_pg f3 y1) w1
          have fk5 : ∀ k, k ≠ 6 → k ≠ 3 → I52 hb k = I hb k := fun k h6 h3 => by rw [w1.1 hb (by omega), y1.1 hb (by omega)]; exact fk3 k h6 h3
          cases ht2 : tkS pg len false p2 44 with
          | true =>
            rw [ht2, if_pos rfl] at w3
            obtain ⟨-, t1, t2⟩ := decide_eq_true_iff.mp ht2
            refine CpL (next k8 I52 (p2 + 1) (scA (cplA D2) 7 0) w3 (run_suc hA2 (by rw [hm t1, if_pos t2, if_pos (by omega)])) sc_at (by rw [sc_nj (by decide), cpl_20, b0]; omega) ?_ (by rw [sc_nj (by decide), cpl_20, b1]; exact a1) (by rw [sc_nj (by decide), cpl_20, b2]; exact a2) f5 fk5) (by repeat (first | exact trivial | refine ⟨rfl, ?_⟩))
            exact RDX_sc (RDX_I hR3 (fun i _ => by rw [w1.1 _ (by omega), y1.1 _ (by omega)]) (by rw [w1.1 _ (by omega), y1.1 _ (by omega)]) (by rw [w1.1 hb (by omega), y1.1 hb (by omega)]))
          | false =>
            rw [ht2, if_neg (by decide)] at w3
            refine CpL (ls I52 (r + 1) p2 (by omega) w3 (bad_of hA2 hP2.2.2.2.1 h23 (fun hl => ?_)) f5 fk5) (by repeat (first | exact trivial | refine ⟨rfl, ?_⟩))
            rw [hm hl, if_neg (fun q => of_decide_eq_false ht2 ⟨rfl, hl, q⟩), if_neg (n59 hl)]
        · skip
          refine r_aload_n d_X5_readRooms_21 rfl ?_
          refine r_iload_n d_X5_readRooms_22 rfl ?_
          refine r_iconst d_X5_readRooms_23 ?_
          refine r_iadd d_X5_readRooms_24 ?_
          refine r_puti d_X5_readRooms_25 f_X5_57 (th_0 _ _ hh) (by decide) (Or.inl rfl) ?_
          refine r_aload_n d_X5_readRooms_28 rfl ?_
          refine r_bipush d_X5_readRooms_29 (by decide) ?_
          refine r_V1i d_X5_readRooms_31 (w_X5_60 _ rfl) (tt_4 _ _) rfl rfl (htk) (by decide) (Nat.le_of_ble_eq_true rfl) (fun z31 T31 I31 L31 R31 h31 => ?_)
          obtain ⟨rfl, rfl, rfl, rfl, y1, y3⟩ := h31
          refine r_if_eq d_X5_readRooms_34 (by omega) (fun c34 => ?_) (fun c34 => absurd c34 (by decide))
          refine r_aload_n d_X5_readRooms_38 rfl ?_
          refine r_iload_n d_X5_readRooms_39 rfl ?_
          refine r_iconst d_X5_readRooms_40 ?_
          refine r_iadd d_X5_readRooms_41 ?_
          refine r_bipush d_X5_readRooms_42 (by decide) ?_
          refine r_icmp_ge d_X5_readRooms_44 (by omega) (by omega) (fun c44 => ?_) (fun c44 => absurd c44 (by omega))
          refine r_iconst d_X5_readRooms_51 ?_
          refine r_V1v d_X5_readRooms_52 (w_X5_64 _ rfl) (tt_4 _ _) rfl rfl (c_needsAnother (b := false) y3) (by decide) (Nat.le_of_ble_eq_true rfl) (fun T52 I52 L52 R52 h52 => ?_)
          obtain ⟨rfl, rfl, rfl, w1, w3⟩ := h52
          rw [Bool.false_and, if_neg (by decide)] at w3
          refine r_iinc d_X5_readRooms_55 rfl (by decide) ?_
          refine r_goto d_X5_readRooms_58 ?_
          refine CpL (ls I52 (r + 1) p2 (by omega) w3 (bad_of hA2 hP2.2.2.2.1 h23 (fun hl => ?_)) (FH_pg (FH_pg f3 y1) w1) (fun k h6 h3 => by rw [w1.1 hb (by omega), y1.1 hb (by omega)]; exact fk3 k h6 h3)) (by repeat (first | exact trivial | refine ⟨rfl, ?_⟩))
          rw [hm hl, if_neg (show ¬ D2 20 0 < 8 by omega), if_neg (n59 hl)]
          split <;> rfl
    refine r_iload_n d_X5_readRooms_2 rfl ?_
    refine r_bipush d_X5_readRooms_3 (by decide) ?_
    refine r_icmp_ge d_X5_readRooms_5 (by omega) (by omega) (fun c5 => absurd c5 (by omega)) (fun c5 => ?_)
    refine r_aload_n d_X5_readRooms_8 rfl ?_
    refine r_geti d_X5_readRooms_9 f_X5_31 (tt_4 _ _) (by decide) (by decide) ?_
    rw [h5]
    refine r_if_ne d_X5_readRooms_12 (by omega) (fun c12 => absurd c12 (by decide)) (fun c12 => ?_)
    refine r_aload_n d_X5_readRooms_15 rfl ?_
    refine r_aload_n d_X5_readRooms_16 rfl ?_
    refine r_iload_n d_X5_readRooms_17 rfl ?_
    refine r_V2v d_X5_readRooms_18 (w_X5_53 _ rfl) (tt_4 _ _) rfl rfl (c_readRoom hh hP1 hA1 a7 a0 hr hR1) (by decide) (Nat.le_of_ble_eq_true rfl) (fun T18 I18 L18 R18 h18 => ?_)
    obtain ⟨rfl, rfl, rfl, y1, y2, y3⟩ := h18
    have fk2 : ∀ k, k ≠ 6 → k ≠ 3 → I18 hb k = I hb k := fun k h6 h3 => by rw [y2 k h6]; exact fk k h6 h3
    rcases y3 with ⟨p', q1, q2⟩ | ⟨p', D', q⟩
    · exact CpL (t21s I18 p' q1 q2 (FH_tr f y1) fk2) (by repeat (first | exact trivial | refine ⟨rfl, ?_⟩))
    · exact CpL (t21 I18 p' D' q (FH_tr f y1) fk2) (by repeat (first | exact trivial | refine ⟨rfl, ?_⟩))
  have loop : ∀ (n r : Nat) (I1 : sI) (p1 : Nat) (D1 : Sg), r + n = 7 → PGX pg len false p1 I1 → runA pg D0 p1 = some D1 → D1 20 7 = 0 → D1 20 0 = (r : Int) → RDX D1 hb r I1 → D1 20 1 = D 20 1 → D1 20 2 = D 20 2 → FH hb I I1 → (∀ k, k ≠ 6 → k ≠ 3 → I1 hb k = I hb k) → Cp g 4 m_X5_readRooms 0 0 Q 2 [(0, vr 4), (1, vr hb), (2, vi (r : Int))] [] (TT Ls tl) I1 L (RR tl) := by
    intro n
    induction n with
    | zero =>
      intro r I1 p1 D1 hrn h1 h2 h3 h4 h5 h6 h7 h8 h9
      exact step r I1 p1 D1 (by omega) h1 h2 h3 h4 h5 h6 h7 h8 h9 (fun h => absurd h (by omega))
    | succ n ih =>
      intro r I1 p1 D1 hrn h1 h2 h3 h4 h5 h6 h7 h8 h9
      exact step r I1 p1 D1 (by omega) h1 h2 h3 h4 h5 h6 h7 h8 h9 (fun _ I2 p2 D2 => ih (r + 1) I2 p2 D2 (by omega))
  refine r_iconst d_X5_readRooms_0 ?_
  refine r_istore_n d_X5_readRooms_1 (by decide) ?_
  exact CpL (loop 7 0 I p D (by omega) hP hA hs hr0 hR rfl rfl FH_rf (fun _ _ _ => rfl)) (by repeat (first | exact trivial | refine ⟨rfl, ?_⟩))
end C65
