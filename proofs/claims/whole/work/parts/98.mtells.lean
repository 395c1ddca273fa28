theorem rf_ans {n nr W : Nat} {rule how ok : Int} {P : Prop} (ho : ok = 0 ∨ ok = 1) (k : ok = 1 ↔ ((how = 0 ∨ how = 1) ∧ P)) (hn : ¬ ((0 ≤ rule ∧ rule < (n : Int)) ∧ 0 < nr ∧ ok = 1)) : brS n nr W rule (-1) ok ≠ 0 ∧ (rfS n nr rule how ≠ 0 → brS n nr W rule (-1) ok = rfS n nr rule how) ∧ (rfS n nr rule how = 0 → ¬ P → brS n nr W rule (-1) ok = -102) ∧ (rfS n nr rule how = 0 → P → False) := by
  unfold rfS brS
  by_cases c1 : 0 ≤ rule ∧ rule < (n : Int)
  · rw [if_pos c1, if_pos c1]
    by_cases c2 : 0 < nr
    · have c3 : ok ≠ 1 := fun h => hn ⟨c1, c2, h⟩
      rw [if_pos c2, if_pos c2, if_neg (fun p => c3 p.1)]
      refine ⟨by decide, fun h => ?_, fun _ _ => rfl, fun h1 h2 => ?_⟩
      · by_cases c4 : how = 0 ∨ how = 1
        · rw [if_pos c4] at h; exact absurd rfl h
        · rw [if_neg c4]
      · by_cases c4 : how = 0 ∨ how = 1
        · exact c3 (k.mpr ⟨c4, h2⟩)
        · rw [if_neg c4] at h1; exact absurd h1 (by decide)
    · rw [if_neg c2, if_neg c2]
      exact ⟨by decide, fun _ => rfl, fun h => absurd h (by decide), fun h => absurd h (by decide)⟩
  · rw [if_neg c1, if_neg c1]
    exact ⟨by decide, fun _ => rfl, fun h => absurd h (by decide), fun h => absurd h (by decide)⟩
section X98
variable {g : sG} {Ls : Nat} {T : sT} {R : sR} {I L : sI} {σ δ : Sg} {ℓ ab : Int} {nr nw nW ng : Nat} {tl : List Nat} {ukd unn : Nat → Int} {utr utw : Nat → Nat → Nat}
theorem x_sure (hM : MS σ ℓ nr nw ng tl ukd unn utr utw I) {rule how guest qs part : Int} (hr : i32 rule) (hh : i32 how) (hgu : i32 guest) (hqs : i32 qs) (hpt : i32 part) : Mc g 12 m_X8_sure 0 0 [vr 139, vi rule, vi how, vi guest, vi qs, vi part] (TT Ls tl) I L (RR tl) (AM σ ℓ nr nw ng Ls tl ukd unn utr utw I L (aSure σ ℓ nr nw ng tl ukd unn utr utw rule how guest qs part)) := by
  refine Mc_of rfl (Nat.le_of_ble_eq_true rfl) ?_
  obtain ⟨hV, h3, hcan, hA, hX, hl, hwm, hN, hR⟩ := id hM
  have hr2 : -2147483648 ≤ rule ∧ rule ≤ 2147483647 := hr
  have hh2 : -2147483648 ≤ how ∧ how ≤ 2147483647 := hh
  have hg2 : -2147483648 ≤ guest ∧ guest ≤ 2147483647 := hgu
  have hq2 : -2147483648 ≤ qs ∧ qs ≤ 2147483647 := hqs
  have hp2 : -2147483648 ≤ part ∧ part ≤ 2147483647 := hpt
  have h10 := p10 hV.2.2.2
  have e0 := hX.1
  have s1 := hV.1.1
  have hru := x_isRule (g := g) (Ls := Ls) (tl := tl) (L := L) hr2 hR.1 hR.2.1
  have hgs := x_isGuest (g := g) (Ls := Ls) (tl := tl) (L := L) hg2 hX.2.1 hV.2.1
  have hbr := fun (ok : Int) (ho : ok = 0 ∨ ok = 1) => x_bars (g := g) (Ls := Ls) (L := L) hM hr (way := -1) (by unfold i32; omega) ho
  have hgi := x_isGiving (g := g) (T := TT Ls tl) (I := I) (L := L) (R := RR tl) hh2
  have hw1 := x_within (g := g) (T := TT Ls tl) (I := I) (L := L) (R := RR tl) (lo := 0) (hi := 44) hq2 (by omega) (by omega)
  have hw2 := x_within (g := g) (T := TT Ls tl) (I := I) (L := L) (R := RR tl) (lo := 0) (hi := 1) hp2 (by omega) (by omega)
  obtain ⟨Q, hQ⟩ : ∃ Q : sQ, Q = AM σ ℓ nr nw ng Ls tl ukd unn utr utw I L (aSure σ ℓ nr nw ng tl ukd unn utr utw rule how guest qs part) := ⟨_, rfl⟩
  rw [← hQ]
  have t26 : ((0 ≤ rule ∧ rule < (tl.length : Int)) → 0 < nr → (0 ≤ guest ∧ guest < (ng : Int))) → Cp g 12 m_X8_sure 0 0 Q 26 [(0, vr 139), (1, vi rule), (2, vi how), (3, vi guest), (4, vi qs), (5, vi part)] [] (TT Ls tl) I L (RR tl) := by
    intro hG
    have egr : rgS tl.length nr ng rule how guest = rfS tl.length nr rule how := by
      unfold rgS
      rw [if_neg (fun p => p.2.2 (hG p.1 p.2.1))]
    have ref : ∀ ok : Int, (ok = 0 ∨ ok = 1) → (ok = 1 ↔ ((how = 0 ∨ how = 1) ∧ ((0 ≤ qs ∧ qs ≤ 44) ∧ (part = 0 ∨ part = 1)))) → ¬ ((0 ≤ rule ∧ rule < (tl.length : Int)) ∧ 0 < nr ∧ ok = 1) → brS tl.length nr (2 ^ chn σ nr) rule (-1) ok ≠ 0 ∧ Q (some (vi (brS tl.length nr (2 ^ chn σ nr) rule (-1) ok))) (TT Ls tl) I L (RR tl) := fun ok ho k hn => by
      obtain ⟨a1, a2, a3, a4⟩ := rf_ans (W := 2 ^ chn σ nr) ho k hn
      refine ⟨a1, ?_⟩
      rw [hQ]
      refine AM_no hM ⟨?_, ?_, ?_⟩
      · rw [egr]; exact a2
      · rw [egr]; exact a3
      · rw [egr]; exact fun h1 h2 => (a4 h1 h2).elim
    have hrg := fun ok => br_rg (n := tl.length) (nr := nr) (W := 2 ^ chn σ nr) (rule := rule) (way := -1) (ok := ok)
    by_cases k1 : how = 0 ∨ how = 1
    · rw [if_pos k1] at hgi
      by_cases k2 : 0 ≤ qs ∧ qs ≤ 44
      · rw [if_pos k2] at hw1
        by_cases k3 : 0 ≤ part ∧ part ≤ 1
        · rw [if_pos k3] at hw2
          have hb0 := hbr 1 (Or.inr rfl)
          by_cases k4 : (0 ≤ rule ∧ rule < (tl.length : Int)) ∧ 0 < nr
          · obtain ⟨k4, k5⟩ := k4
            have k6 := hG k4 k5
            have eb : brS tl.length nr (2 ^ chn σ nr) rule (-1) 1 = 0 := by
              unfold brS
              rw [if_pos k4, if_pos k5, if_pos ⟨rfl, Or.inl rfl⟩]
            rw [eb] at hb0
            obtain ⟨q, rfl⟩ : ∃ q : Nat, rule = (q : Int) := ⟨rule.toNat, by omega⟩
            obtain ⟨u, rfl⟩ : ∃ u : Nat, guest = (u : Int) := ⟨guest.toNat, by omega⟩
            obtain ⟨m1, m2⟩ := MS_all hM
            have e10 : (10 : Int) ^ chn σ nr = ((10 ^ chn σ nr : Nat) : Int) := by rw [Int.natCast_pow]; rfl
            have hww := fun (I2 : sI) (hX2 : MX σ nr nw ng I2) => x_whole (g := g) (Ls := Ls) (tl := tl) (L := L) hV hX2
            rw [e10] at hww h10
            refine r_aload_n d_X8_sure_26 rfl ?_
            refine r_iload_n d_X8_sure_27 rfl ?_
            refine r_iconst d_X8_sure_28 ?_
            refine r_iload_n d_X8_sure_29 rfl ?_
            refine r_S1i d_X8_sure_30 (w_X8_403 _ rfl) (hgi) (by decide) (Nat.le_of_ble_eq_true rfl) (fun z30 T30 I30 L30 R30 h30 => ?_)
            obtain ⟨rfl, rfl, rfl, rfl, rfl⟩ := h30
            refine r_if_eq d_X8_sure_33 (by omega) (fun c33 => absurd c33 (by decide)) (fun c33 => ?_)
            refine r_iload d_X8_sure_36 rfl ?_
            refine r_iconst d_X8_sure_38 ?_
            refine r_bipush d_X8_sure_39 (by decide) ?_
            refine r_S3i d_X8_sure_41 (w_X8_162 _ rfl) (hw1) (by decide) (Nat.le_of_ble_eq_true rfl) (fun z41 T41 I41 L41 R41 h41 => ?_)
            obtain ⟨rfl, rfl, rfl, rfl, rfl⟩ := h41
            refine r_if_eq d_X8_sure_44 (by omega) (fun c44 => absurd c44 (by decide)) (fun c44 => ?_)
            refine r_iload d_X8_sure_47 rfl ?_
            refine r_iconst d_X8_sure_49 ?_
            refine r_iconst d_X8_sure_50 ?_
            refine r_S3i d_X8_sure_51 (w_X8_162 _ rfl) (hw2) (by decide) (Nat.le_of_ble_eq_true rfl) (fun z51 T51 I51 L51 R51 h51 => ?_)
            obtain ⟨rfl, rfl, rfl, rfl, rfl⟩ := h51
            refine r_if_eq d_X8_sure_54 (by omega) (fun c54 => absurd c54 (by decide)) (fun c54 => ?_)
            refine r_iconst d_X8_sure_57 ?_
            refine r_goto d_X8_sure_58 ?_
            refine r_V3i d_X8_sure_62 (w_X8_396 _ rfl) (tt_139 _ _) rfl rfl (hb0) (by decide) (Nat.le_of_ble_eq_true rfl) (fun z62 T62 I62 L62 R62 h62 => ?_)
            obtain ⟨rfl, rfl, rfl, rfl, rfl⟩ := h62
            refine r_istore d_X8_sure_65 (by decide) ?_
            refine r_iload d_X8_sure_67 rfl ?_
            refine r_if_eq d_X8_sure_69 (by omega) (fun c69 => ?_) (fun c69 => absurd c69 (by decide))
            refine r_aload_n d_X8_sure_75 rfl ?_
            refine r_V0v d_X8_sure_76 (w_X8_400 _ rfl) (tt_139 _ _) rfl rfl (x_allWomen) (by decide) (Nat.le_of_ble_eq_true rfl) (fun T76 I76 L76 R76 h76 => ?_)
            obtain ⟨rfl, rfl, rfl, rfl⟩ := h76
            refine r_aload_n d_X8_sure_79 rfl ?_
            refine r_iload_n d_X8_sure_80 rfl ?_
            refine r_iload_n d_X8_sure_81 rfl ?_
            refine r_iload_n d_X8_sure_82 rfl ?_
            refine r_iload d_X8_sure_83 rfl ?_
            refine r_V4i d_X8_sure_85 (w_X8_421 _ rfl) (tt_139 _ _) rfl rfl (x_sureOf m1 (u := u) (by omega) k5 (by omega) k1 k2) (by decide) (Nat.le_of_ble_eq_true rfl) (fun z85 T85 I85 L85 R85 h85 => ?_)
            obtain ⟨rfl, rfl, rfl, y1, y2, y3, W, y4, y5⟩ := h85
            refine r_aload_n d_X8_sure_88 rfl ?_
            refine r_V0i d_X8_sure_89 (w_X8_415 _ rfl) (tt_139 _ _) rfl rfl (hww I85 (MX_fm m1.2.2.2.2.1 y1)) (by decide) (Nat.le_of_ble_eq_true rfl) (fun z89 T89 I89 L89 R89 h89 => ?_)
            obtain ⟨rfl, rfl, rfl, rfl, rfl⟩ := h89
            refine r_iload d_X8_sure_92 rfl ?_
            refine r_S3i d_X8_sure_94 (w_X8_418 _ rfl) (x_lowest (by omega) (by omega) (by omega)) (by decide) (Nat.le_of_ble_eq_true rfl) (fun z94 T94 I94 L94 R94 h94 => ?_)
            obtain ⟨rfl, rfl, rfl, rfl, rfl⟩ := h94
            refine r_iret d_X8_sure_97 rfl ?_
            rw [hQ]
            refine ⟨_, rfl, rfl, rfl, rfl, FP_tr m2 (FM_FP y1), MS_fp hM (FP_tr m2 (FM_FP y1)) y2, ?_⟩
            have e : rgS tl.length nr ng (q : Int) how (u : Int) = 0 := by rw [egr]; unfold rfS; rw [if_pos k4, if_pos k5, if_pos k1]
            refine ⟨fun h => absurd e h, fun _ h => absurd (by omega) h, fun _ _ => ?_⟩
            rw [Int.toNat_natCast, Int.toNat_natCast]
            refine ⟨W, y4, ?_⟩
            rw [← y5]
            unfold gcS
            rw [e10]
          · obtain ⟨hne, hans⟩ := ref 1 (Or.inr rfl) ⟨fun _ => ⟨k1, k2, by omega⟩, fun _ => rfl⟩ (fun p => k4 ⟨p.1, p.2.1⟩)
            have hrg1 := hrg 1
            generalize brS tl.length nr (2 ^ chn σ nr) rule (-1) 1 = z at *
            refine r_aload_n d_X8_sure_26 rfl ?_
            refine r_iload_n d_X8_sure_27 rfl ?_
            refine r_iconst d_X8_sure_28 ?_
            refine r_iload_n d_X8_sure_29 rfl ?_
            refine r_S1i d_X8_sure_30 (w_X8_403 _ rfl) (hgi) (by decide) (Nat.le_of_ble_eq_true rfl) (fun z30 T30 I30 L30 R30 h30 => ?_)
            obtain ⟨rfl, rfl, rfl, rfl, rfl⟩ := h30
            refine r_if_eq d_X8_sure_33 (by omega) (fun c33 => absurd c33 (by decide)) (fun c33 => ?_)
            refine r_iload d_X8_sure_36 rfl ?_
            refine r_iconst d_X8_sure_38 ?_
            refine r_bipush d_X8_sure_39 (by decide) ?_
            refine r_S3i d_X8_sure_41 (w_X8_162 _ rfl) (hw1) (by decide) (Nat.le_of_ble_eq_true rfl) (fun z41 T41 I41 L41 R41 h41 => ?_)
            obtain ⟨rfl, rfl, rfl, rfl, rfl⟩ := h41
            refine r_if_eq d_X8_sure_44 (by omega) (fun c44 => absurd c44 (by decide)) (fun c44 => ?_)
            refine r_iload d_X8_sure_47 rfl ?_
            refine r_iconst d_X8_sure_49 ?_
            refine r_iconst d_X8_sure_50 ?_
            refine r_S3i d_X8_sure_51 (w_X8_162 _ rfl) (hw2) (by decide) (Nat.le_of_ble_eq_true rfl) (fun z51 T51 I51 L51 R51 h51 => ?_)
            obtain ⟨rfl, rfl, rfl, rfl, rfl⟩ := h51
            refine r_if_eq d_X8_sure_54 (by omega) (fun c54 => absurd c54 (by decide)) (fun c54 => ?_)
            refine r_iconst d_X8_sure_57 ?_
            refine r_goto d_X8_sure_58 ?_
            refine r_V3i d_X8_sure_62 (w_X8_396 _ rfl) (tt_139 _ _) rfl rfl (hb0) (by decide) (Nat.le_of_ble_eq_true rfl) (fun z62 T62 I62 L62 R62 h62 => ?_)
            obtain ⟨rfl, rfl, rfl, rfl, rfl⟩ := h62
            refine r_istore d_X8_sure_65 (by decide) ?_
            refine r_iload d_X8_sure_67 rfl ?_
            refine r_if_eq d_X8_sure_69 (by omega) (fun c69 => absurd c69 (by exact hne)) (fun c69 => ?_)
            refine r_iload d_X8_sure_72 rfl ?_
            refine r_iret d_X8_sure_74 rfl ?_
            exact hans
        · rw [if_neg k3] at hw2
          have hb0 := hbr 0 (Or.inl rfl)
          obtain ⟨hne, hans⟩ := ref 0 (Or.inl rfl) ⟨fun h => absurd h (by decide), fun h => absurd h.2.2 (by omega)⟩ (fun p => absurd p.2.2 (by decide))
          have hrg1 := hrg 0
          generalize brS tl.length nr (2 ^ chn σ nr) rule (-1) 0 = z at *
          refine r_aload_n d_X8_sure_26 rfl ?_
          refine r_iload_n d_X8_sure_27 rfl ?_
          refine r_iconst d_X8_sure_28 ?_
          refine r_iload_n d_X8_sure_29 rfl ?_
          refine r_S1i d_X8_sure_30 (w_X8_403 _ rfl) (hgi) (by decide) (Nat.le_of_ble_eq_true rfl) (fun z30 T30 I30 L30 R30 h30 => ?_)
          obtain ⟨rfl, rfl, rfl, rfl, rfl⟩ := h30
          refine r_if_eq d_X8_sure_33 (by omega) (fun c33 => absurd c33 (by decide)) (fun c33 => ?_)
          refine r_iload d_X8_sure_36 rfl ?_
          refine r_iconst d_X8_sure_38 ?_
          refine r_bipush d_X8_sure_39 (by decide) ?_
          refine r_S3i d_X8_sure_41 (w_X8_162 _ rfl) (hw1) (by decide) (Nat.le_of_ble_eq_true rfl) (fun z41 T41 I41 L41 R41 h41 => ?_)
          obtain ⟨rfl, rfl, rfl, rfl, rfl⟩ := h41
          refine r_if_eq d_X8_sure_44 (by omega) (fun c44 => absurd c44 (by decide)) (fun c44 => ?_)
          refine r_iload d_X8_sure_47 rfl ?_
          refine r_iconst d_X8_sure_49 ?_
          refine r_iconst d_X8_sure_50 ?_
          refine r_S3i d_X8_sure_51 (w_X8_162 _ rfl) (hw2) (by decide) (Nat.le_of_ble_eq_true rfl) (fun z51 T51 I51 L51 R51 h51 => ?_)
          obtain ⟨rfl, rfl, rfl, rfl, rfl⟩ := h51
          refine r_if_eq d_X8_sure_54 (by omega) (fun c54 => ?_) (fun c54 => absurd c54 (by decide))
          refine r_iconst d_X8_sure_61 ?_
          refine r_V3i d_X8_sure_62 (w_X8_396 _ rfl) (tt_139 _ _) rfl rfl (hb0) (by decide) (Nat.le_of_ble_eq_true rfl) (fun z62 T62 I62 L62 R62 h62 => ?_)
          obtain ⟨rfl, rfl, rfl, rfl, rfl⟩ := h62
          refine r_istore d_X8_sure_65 (by decide) ?_
          refine r_iload d_X8_sure_67 rfl ?_
          refine r_if_eq d_X8_sure_69 (by omega) (fun c69 => absurd c69 (by exact hne)) (fun c69 => ?_)
          refine r_iload d_X8_sure_72 rfl ?_
          refine r_iret d_X8_sure_74 rfl ?_
          exact hans
      · rw [if_neg k2] at hw1
        have hb0 := hbr 0 (Or.inl rfl)
        obtain ⟨hne, hans⟩ := ref 0 (Or.inl rfl) ⟨fun h => absurd h (by decide), fun h => absurd h.2.1 k2⟩ (fun p => absurd p.2.2 (by decide))
        have hrg1 := hrg 0
        generalize brS tl.length nr (2 ^ chn σ nr) rule (-1) 0 = z at *
        refine r_aload_n d_X8_sure_26 rfl ?_
        refine r_iload_n d_X8_sure_27 rfl ?_
        refine r_iconst d_X8_sure_28 ?_
        refine r_iload_n d_X8_sure_29 rfl ?_
        refine r_S1i d_X8_sure_30 (w_X8_403 _ rfl) (hgi) (by decide) (Nat.le_of_ble_eq_true rfl) (fun z30 T30 I30 L30 R30 h30 => ?_)
        obtain ⟨rfl, rfl, rfl, rfl, rfl⟩ := h30
        refine r_if_eq d_X8_sure_33 (by omega) (fun c33 => absurd c33 (by decide)) (fun c33 => ?_)
        refine r_iload d_X8_sure_36 rfl ?_
        refine r_iconst d_X8_sure_38 ?_
        refine r_bipush d_X8_sure_39 (by decide) ?_
        refine r_S3i d_X8_sure_41 (w_X8_162 _ rfl) (hw1) (by decide) (Nat.le_of_ble_eq_true rfl) (fun z41 T41 I41 L41 R41 h41 => ?_)
        obtain ⟨rfl, rfl, rfl, rfl, rfl⟩ := h41
        refine r_if_eq d_X8_sure_44 (by omega) (fun c44 => ?_) (fun c44 => absurd c44 (by decide))
        refine r_iconst d_X8_sure_61 ?_
        refine r_V3i d_X8_sure_62 (w_X8_396 _ rfl) (tt_139 _ _) rfl rfl (hb0) (by decide) (Nat.le_of_ble_eq_true rfl) (fun z62 T62 I62 L62 R62 h62 => ?_)
        obtain ⟨rfl, rfl, rfl, rfl, rfl⟩ := h62
        refine r_istore d_X8_sure_65 (by decide) ?_
        refine r_iload d_X8_sure_67 rfl ?_
        refine r_if_eq d_X8_sure_69 (by omega) (fun c69 => absurd c69 (by exact hne)) (fun c69 => ?_)
        refine r_iload d_X8_sure_72 rfl ?_
        refine r_iret d_X8_sure_74 rfl ?_
        exact hans
    · rw [if_neg k1] at hgi
      have hb0 := hbr 0 (Or.inl rfl)
      obtain ⟨hne, hans⟩ := ref 0 (Or.inl rfl) ⟨fun h => absurd h (by decide), fun h => absurd h.1 k1⟩ (fun p => absurd p.2.2 (by decide))
      have hrg1 := hrg 0
      generalize brS tl.length nr (2 ^ chn σ nr) rule (-1) 0 = z at *
      refine r_aload_n d_X8_sure_26 rfl ?_
      refine r_iload_n d_X8_sure_27 rfl ?_
      refine r_iconst d_X8_sure_28 ?_
      refine r_iload_n d_X8_sure_29 rfl ?_
      refine r_S1i d_X8_sure_30 (w_X8_403 _ rfl) (hgi) (by decide) (Nat.le_of_ble_eq_true rfl) (fun z30 T30 I30 L30 R30 h30 => ?_)
      obtain ⟨rfl, rfl, rfl, rfl, rfl⟩ := h30
      refine r_if_eq d_X8_sure_33 (by omega) (fun c33 => ?_) (fun c33 => absurd c33 (by decide))
      refine r_iconst d_X8_sure_61 ?_
      refine r_V3i d_X8_sure_62 (w_X8_396 _ rfl) (tt_139 _ _) rfl rfl (hb0) (by decide) (Nat.le_of_ble_eq_true rfl) (fun z62 T62 I62 L62 R62 h62 => ?_)
      obtain ⟨rfl, rfl, rfl, rfl, rfl⟩ := h62
      refine r_istore d_X8_sure_65 (by decide) ?_
      refine r_iload d_X8_sure_67 rfl ?_
      refine r_if_eq d_X8_sure_69 (by omega) (fun c69 => absurd c69 (by exact hne)) (fun c69 => ?_)
      refine r_iload d_X8_sure_72 rfl ?_
      refine r_iret d_X8_sure_74 rfl ?_
      exact hans
  by_cases c1 : 0 ≤ rule ∧ rule < (tl.length : Int)
  · rw [if_pos c1] at hru
    by_cases c2 : 0 < nr
    · by_cases c3 : 0 ≤ guest ∧ guest < (ng : Int)
      · rw [if_pos c3] at hgs
        refine r_aload_n d_X8_sure_0 rfl ?_
        refine r_iload_n d_X8_sure_1 rfl ?_
        refine r_V1i d_X8_sure_2 (w_X8_250 _ rfl) (tt_139 _ _) rfl rfl (hru) (by decide) (Nat.le_of_ble_eq_true rfl) (fun z2 T2 I2 L2 R2 h2 => ?_)
        obtain ⟨rfl, rfl, rfl, rfl, rfl⟩ := h2
        refine r_if_eq d_X8_sure_5 (by omega) (fun c5 => absurd c5 (by decide)) (fun c5 => ?_)
        refine r_aload_n d_X8_sure_8 rfl ?_
        refine r_geti d_X8_sure_9 f_X8_232 (tt_139 _ _) (by decide) (by decide) ?_
        refine r_if_le d_X8_sure_12 (by omega) (fun c12 => absurd c12 (by omega)) (fun c12 => ?_)
        refine r_aload_n d_X8_sure_15 rfl ?_
        refine r_iload_n d_X8_sure_16 rfl ?_
        refine r_V1i d_X8_sure_17 (w_X8_262 _ rfl) (tt_139 _ _) rfl rfl (hgs) (by decide) (Nat.le_of_ble_eq_true rfl) (fun z17 T17 I17 L17 R17 h17 => ?_)
        obtain ⟨rfl, rfl, rfl, rfl, rfl⟩ := h17
        refine r_if_ne d_X8_sure_20 (by omega) (fun c20 => ?_) (fun c20 => absurd c20 (by decide))
        exact t26 (fun _ _ => c3)
      · rw [if_neg c3] at hgs
        refine r_aload_n d_X8_sure_0 rfl ?_
        refine r_iload_n d_X8_sure_1 rfl ?_
        refine r_V1i d_X8_sure_2 (w_X8_250 _ rfl) (tt_139 _ _) rfl rfl (hru) (by decide) (Nat.le_of_ble_eq_true rfl) (fun z2 T2 I2 L2 R2 h2 => ?_)
        obtain ⟨rfl, rfl, rfl, rfl, rfl⟩ := h2
        refine r_if_eq d_X8_sure_5 (by omega) (fun c5 => absurd c5 (by decide)) (fun c5 => ?_)
        refine r_aload_n d_X8_sure_8 rfl ?_
        refine r_geti d_X8_sure_9 f_X8_232 (tt_139 _ _) (by decide) (by decide) ?_
        refine r_if_le d_X8_sure_12 (by omega) (fun c12 => absurd c12 (by omega)) (fun c12 => ?_)
        refine r_aload_n d_X8_sure_15 rfl ?_
        refine r_iload_n d_X8_sure_16 rfl ?_
        refine r_V1i d_X8_sure_17 (w_X8_262 _ rfl) (tt_139 _ _) rfl rfl (hgs) (by decide) (Nat.le_of_ble_eq_true rfl) (fun z17 T17 I17 L17 R17 h17 => ?_)
        obtain ⟨rfl, rfl, rfl, rfl, rfl⟩ := h17
        refine r_if_ne d_X8_sure_20 (by omega) (fun c20 => absurd c20 (by decide)) (fun c20 => ?_)
        refine r_bipush d_X8_sure_23 (by decide) ?_
        refine r_iret d_X8_sure_25 rfl ?_
        rw [hQ]
        have e : rgS tl.length nr ng rule how guest = -101 := by unfold rgS; rw [if_pos ⟨c1, c2, c3⟩]
        refine AM_no hM ⟨?_, ?_, ?_⟩
        · rw [e]; exact fun _ => rfl
        · rw [e]; exact fun h => absurd h (by decide)
        · rw [e]; exact fun h => absurd h (by decide)
    · skip
      refine r_aload_n d_X8_sure_0 rfl ?_
      refine r_iload_n d_X8_sure_1 rfl ?_
      refine r_V1i d_X8_sure_2 (w_X8_250 _ rfl) (tt_139 _ _) rfl rfl (hru) (by decide) (Nat.le_of_ble_eq_true rfl) (fun z2 T2 I2 L2 R2 h2 => ?_)
      obtain ⟨rfl, rfl, rfl, rfl, rfl⟩ := h2
      refine r_if_eq d_X8_sure_5 (by omega) (fun c5 => absurd c5 (by decide)) (fun c5 => ?_)
      refine r_aload_n d_X8_sure_8 rfl ?_
      refine r_geti d_X8_sure_9 f_X8_232 (tt_139 _ _) (by decide) (by decide) ?_
      refine r_if_le d_X8_sure_12 (by omega) (fun c12 => ?_) (fun c12 => absurd c12 (by omega))
      exact t26 (fun _ h => absurd h c2)
  · rw [if_neg c1] at hru
    refine r_aload_n d_X8_sure_0 rfl ?_
    refine r_iload_n d_X8_sure_1 rfl ?_
    refine r_V1i d_X8_sure_2 (w_X8_250 _ rfl) (tt_139 _ _) rfl rfl (hru) (by decide) (Nat.le_of_ble_eq_true rfl) (fun z2 T2 I2 L2 R2 h2 => ?_)
    obtain ⟨rfl, rfl, rfl, rfl, rfl⟩ := h2
    refine r_if_eq d_X8_sure_5 (by omega) (fun c5 => ?_) (fun c5 => absurd c5 (by decide))
    exact t26 (fun h => absurd h c1)
end X98
