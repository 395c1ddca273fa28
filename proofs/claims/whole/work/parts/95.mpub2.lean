section X95
variable {g : sG} {Ls : Nat} {T : sT} {R : sR} {I L : sI} {σ δ : Sg} {ℓ ab : Int} {nr nw nW ng : Nat} {tl : List Nat} {ukd unn : Nat → Int} {utr utw : Nat → Nat → Nat}
theorem AM_no {A : Int → Prop} (hM : MS σ ℓ nr nw ng tl ukd unn utr utw I) {z : Int} (h : A z) : AM σ ℓ nr nw ng Ls tl ukd unn utr utw I L A (some (vi z)) (TT Ls tl) I L (RR tl) := ⟨_, rfl, rfl, rfl, rfl, FP_rf, hM, h⟩
theorem br_rg {n nr W : Nat} {rule way ok : Int} : -103 ≤ brS n nr W rule way ok ∧ brS n nr W rule way ok ≤ 0 := by
  unfold brS
  split
  · split
    · split <;> omega
    · omega
  · omega
theorem x_cost (hM : MS σ ℓ nr nw ng tl ukd unn utr utw I) {rule way how : Int} (hr : i32 rule) (hw : i32 way) (hh : i32 how) : Mc g 11 m_X8_cost 0 0 [vr 139, vi rule, vi way, vi how] (TT Ls tl) I L (RR tl) (AM σ ℓ nr nw ng Ls tl ukd unn utr utw I L (aCost σ ℓ nr nw ng tl ukd unn utr utw rule way how)) := by
  refine Mc_of rfl (Nat.le_of_ble_eq_true rfl) ?_
  obtain ⟨hV, h3, hcan, hA, hX, hl, hwm, hN, hR⟩ := id hM
  have hr2 : -2147483648 ≤ rule ∧ rule ≤ 2147483647 := hr
  have hw2 : -2147483648 ≤ way ∧ way ≤ 2147483647 := hw
  have hh2 : -2147483648 ≤ how ∧ how ≤ 2147483647 := hh
  have hp := p2 hV.2.2.2
  obtain ⟨W, hW⟩ : ∃ W : Nat, W = 2 ^ chn σ nr := ⟨_, rfl⟩
  have hbr := fun (ok : Int) (ho : ok = 0 ∨ ok = 1) => x_bars (g := g) (Ls := Ls) (L := L) hM hr (way := if way = -1 then -2 else way) (by unfold i32; split <;> omega) ho
  rw [← hW] at hbr hp
  have hgi := x_isGiving (g := g) (T := TT Ls tl) (I := I) (L := L) (R := RR tl) hh2
  have hok : (if how = 0 ∨ how = 1 then (1 : Int) else 0) = 0 ∨ (if how = 0 ∨ how = 1 then (1 : Int) else 0) = 1 := by split <;> omega
  by_cases call_ : ((0 ≤ rule ∧ rule < (tl.length : Int)) ∧ 0 < nr) ∧ (how = 0 ∨ how = 1) ∧ (0 ≤ way ∧ way < (W : Int))
  · obtain ⟨⟨c1, c2⟩, k3, k4⟩ := call_
    have hb0 := hbr _ hok
    have eb : brS tl.length nr W rule (if way = -1 then -2 else way) (if how = 0 ∨ how = 1 then (1 : Int) else 0) = 0 := by
      unfold brS
      rw [if_pos c1, if_pos c2, if_pos k3, if_neg (show ¬ way = -1 by omega), if_pos ⟨rfl, Or.inr k4⟩]
    rw [eb] at hb0
    obtain ⟨q, rfl⟩ : ∃ q : Nat, rule = (q : Int) := ⟨rule.toNat, by omega⟩
    obtain ⟨w, rfl⟩ : ∃ w : Nat, way = (w : Int) := ⟨way.toNat, by omega⟩
    obtain ⟨m1, m2⟩ := MS_all hM
    have hcb := x_costBy (g := g) (Ls := Ls) (L := L) m1 (q := q) (way := w) (by omega) (by omega) c2 k3
    refine r_aload_n d_X8_cost_0 rfl ?_
    refine r_iload_n d_X8_cost_1 rfl ?_
    refine r_iload_n d_X8_cost_2 rfl ?_
    refine r_S1i d_X8_cost_3 (w_X8_393 _ rfl) (x_asWay hw2) (by decide) (Nat.le_of_ble_eq_true rfl) (fun z3 T3 I3 L3 R3 h3 => ?_)
    obtain ⟨rfl, rfl, rfl, rfl, rfl⟩ := h3
    refine r_iload_n d_X8_cost_6 rfl ?_
    refine r_S1i d_X8_cost_7 (w_X8_403 _ rfl) (hgi) (by decide) (Nat.le_of_ble_eq_true rfl) (fun z7 T7 I7 L7 R7 h7 => ?_)
    obtain ⟨rfl, rfl, rfl, rfl, rfl⟩ := h7
    refine r_V3i d_X8_cost_10 (w_X8_396 _ rfl) (tt_139 _ _) rfl rfl (hb0) (by decide) (Nat.le_of_ble_eq_true rfl) (fun z10 T10 I10 L10 R10 h10 => ?_)
    obtain ⟨rfl, rfl, rfl, rfl, rfl⟩ := h10
    refine r_istore d_X8_cost_13 (by decide) ?_
    refine r_iload d_X8_cost_15 rfl ?_
    refine r_if_eq d_X8_cost_17 (by omega) (fun c17 => ?_) (fun c17 => absurd c17 (by decide))
    refine r_aload_n d_X8_cost_23 rfl ?_
    refine r_V0v d_X8_cost_24 (w_X8_400 _ rfl) (tt_139 _ _) rfl rfl (x_allWomen) (by decide) (Nat.le_of_ble_eq_true rfl) (fun T24 I24 L24 R24 h24 => ?_)
    obtain ⟨rfl, rfl, rfl, rfl⟩ := h24
    refine r_aload_n d_X8_cost_27 rfl ?_
    refine r_iload_n d_X8_cost_28 rfl ?_
    refine r_iload_n d_X8_cost_29 rfl ?_
    refine r_iload_n d_X8_cost_30 rfl ?_
    refine r_V3i d_X8_cost_31 (w_X8_406 _ rfl) (tt_139 _ _) rfl rfl (hcb) (by decide) (Nat.le_of_ble_eq_true rfl) (fun z31 T31 I31 L31 R31 h31 => ?_)
    obtain ⟨rfl, rfl, rfl, y1, y2, y3, y4, od, y5, y6, y7⟩ := h31
    refine r_iret d_X8_cost_34 rfl ?_
    refine ⟨_, rfl, rfl, rfl, rfl, FP_tr m2 (FM_FP y1), MS_fp hM (FP_tr m2 (FM_FP y1)) y2, ?_⟩
    have e : rfS tl.length nr (q : Int) how = 0 := by unfold rfS; rw [if_pos c1, if_pos c2, if_pos k3]
    refine ⟨fun h => absurd e h, fun _ h => absurd (by rw [← hW]; exact k4) h, fun _ _ => ?_⟩
    rw [Int.toNat_natCast, Int.toNat_natCast]
    exact ⟨od, _, y5, y6⟩
  · have hb0 := hbr _ hok
    have hans : brS tl.length nr W rule (if way = -1 then -2 else way) (if how = 0 ∨ how = 1 then (1 : Int) else 0) ≠ 0 ∧ aCost σ ℓ nr nw ng tl ukd unn utr utw rule way how (brS tl.length nr W rule (if way = -1 then -2 else way) (if how = 0 ∨ how = 1 then (1 : Int) else 0)) := by
      unfold aCost rfS brS
      rw [← hW]
      by_cases c1 : 0 ≤ rule ∧ rule < (tl.length : Int)
      · rw [if_pos c1, if_pos c1]
        by_cases c2 : 0 < nr
        · rw [if_pos c2, if_pos c2]
          by_cases c3 : how = 0 ∨ how = 1
          · rw [if_pos c3, if_pos c3]
            have c4 : ¬ (0 ≤ way ∧ way < (W : Int)) := fun h => call_ ⟨⟨c1, c2⟩, c3, h⟩
            rw [if_neg (fun p => by have := p.2; split at this <;> omega)]
            exact ⟨by decide, fun h => absurd rfl h, fun _ _ => rfl, fun _ h => absurd h c4⟩
          · rw [if_neg c3, if_neg c3, if_neg (fun p => absurd p.1 (by decide))]
            exact ⟨by decide, fun _ => rfl, fun h => absurd h (by decide), fun h => absurd h (by decide)⟩
        · rw [if_neg c2, if_neg c2]
          exact ⟨by decide, fun _ => rfl, fun h => absurd h (by decide), fun h => absurd h (by decide)⟩
      · rw [if_neg c1, if_neg c1]
        exact ⟨by decide, fun _ => rfl, fun h => absurd h (by decide), fun h => absurd h (by decide)⟩
    obtain ⟨hne, hans⟩ := hans
    have hrg := br_rg (n := tl.length) (nr := nr) (W := W) (rule := rule) (way := if way = -1 then -2 else way) (ok := if how = 0 ∨ how = 1 then (1 : Int) else 0)
    generalize brS tl.length nr W rule (if way = -1 then -2 else way) (if how = 0 ∨ how = 1 then (1 : Int) else 0) = z at *
    refine r_aload_n d_X8_cost_0 rfl ?_
    refine r_iload_n d_X8_cost_1 rfl ?_
    refine r_iload_n d_X8_cost_2 rfl ?_
    refine r_S1i d_X8_cost_3 (w_X8_393 _ rfl) (x_asWay hw2) (by decide) (Nat.le_of_ble_eq_true rfl) (fun z3 T3 I3 L3 R3 h3 => ?_)
    obtain ⟨rfl, rfl, rfl, rfl, rfl⟩ := h3
    refine r_iload_n d_X8_cost_6 rfl ?_
    refine r_S1i d_X8_cost_7 (w_X8_403 _ rfl) (hgi) (by decide) (Nat.le_of_ble_eq_true rfl) (fun z7 T7 I7 L7 R7 h7 => ?_)
    obtain ⟨rfl, rfl, rfl, rfl, rfl⟩ := h7
    refine r_V3i d_X8_cost_10 (w_X8_396 _ rfl) (tt_139 _ _) rfl rfl (hb0) (by decide) (Nat.le_of_ble_eq_true rfl) (fun z10 T10 I10 L10 R10 h10 => ?_)
    obtain ⟨rfl, rfl, rfl, rfl, rfl⟩ := h10
    refine r_istore d_X8_cost_13 (by decide) ?_
    refine r_iload d_X8_cost_15 rfl ?_
    refine r_if_eq d_X8_cost_17 (by omega) (fun c17 => absurd c17 (by exact hne)) (fun c17 => ?_)
    refine r_iload d_X8_cost_20 rfl ?_
    refine r_iret d_X8_cost_22 rfl ?_
    exact AM_no hM hans
theorem x_mean (hM : MS σ ℓ nr nw ng tl ukd unn utr utw I) {rule how part : Int} (hr : i32 rule) (hh : i32 how) (hpt : i32 part) : Mc g 12 m_X8_mean 0 0 [vr 139, vi rule, vi how, vi part] (TT Ls tl) I L (RR tl) (AM σ ℓ nr nw ng Ls tl ukd unn utr utw I L (aMean σ ℓ nr nw ng tl ukd unn utr utw rule how part)) := by
  refine Mc_of rfl (Nat.le_of_ble_eq_true rfl) ?_
  obtain ⟨hV, h3, hcan, hA, hX, hl, hwm, hN, hR⟩ := id hM
  have hr2 : -2147483648 ≤ rule ∧ rule ≤ 2147483647 := hr
  have hh2 : -2147483648 ≤ how ∧ how ≤ 2147483647 := hh
  have hp2 : -2147483648 ≤ part ∧ part ≤ 2147483647 := hpt
  have h10 := p10 hV.2.2.2
  have hbr := fun (ok : Int) (ho : ok = 0 ∨ ok = 1) => x_bars (g := g) (Ls := Ls) (L := L) hM hr (way := -1) (by unfold i32; omega) ho
  have hgi := x_isGiving (g := g) (T := TT Ls tl) (I := I) (L := L) (R := RR tl) hh2
  have hwi := x_within (g := g) (T := TT Ls tl) (I := I) (L := L) (R := RR tl) (lo := 0) (hi := 1) hp2 (by omega) (by omega)
  by_cases k3 : (how = 0 ∨ how = 1) ∧ (0 ≤ part ∧ part ≤ 1)
  · have hb0 := hbr 1 (Or.inr rfl)
    rw [if_pos k3.1] at hgi
    rw [if_pos k3.2] at hwi
    by_cases k1 : (0 ≤ rule ∧ rule < (tl.length : Int)) ∧ 0 < nr
    · obtain ⟨k1, k2⟩ := k1
      have eb : brS tl.length nr (2 ^ chn σ nr) rule (-1) 1 = 0 := by
        unfold brS
        rw [if_pos k1, if_pos k2, if_pos ⟨rfl, Or.inl rfl⟩]
      rw [eb] at hb0
      obtain ⟨q, rfl⟩ : ∃ q : Nat, rule = (q : Int) := ⟨rule.toNat, by omega⟩
      obtain ⟨m1, m2⟩ := MS_all hM
      have e10 : (10 : Int) ^ chn σ nr = ((10 ^ chn σ nr : Nat) : Int) := by rw [Int.natCast_pow]; rfl
      have hww := fun (I2 : sI) (hX2 : MX σ nr nw ng I2) => x_whole (g := g) (Ls := Ls) (tl := tl) (L := L) hV hX2
      rw [e10] at hww h10
      refine r_aload_n d_X8_mean_0 rfl ?_
      refine r_iload_n d_X8_mean_1 rfl ?_
      refine r_iconst d_X8_mean_2 ?_
      refine r_iload_n d_X8_mean_3 rfl ?_
      refine r_S1i d_X8_mean_4 (w_X8_403 _ rfl) (hgi) (by decide) (Nat.le_of_ble_eq_true rfl) (fun z4 T4 I4 L4 R4 h4 => ?_)
      obtain ⟨rfl, rfl, rfl, rfl, rfl⟩ := h4
      refine r_if_eq d_X8_mean_7 (by omega) (fun c7 => absurd c7 (by decide)) (fun c7 => ?_)
      refine r_iload_n d_X8_mean_10 rfl ?_
      refine r_iconst d_X8_mean_11 ?_
      refine r_iconst d_X8_mean_12 ?_
      refine r_S3i d_X8_mean_13 (w_X8_162 _ rfl) (hwi) (by decide) (Nat.le_of_ble_eq_true rfl) (fun z13 T13 I13 L13 R13 h13 => ?_)
      obtain ⟨rfl, rfl, rfl, rfl, rfl⟩ := h13
      refine r_if_eq d_X8_mean_16 (by omega) (fun c16 => absurd c16 (by decide)) (fun c16 => ?_)
      refine r_iconst d_X8_mean_19 ?_
      refine r_goto d_X8_mean_20 ?_
      refine r_V3i d_X8_mean_24 (w_X8_396 _ rfl) (tt_139 _ _) rfl rfl (hb0) (by decide) (Nat.le_of_ble_eq_true rfl) (fun z24 T24 I24 L24 R24 h24 => ?_)
      obtain ⟨rfl, rfl, rfl, rfl, rfl⟩ := h24
      refine r_istore d_X8_mean_27 (by decide) ?_
      refine r_iload d_X8_mean_29 rfl ?_
      refine r_if_eq d_X8_mean_31 (by omega) (fun c31 => ?_) (fun c31 => absurd c31 (by decide))
      refine r_aload_n d_X8_mean_37 rfl ?_
      refine r_V0v d_X8_mean_38 (w_X8_400 _ rfl) (tt_139 _ _) rfl rfl (x_allWomen) (by decide) (Nat.le_of_ble_eq_true rfl) (fun T38 I38 L38 R38 h38 => ?_)
      obtain ⟨rfl, rfl, rfl, rfl⟩ := h38
      refine r_aload_n d_X8_mean_41 rfl ?_
      refine r_iload_n d_X8_mean_42 rfl ?_
      refine r_iload_n d_X8_mean_43 rfl ?_
      refine r_V2i d_X8_mean_44 (w_X8_412 _ rfl) (tt_139 _ _) rfl rfl (x_sumBy m1 (by omega) k2 k3.1) (by decide) (Nat.le_of_ble_eq_true rfl) (fun z44 T44 I44 L44 R44 h44 => ?_)
      obtain ⟨rfl, rfl, rfl, y1, y2, y3, y4⟩ := h44
      refine r_aload_n d_X8_mean_47 rfl ?_
      refine r_V0i d_X8_mean_48 (w_X8_415 _ rfl) (tt_139 _ _) rfl rfl (hww I44 (MX_fm m1.2.2.2.2.1 y1)) (by decide) (Nat.le_of_ble_eq_true rfl) (fun z48 T48 I48 L48 R48 h48 => ?_)
      obtain ⟨rfl, rfl, rfl, rfl, rfl⟩ := h48
      refine r_iload_n d_X8_mean_51 rfl ?_
      refine r_S3i d_X8_mean_52 (w_X8_418 _ rfl) (x_lowest (by omega) (by omega) (by omega)) (by decide) (Nat.le_of_ble_eq_true rfl) (fun z52 T52 I52 L52 R52 h52 => ?_)
      obtain ⟨rfl, rfl, rfl, rfl, rfl⟩ := h52
      refine r_iret d_X8_mean_55 rfl ?_
      refine ⟨_, rfl, rfl, rfl, rfl, FP_tr m2 (FM_FP y1), MS_fp hM (FP_tr m2 (FM_FP y1)) y2, ?_⟩
      have e : rfS tl.length nr (q : Int) how = 0 := by unfold rfS; rw [if_pos k1, if_pos k2, if_pos k3.1]
      refine ⟨fun h => absurd e h, fun _ h => absurd (by omega) h, fun _ _ => ?_⟩
      rw [Int.toNat_natCast]
      refine ⟨z44, y4, ?_⟩
      unfold gcS
      rw [e10]
    · have hans : brS tl.length nr (2 ^ chn σ nr) rule (-1) 1 ≠ 0 ∧ aMean σ ℓ nr nw ng tl ukd unn utr utw rule how part (brS tl.length nr (2 ^ chn σ nr) rule (-1) 1) := by
        unfold aMean rfS brS
        by_cases c1 : 0 ≤ rule ∧ rule < (tl.length : Int)
        · rw [if_pos c1, if_pos c1, if_neg (fun h => k1 ⟨c1, h⟩), if_neg (fun h => k1 ⟨c1, h⟩)]
          exact ⟨by decide, fun _ => rfl, fun h => absurd h (by decide), fun h => absurd h (by decide)⟩
        · rw [if_neg c1, if_neg c1]
          exact ⟨by decide, fun _ => rfl, fun h => absurd h (by decide), fun h => absurd h (by decide)⟩
      obtain ⟨hne, hans⟩ := hans
      have hrg := br_rg (n := tl.length) (nr := nr) (W := 2 ^ chn σ nr) (rule := rule) (way := -1) (ok := 1)
      generalize brS tl.length nr (2 ^ chn σ nr) rule (-1) 1 = z at *
      refine r_aload_n d_X8_mean_0 rfl ?_
      refine r_iload_n d_X8_mean_1 rfl ?_
      refine r_iconst d_X8_mean_2 ?_
      refine r_iload_n d_X8_mean_3 rfl ?_
      refine r_S1i d_X8_mean_4 (w_X8_403 _ rfl) (hgi) (by decide) (Nat.le_of_ble_eq_true rfl) (fun z4 T4 I4 L4 R4 h4 => ?_)
      obtain ⟨rfl, rfl, rfl, rfl, rfl⟩ := h4
      refine r_if_eq d_X8_mean_7 (by omega) (fun c7 => absurd c7 (by decide)) (fun c7 => ?_)
      refine r_iload_n d_X8_mean_10 rfl ?_
      refine r_iconst d_X8_mean_11 ?_
      refine r_iconst d_X8_mean_12 ?_
      refine r_S3i d_X8_mean_13 (w_X8_162 _ rfl) (hwi) (by decide) (Nat.le_of_ble_eq_true rfl) (fun z13 T13 I13 L13 R13 h13 => ?_)
      obtain ⟨rfl, rfl, rfl, rfl, rfl⟩ := h13
      refine r_if_eq d_X8_mean_16 (by omega) (fun c16 => absurd c16 (by decide)) (fun c16 => ?_)
      refine r_iconst d_X8_mean_19 ?_
      refine r_goto d_X8_mean_20 ?_
      refine r_V3i d_X8_mean_24 (w_X8_396 _ rfl) (tt_139 _ _) rfl rfl (hb0) (by decide) (Nat.le_of_ble_eq_true rfl) (fun z24 T24 I24 L24 R24 h24 => ?_)
      obtain ⟨rfl, rfl, rfl, rfl, rfl⟩ := h24
      refine r_istore d_X8_mean_27 (by decide) ?_
      refine r_iload d_X8_mean_29 rfl ?_
      refine r_if_eq d_X8_mean_31 (by omega) (fun c31 => absurd c31 (by exact hne)) (fun c31 => ?_)
      refine r_iload d_X8_mean_34 rfl ?_
      refine r_iret d_X8_mean_36 rfl ?_
      exact AM_no hM hans
  · have hb0 := hbr 0 (Or.inl rfl)
    have hans : brS tl.length nr (2 ^ chn σ nr) rule (-1) 0 ≠ 0 ∧ aMean σ ℓ nr nw ng tl ukd unn utr utw rule how part (brS tl.length nr (2 ^ chn σ nr) rule (-1) 0) := by
      unfold aMean rfS brS
      by_cases c1 : 0 ≤ rule ∧ rule < (tl.length : Int)
      · rw [if_pos c1, if_pos c1]
        by_cases c2 : 0 < nr
        · rw [if_pos c2, if_pos c2, if_neg (show ¬ ((0 : Int) = 1 ∧ ((-1 : Int) = -1 ∨ (0 ≤ (-1 : Int) ∧ (-1 : Int) < ((2 ^ chn σ nr : Nat) : Int)))) from fun p => absurd p.1 (by decide))]
          refine ⟨by decide, fun h => ?_, fun _ _ => rfl, fun h1 h2 => ?_⟩
          · by_cases c3 : how = 0 ∨ how = 1
            · rw [if_pos c3] at h; exact absurd rfl h
            · rw [if_neg c3]
          · by_cases c3 : how = 0 ∨ how = 1
            · exact absurd ⟨c3, by omega⟩ k3
            · rw [if_neg c3] at h1; exact absurd h1 (by decide)
        · rw [if_neg c2, if_neg c2]
          exact ⟨by decide, fun _ => rfl, fun h => absurd h (by decide), fun h => absurd h (by decide)⟩
      · rw [if_neg c1, if_neg c1]
        exact ⟨by decide, fun _ => rfl, fun h => absurd h (by decide), fun h => absurd h (by decide)⟩
    obtain ⟨hne, hans⟩ := hans
    have hrg := br_rg (n := tl.length) (nr := nr) (W := 2 ^ chn σ nr) (rule := rule) (way := -1) (ok := 0)
    generalize brS tl.length nr (2 ^ chn σ nr) rule (-1) 0 = z at *
    by_cases k4 : how = 0 ∨ how = 1
    · rw [if_pos k4] at hgi
      rw [if_neg (fun h => k3 ⟨k4, h⟩)] at hwi
      refine r_aload_n d_X8_mean_0 rfl ?_
      refine r_iload_n d_X8_mean_1 rfl ?_
      refine r_iconst d_X8_mean_2 ?_
      refine r_iload_n d_X8_mean_3 rfl ?_
      refine r_S1i d_X8_mean_4 (w_X8_403 _ rfl) (hgi) (by decide) (Nat.le_of_ble_eq_true rfl) (fun z4 T4 I4 L4 R4 h4 => ?_)
      obtain ⟨rfl, rfl, rfl, rfl, rfl⟩ := h4
      refine r_if_eq d_X8_mean_7 (by omega) (fun c7 => absurd c7 (by decide)) (fun c7 => ?_)
      refine r_iload_n d_X8_mean_10 rfl ?_
      refine r_iconst d_X8_mean_11 ?_
      refine r_iconst d_X8_mean_12 ?_
      refine r_S3i d_X8_mean_13 (w_X8_162 _ rfl) (hwi) (by decide) (Nat.le_of_ble_eq_true rfl) (fun z13 T13 I13 L13 R13 h13 => ?_)
      obtain ⟨rfl, rfl, rfl, rfl, rfl⟩ := h13
      refine r_if_eq d_X8_mean_16 (by omega) (fun c16 => ?_) (fun c16 => absurd c16 (by decide))
      refine r_iconst d_X8_mean_23 ?_
      refine r_V3i d_X8_mean_24 (w_X8_396 _ rfl) (tt_139 _ _) rfl rfl (hb0) (by decide) (Nat.le_of_ble_eq_true rfl) (fun z24 T24 I24 L24 R24 h24 => ?_)
      obtain ⟨rfl, rfl, rfl, rfl, rfl⟩ := h24
      refine r_istore d_X8_mean_27 (by decide) ?_
      refine r_iload d_X8_mean_29 rfl ?_
      refine r_if_eq d_X8_mean_31 (by omega) (fun c31 => absurd c31 (by exact hne)) (fun c31 => ?_)
      refine r_iload d_X8_mean_34 rfl ?_
      refine r_iret d_X8_mean_36 rfl ?_
      exact AM_no hM hans
    · rw [if_neg k4] at hgi
      refine r_aload_n d_X8_mean_0 rfl ?_
      refine r_iload_n d_X8_mean_1 rfl ?_
      refine r_iconst d_X8_mean_2 ?_
      refine r_iload_n d_X8_mean_3 rfl ?_
      refine r_S1i d_X8_mean_4 (w_X8_403 _ rfl) (hgi) (by decide) (Nat.le_of_ble_eq_true rfl) (fun z4 T4 I4 L4 R4 h4 => ?_)
      obtain ⟨rfl, rfl, rfl, rfl, rfl⟩ := h4
      refine r_if_eq d_X8_mean_7 (by omega) (fun c7 => ?_) (fun c7 => absurd c7 (by decide))
      refine r_iconst d_X8_mean_23 ?_
      refine r_V3i d_X8_mean_24 (w_X8_396 _ rfl) (tt_139 _ _) rfl rfl (hb0) (by decide) (Nat.le_of_ble_eq_true rfl) (fun z24 T24 I24 L24 R24 h24 => ?_)
      obtain ⟨rfl, rfl, rfl, rfl, rfl⟩ := h24
      refine r_istore d_X8_mean_27 (by decide) ?_
      refine r_iload d_X8_mean_29 rfl ?_
      refine r_if_eq d_X8_mean_31 (by omega) (fun c31 => absurd c31 (by exact hne)) (fun c31 => ?_)
      refine r_iload d_X8_mean_34 rfl ?_
      refine r_iret d_X8_mean_36 rfl ?_
      exact AM_no hM hans
end X95
