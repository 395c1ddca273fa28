section X9b
variable {g : sG} {Ls : Nat} {T : sT} {R : sR} {I L : sI} {σ δ : Sg} {ℓ ab : Int} {nr nw nW ng : Nat} {tl : List Nat} {ukd unn : Nat → Int} {utr utw : Nat → Nat → Nat}
theorem x_given (hM : MS σ ℓ nr nw ng tl ukd unn utr utw I) {rule way how guest what : Int} (hr : i32 rule) (hw : i32 way) (hh : i32 how) (hro : i32 guest) (hwt : i32 what) : Mc g 11 m_X8_given 0 0 [vr 139, vi rule, vi way, vi how, vi guest, vi what] (TT Ls tl) I L (RR tl) (AM σ ℓ nr nw ng Ls tl ukd unn utr utw I L (aGiven σ ℓ nr nw ng tl ukd unn utr utw rule way how guest what)) := by
  refine Mc_of rfl (Nat.le_of_ble_eq_true rfl) ?_
  obtain ⟨hV, h3, hcan, hA, hX, hl, hwm, hN, hR⟩ := id hM
  have hr2 : -2147483648 ≤ rule ∧ rule ≤ 2147483647 := hr
  have hw2 : -2147483648 ≤ way ∧ way ≤ 2147483647 := hw
  have hh2 : -2147483648 ≤ how ∧ how ≤ 2147483647 := hh
  have ho2 : -2147483648 ≤ guest ∧ guest ≤ 2147483647 := hro
  have ht2 : -2147483648 ≤ what ∧ what ≤ 2147483647 := hwt
  have e0 := hX.1
  have s1 := hV.1.1
  have v2 := hV.2.1
  have hp := p2 hV.2.2.2
  have hru := x_isRule (g := g) (Ls := Ls) (tl := tl) (L := L) hr2 hR.1 hR.2.1
  have hrm := x_isGuest (g := g) (Ls := Ls) (tl := tl) (L := L) ho2 hX.2.1 hV.2.1
  have hbr := fun (ok : Int) (ho : ok = 0 ∨ ok = 1) => x_bars (g := g) (Ls := Ls) (L := L) hM hr (way := if way = -1 then -2 else way) (by unfold i32; split <;> omega) ho
  have hw1 := x_within (g := g) (T := TT Ls tl) (I := I) (L := L) (R := RR tl) (lo := 0) (hi := 2) ht2 (by omega) (by omega)
  have hgi := x_isGiving (g := g) (T := TT Ls tl) (I := I) (L := L) (R := RR tl) hh2
  obtain ⟨Q, hQ⟩ : ∃ Q : sQ, Q = AM σ ℓ nr nw ng Ls tl ukd unn utr utw I L (aGiven σ ℓ nr nw ng tl ukd unn utr utw rule way how guest what) := ⟨_, rfl⟩
  rw [← hQ]
  have t27 : ((0 ≤ rule ∧ rule < (tl.length : Int)) → 0 < nr → (0 ≤ guest ∧ guest < (ng : Int))) → Cp g 11 m_X8_given 0 0 Q 27 [(0, vr 139), (1, vi rule), (2, vi way), (3, vi how), (4, vi guest), (5, vi what)] [] (TT Ls tl) I L (RR tl) := by
    intro hG
    obtain ⟨ok, hok⟩ : ∃ ok : Int, ok = (if (how = 0 ∨ how = 1) ∧ (0 ≤ what ∧ what ≤ 2) then 1 else 0) := ⟨_, rfl⟩
    have ho : ok = 0 ∨ ok = 1 := by rw [hok]; split <;> omega
    have hb0 := hbr ok ho
    have hrg := br_rg (n := tl.length) (nr := nr) (W := 2 ^ chn σ nr) (rule := rule) (way := if way = -1 then -2 else way) (ok := ok)
    have edf : brS tl.length nr (2 ^ chn σ nr) rule (if way = -1 then -2 else way) ok = gfS tl.length nr ng (2 ^ chn σ nr) rule way how guest what := by
      unfold brS gfS
      by_cases c1 : 0 ≤ rule ∧ rule < (tl.length : Int)
      · rw [if_pos c1, if_pos c1]
        by_cases c2 : 0 < nr
        · rw [if_pos c2, if_pos c2, if_pos (hG c1 c2)]
          by_cases c4 : (0 ≤ way ∧ way < ((2 ^ chn σ nr : Nat) : Int)) ∧ (how = 0 ∨ how = 1) ∧ (0 ≤ what ∧ what < 3)
          · rw [if_pos c4, if_neg (show ¬ way = -1 by omega), if_pos]
            exact ⟨by rw [hok, if_pos (by omega)], Or.inr c4.1⟩
          · rw [if_neg c4, if_neg]
            intro p
            obtain ⟨p1, p2⟩ := p
            rw [hok] at p1
            refine c4 ⟨by split at p2 <;> omega, ?_⟩
            split at p1 <;> omega
        · rw [if_neg c2, if_neg c2]
      · rw [if_neg c1, if_neg c1]
    rw [edf] at hb0 hrg
    by_cases kd : gfS tl.length nr ng (2 ^ chn σ nr) rule way how guest what = 0
    · rw [kd] at hb0
      have kd2 := kd
      have k1 : 0 ≤ rule ∧ rule < (tl.length : Int) := Classical.byContradiction (fun h => by unfold gfS at kd2; rw [if_neg h] at kd2; exact absurd kd2 (by decide))
      have k2 : 0 < nr := Classical.byContradiction (fun h => by unfold gfS at kd2; rw [if_pos k1, if_neg h] at kd2; exact absurd kd2 (by decide))
      have k3 := hG k1 k2
      have k4 : (0 ≤ way ∧ way < ((2 ^ chn σ nr : Nat) : Int)) ∧ (how = 0 ∨ how = 1) ∧ (0 ≤ what ∧ what < 3) := Classical.byContradiction (fun h => by unfold gfS at kd2; rw [if_pos k1, if_pos k2, if_pos k3, if_neg h] at kd2; exact absurd kd2 (by decide))
      have eok : ok = 1 := by rw [hok, if_pos (by omega)]
      rw [eok] at hb0
      rw [if_pos k4.2.1] at hgi
      rw [if_pos (by omega)] at hw1
      obtain ⟨q, rfl⟩ : ∃ q : Nat, rule = (q : Int) := ⟨rule.toNat, by omega⟩
      obtain ⟨w, rfl⟩ : ∃ w : Nat, way = (w : Int) := ⟨way.toNat, by omega⟩
      obtain ⟨u, rfl⟩ : ∃ u : Nat, guest = (u : Int) := ⟨guest.toNat, by omega⟩
      have hun : u < ng := by omega
      obtain ⟨m1, m2⟩ := MS_all hM
      have fin : ∀ (I2 : sI) (od : Nat → Nat) (c : Int) (ro : Nat → Int) (z : Int), FP I I2 → KNM σ ℓ (-1) nr nw ng I2 → ODS σ ℓ (-1) nr nw ng (ukd q) (unn q) od → DC σ ℓ (-1) nr nw ng (ukd q) od (utr q) (utw q) (tl.getD q 0) w how c ro → z = (if what = 0 then ro u else wkS σ (planX σ ℓ (-1) (fun r => pmS σ r ng) nr nw (ukd q) od (utr q) (utw q) (tl.getD q 0) w 3) u (ro u) * (if what = 1 then 1 else σ 13 u)) → Q (some (vi z)) (TT Ls tl) I2 L (RR tl) := fun I2 od c ro z f2 hN2 h1 h2 h3 => by
        rw [hQ]
        refine ⟨_, rfl, rfl, rfl, rfl, f2, MS_fp hM f2 hN2, ?_⟩
        refine ⟨fun h => absurd kd h, fun _ => ⟨od, c, ro, ?_, ?_, ?_⟩⟩
        · rw [Int.toNat_natCast]; exact h1
        · rw [Int.toNat_natCast, Int.toNat_natCast]; exact h2
        · rw [Int.toNat_natCast, Int.toNat_natCast, Int.toNat_natCast]; exact h3
      have hcb := x_costBy (g := g) (Ls := Ls) (L := L) m1 (q := q) (way := w) (by omega) (by omega) k2 k4.2.1
      rcases (show what = 0 ∨ what = 1 ∨ what = 2 by omega) with rfl | rfl | rfl
      · skip
        refine r_aload_n d_X8_given_27 rfl ?_
        refine r_iload_n d_X8_given_28 rfl ?_
        refine r_iload_n d_X8_given_29 rfl ?_
        refine r_S1i d_X8_given_30 (w_X8_393 _ rfl) (x_asWay hw2) (by decide) (Nat.le_of_ble_eq_true rfl) (fun z30 T30 I30 L30 R30 h30 => ?_)
        obtain ⟨rfl, rfl, rfl, rfl, rfl⟩ := h30
        refine r_iload_n d_X8_given_33 rfl ?_
        refine r_S1i d_X8_given_34 (w_X8_403 _ rfl) (hgi) (by decide) (Nat.le_of_ble_eq_true rfl) (fun z34 T34 I34 L34 R34 h34 => ?_)
        obtain ⟨rfl, rfl, rfl, rfl, rfl⟩ := h34
        refine r_if_eq d_X8_given_37 (by omega) (fun c37 => absurd c37 (by decide)) (fun c37 => ?_)
        refine r_iload d_X8_given_40 rfl ?_
        refine r_iconst d_X8_given_42 ?_
        refine r_iconst d_X8_given_43 ?_
        refine r_S3i d_X8_given_44 (w_X8_162 _ rfl) (hw1) (by decide) (Nat.le_of_ble_eq_true rfl) (fun z44 T44 I44 L44 R44 h44 => ?_)
        obtain ⟨rfl, rfl, rfl, rfl, rfl⟩ := h44
        refine r_if_eq d_X8_given_47 (by omega) (fun c47 => absurd c47 (by decide)) (fun c47 => ?_)
        refine r_iconst d_X8_given_50 ?_
        refine r_goto d_X8_given_51 ?_
        refine r_V3i d_X8_given_55 (w_X8_396 _ rfl) (tt_139 _ _) rfl rfl (hb0) (by decide) (Nat.le_of_ble_eq_true rfl) (fun z55 T55 I55 L55 R55 h55 => ?_)
        obtain ⟨rfl, rfl, rfl, rfl, rfl⟩ := h55
        refine r_istore d_X8_given_58 (by decide) ?_
        refine r_iload d_X8_given_60 rfl ?_
        refine r_if_eq d_X8_given_62 (by omega) (fun c62 => ?_) (fun c62 => absurd c62 (by decide))
        refine r_aload_n d_X8_given_68 rfl ?_
        refine r_V0v d_X8_given_69 (w_X8_400 _ rfl) (tt_139 _ _) rfl rfl (x_allWomen) (by decide) (Nat.le_of_ble_eq_true rfl) (fun T69 I69 L69 R69 h69 => ?_)
        obtain ⟨rfl, rfl, rfl, rfl⟩ := h69
        refine r_aload_n d_X8_given_72 rfl ?_
        refine r_iload_n d_X8_given_73 rfl ?_
        refine r_iload_n d_X8_given_74 rfl ?_
        refine r_iload_n d_X8_given_75 rfl ?_
        refine r_V3i d_X8_given_76 (w_X8_406 _ rfl) (tt_139 _ _) rfl rfl (hcb) (by decide) (Nat.le_of_ble_eq_true rfl) (fun z76 T76 I76 L76 R76 h76 => ?_)
        obtain ⟨rfl, rfl, rfl, y1, y2, y3, y4, od, y5, y6, y7⟩ := h76
        refine r_pop d_X8_given_79 rfl ?_
        refine r_iload d_X8_given_80 rfl ?_
        refine r_if_ne d_X8_given_82 (by omega) (fun c82 => absurd c82 (by decide)) (fun c82 => ?_)
        refine r_aload_n d_X8_given_85 rfl ?_
        refine r_getr d_X8_given_86 f_X8_142 (tt_139 _ _) (by decide) rfl (rr_139_63 _) ?_
        refine r_iload d_X8_given_89 rfl ?_
        refine r_ialdJ d_X8_given_91 (tt_181 _ _) rfl (by omega) (kk := ?_)
        refine r_goto d_X8_given_92 ?_
        refine r_iret d_X8_given_130 rfl ?_
        exact fin _ od _ _ _ (FP_tr m2 (FM_FP y1)) y2 y5 y6 (by rw [if_pos rfl])
      · skip
        refine r_aload_n d_X8_given_27 rfl ?_
        refine r_iload_n d_X8_given_28 rfl ?_
        refine r_iload_n d_X8_given_29 rfl ?_
        refine r_S1i d_X8_given_30 (w_X8_393 _ rfl) (x_asWay hw2) (by decide) (Nat.le_of_ble_eq_true rfl) (fun z30 T30 I30 L30 R30 h30 => ?_)
        obtain ⟨rfl, rfl, rfl, rfl, rfl⟩ := h30
        refine r_iload_n d_X8_given_33 rfl ?_
        refine r_S1i d_X8_given_34 (w_X8_403 _ rfl) (hgi) (by decide) (Nat.le_of_ble_eq_true rfl) (fun z34 T34 I34 L34 R34 h34 => ?_)
        obtain ⟨rfl, rfl, rfl, rfl, rfl⟩ := h34
        refine r_if_eq d_X8_given_37 (by omega) (fun c37 => absurd c37 (by decide)) (fun c37 => ?_)
        refine r_iload d_X8_given_40 rfl ?_
        refine r_iconst d_X8_given_42 ?_
        refine r_iconst d_X8_given_43 ?_
        refine r_S3i d_X8_given_44 (w_X8_162 _ rfl) (hw1) (by decide) (Nat.le_of_ble_eq_true rfl) (fun z44 T44 I44 L44 R44 h44 => ?_)
        obtain ⟨rfl, rfl, rfl, rfl, rfl⟩ := h44
        refine r_if_eq d_X8_given_47 (by omega) (fun c47 => absurd c47 (by decide)) (fun c47 => ?_)
        refine r_iconst d_X8_given_50 ?_
        refine r_goto d_X8_given_51 ?_
        refine r_V3i d_X8_given_55 (w_X8_396 _ rfl) (tt_139 _ _) rfl rfl (hb0) (by decide) (Nat.le_of_ble_eq_true rfl) (fun z55 T55 I55 L55 R55 h55 => ?_)
        obtain ⟨rfl, rfl, rfl, rfl, rfl⟩ := h55
        refine r_istore d_X8_given_58 (by decide) ?_
        refine r_iload d_X8_given_60 rfl ?_
        refine r_if_eq d_X8_given_62 (by omega) (fun c62 => ?_) (fun c62 => absurd c62 (by decide))
        refine r_aload_n d_X8_given_68 rfl ?_
        refine r_V0v d_X8_given_69 (w_X8_400 _ rfl) (tt_139 _ _) rfl rfl (x_allWomen) (by decide) (Nat.le_of_ble_eq_true rfl) (fun T69 I69 L69 R69 h69 => ?_)
        obtain ⟨rfl, rfl, rfl, rfl⟩ := h69
        refine r_aload_n d_X8_given_72 rfl ?_
        refine r_iload_n d_X8_given_73 rfl ?_
        refine r_iload_n d_X8_given_74 rfl ?_
        refine r_iload_n d_X8_given_75 rfl ?_
        refine r_V3i d_X8_given_76 (w_X8_406 _ rfl) (tt_139 _ _) rfl rfl (hcb) (by decide) (Nat.le_of_ble_eq_true rfl) (fun z76 T76 I76 L76 R76 h76 => ?_)
        obtain ⟨rfl, rfl, rfl, y1, y2, y3, y4, od, y5, y6, y7⟩ := h76
        refine r_pop d_X8_given_79 rfl ?_
        refine r_iload d_X8_given_80 rfl ?_
        refine r_if_ne d_X8_given_82 (by omega) (fun c82 => ?_) (fun c82 => absurd c82 (by decide))
        refine r_iload d_X8_given_95 rfl ?_
        refine r_iconst d_X8_given_97 ?_
        refine r_icmp_ne d_X8_given_98 (by omega) (by omega) (fun c98 => absurd c98 (by decide)) (fun c98 => ?_)
        refine r_aload_n d_X8_given_101 rfl ?_
        refine r_iload d_X8_given_102 rfl ?_
        refine r_aload_n d_X8_given_104 rfl ?_
        refine r_getr d_X8_given_105 f_X8_142 (tt_139 _ _) (by decide) rfl (rr_139_63 _) ?_
        refine r_iload d_X8_given_108 rfl ?_
        refine r_ialdJ d_X8_given_110 (tt_181 _ _) rfl (by omega) (kk := ?_)
        refine r_V2i d_X8_given_111 (w_X8_339 _ rfl) (tt_139 _ _) rfl rfl (x_waits hV (MX_fm m1.2.2.2.2.1 y1) (fun r hr => ⟨y7 r hr, plan_bd hV.1 (ODS_lt y5) r hr⟩) hun (y4 u hun)) (by decide) (Nat.le_of_ble_eq_true rfl) (fun z111 T111 I111 L111 R111 h111 => ?_)
        obtain ⟨rfl, rfl, rfl, rfl, rfl⟩ := h111
        refine r_goto d_X8_given_114 ?_
        refine r_iret d_X8_given_130 rfl ?_
        exact fin _ od _ _ _ (FP_tr m2 (FM_FP y1)) y2 y5 y6 (by rw [if_neg (by decide), if_pos rfl, Int.mul_one])
      · skip
        refine r_aload_n d_X8_given_27 rfl ?_
        refine r_iload_n d_X8_given_28 rfl ?_
        refine r_iload_n d_X8_given_29 rfl ?_
        refine r_S1i d_X8_given_30 (w_X8_393 _ rfl) (x_asWay hw2) (by decide) (Nat.le_of_ble_eq_true rfl) (fun z30 T30 I30 L30 R30 h30 => ?_)
        obtain ⟨rfl, rfl, rfl, rfl, rfl⟩ := h30
        refine r_iload_n d_X8_given_33 rfl ?_
        refine r_S1i d_X8_given_34 (w_X8_403 _ rfl) (hgi) (by decide) (Nat.le_of_ble_eq_true rfl) (fun z34 T34 I34 L34 R34 h34 => ?_)
        obtain ⟨rfl, rfl, rfl, rfl, rfl⟩ := h34
        refine r_if_eq d_X8_given_37 (by omega) (fun c37 => absurd c37 (by decide)) (fun c37 => ?_)
        refine r_iload d_X8_given_40 rfl ?_
        refine r_iconst d_X8_given_42 ?_
        refine r_iconst d_X8_given_43 ?_
        refine r_S3i d_X8_given_44 (w_X8_162 _ rfl) (hw1) (by decide) (Nat.le_of_ble_eq_true rfl) (fun z44 T44 I44 L44 R44 h44 => ?_)
        obtain ⟨rfl, rfl, rfl, rfl, rfl⟩ := h44
        refine r_if_eq d_X8_given_47 (by omega) (fun c47 => absurd c47 (by decide)) (fun c47 => ?_)
        refine r_iconst d_X8_given_50 ?_
        refine r_goto d_X8_given_51 ?_
        refine r_V3i d_X8_given_55 (w_X8_396 _ rfl) (tt_139 _ _) rfl rfl (hb0) (by decide) (Nat.le_of_ble_eq_true rfl) (fun z55 T55 I55 L55 R55 h55 => ?_)
        obtain ⟨rfl, rfl, rfl, rfl, rfl⟩ := h55
        refine r_istore d_X8_given_58 (by decide) ?_
        refine r_iload d_X8_given_60 rfl ?_
        refine r_if_eq d_X8_given_62 (by omega) (fun c62 => ?_) (fun c62 => absurd c62 (by decide))
        refine r_aload_n d_X8_given_68 rfl ?_
        refine r_V0v d_X8_given_69 (w_X8_400 _ rfl) (tt_139 _ _) rfl rfl (x_allWomen) (by decide) (Nat.le_of_ble_eq_true rfl) (fun T69 I69 L69 R69 h69 => ?_)
        obtain ⟨rfl, rfl, rfl, rfl⟩ := h69
        refine r_aload_n d_X8_given_72 rfl ?_
        refine r_iload_n d_X8_given_73 rfl ?_
        refine r_iload_n d_X8_given_74 rfl ?_
        refine r_iload_n d_X8_given_75 rfl ?_
        refine r_V3i d_X8_given_76 (w_X8_406 _ rfl) (tt_139 _ _) rfl rfl (hcb) (by decide) (Nat.le_of_ble_eq_true rfl) (fun z76 T76 I76 L76 R76 h76 => ?_)
        obtain ⟨rfl, rfl, rfl, y1, y2, y3, y4, od, y5, y6, y7⟩ := h76
        refine r_pop d_X8_given_79 rfl ?_
        refine r_iload d_X8_given_80 rfl ?_
        refine r_if_ne d_X8_given_82 (by omega) (fun c82 => ?_) (fun c82 => absurd c82 (by decide))
        refine r_iload d_X8_given_95 rfl ?_
        refine r_iconst d_X8_given_97 ?_
        refine r_icmp_ne d_X8_given_98 (by omega) (by omega) (fun c98 => ?_) (fun c98 => absurd c98 (by decide))
        refine r_aload_n d_X8_given_117 rfl ?_
        refine r_iload d_X8_given_118 rfl ?_
        refine r_aload_n d_X8_given_120 rfl ?_
        refine r_getr d_X8_given_121 f_X8_142 (tt_139 _ _) (by decide) rfl (rr_139_63 _) ?_
        refine r_iload d_X8_given_124 rfl ?_
        refine r_ialdJ d_X8_given_126 (tt_181 _ _) rfl (by omega) (kk := ?_)
        refine r_V2i d_X8_given_127 (w_X8_345 _ rfl) (tt_139 _ _) rfl rfl (x_costOf hV (MX_fm m1.2.2.2.2.1 y1) (fun r hr => ⟨y7 r hr, plan_bd hV.1 (ODS_lt y5) r hr⟩) hun (y4 u hun)) (by decide) (Nat.le_of_ble_eq_true rfl) (fun z127 T127 I127 L127 R127 h127 => ?_)
        obtain ⟨rfl, rfl, rfl, rfl, rfl⟩ := h127
        refine r_iret d_X8_given_130 rfl ?_
        exact fin _ od _ _ _ (FP_tr m2 (FM_FP y1)) y2 y5 y6 (by rw [if_neg (by decide), if_neg (by decide), Int.mul_comm]; rfl)
    · have hans : Q (some (vi (gfS tl.length nr ng (2 ^ chn σ nr) rule way how guest what))) (TT Ls tl) I L (RR tl) := by
        rw [hQ]
        exact AM_no hM ⟨fun _ => rfl, fun h => absurd h kd⟩
      generalize gfS tl.length nr ng (2 ^ chn σ nr) rule way how guest what = z at hb0 hans kd hrg
      by_cases k5 : how = 0 ∨ how = 1
      · rw [if_pos k5] at hgi
        by_cases k6 : 0 ≤ what ∧ what ≤ 2
        · rw [if_pos k6] at hw1
          have eok : ok = 1 := by rw [hok, if_pos ⟨k5, k6⟩]
          rw [eok] at hb0
          refine r_aload_n d_X8_given_27 rfl ?_
          refine r_iload_n d_X8_given_28 rfl ?_
          refine r_iload_n d_X8_given_29 rfl ?_
          refine r_S1i d_X8_given_30 (w_X8_393 _ rfl) (x_asWay hw2) (by decide) (Nat.le_of_ble_eq_true rfl) (fun z30 T30 I30 L30 R30 h30 => ?_)
          obtain ⟨rfl, rfl, rfl, rfl, rfl⟩ := h30
          refine r_iload_n d_X8_given_33 rfl ?_
          refine r_S1i d_X8_given_34 (w_X8_403 _ rfl) (hgi) (by decide) (Nat.le_of_ble_eq_true rfl) (fun z34 T34 I34 L34 R34 h34 => ?_)
          obtain ⟨rfl, rfl, rfl, rfl, rfl⟩ := h34
          refine r_if_eq d_X8_given_37 (by omega) (fun c37 => absurd c37 (by decide)) (fun c37 => ?_)
          refine r_iload d_X8_given_40 rfl ?_
          refine r_iconst d_X8_given_42 ?_
          refine r_iconst d_X8_given_43 ?_
          refine r_S3i d_X8_given_44 (w_X8_162 _ rfl) (hw1) (by decide) (Nat.le_of_ble_eq_true rfl) (fun z44 T44 I44 L44 R44 h44 => ?_)
          obtain ⟨rfl, rfl, rfl, rfl, rfl⟩ := h44
          refine r_if_eq d_X8_given_47 (by omega) (fun c47 => absurd c47 (by decide)) (fun c47 => ?_)
          refine r_iconst d_X8_given_50 ?_
          refine r_goto d_X8_given_51 ?_
          refine r_V3i d_X8_given_55 (w_X8_396 _ rfl) (tt_139 _ _) rfl rfl (hb0) (by decide) (Nat.le_of_ble_eq_true rfl) (fun z55 T55 I55 L55 R55 h55 => ?_)
          obtain ⟨rfl, rfl, rfl, rfl, rfl⟩ := h55
          refine r_istore d_X8_given_58 (by decide) ?_
          refine r_iload d_X8_given_60 rfl ?_
          refine r_if_eq d_X8_given_62 (by omega) (fun c62 => absurd c62 (by exact kd)) (fun c62 => ?_)
          refine r_iload d_X8_given_65 rfl ?_
          refine r_iret d_X8_given_67 rfl ?_
          exact hans
        · rw [if_neg k6] at hw1
          have eok : ok = 0 := by rw [hok, if_neg (fun p => k6 p.2)]
          rw [eok] at hb0
          refine r_aload_n d_X8_given_27 rfl ?_
          refine r_iload_n d_X8_given_28 rfl ?_
          refine r_iload_n d_X8_given_29 rfl ?_
          refine r_S1i d_X8_given_30 (w_X8_393 _ rfl) (x_asWay hw2) (by decide) (Nat.le_of_ble_eq_true rfl) (fun z30 T30 I30 L30 R30 h30 => ?_)
          obtain ⟨rfl, rfl, rfl, rfl, rfl⟩ := h30
          refine r_iload_n d_X8_given_33 rfl ?_
          refine r_S1i d_X8_given_34 (w_X8_403 _ rfl) (hgi) (by decide) (Nat.le_of_ble_eq_true rfl) (fun z34 T34 I34 L34 R34 h34 => ?_)
          obtain ⟨rfl, rfl, rfl, rfl, rfl⟩ := h34
          refine r_if_eq d_X8_given_37 (by omega) (fun c37 => absurd c37 (by decide)) (fun c37 => ?_)
          refine r_iload d_X8_given_40 rfl ?_
          refine r_iconst d_X8_given_42 ?_
          refine r_iconst d_X8_given_43 ?_
          refine r_S3i d_X8_given_44 (w_X8_162 _ rfl) (hw1) (by decide) (Nat.le_of_ble_eq_true rfl) (fun z44 T44 I44 L44 R44 h44 => ?_)
          obtain ⟨rfl, rfl, rfl, rfl, rfl⟩ := h44
          refine r_if_eq d_X8_given_47 (by omega) (fun c47 => ?_) (fun c47 => absurd c47 (by decide))
          refine r_iconst d_X8_given_54 ?_
          refine r_V3i d_X8_given_55 (w_X8_396 _ rfl) (tt_139 _ _) rfl rfl (hb0) (by decide) (Nat.le_of_ble_eq_true rfl) (fun z55 T55 I55 L55 R55 h55 => ?_)
          obtain ⟨rfl, rfl, rfl, rfl, rfl⟩ := h55
          refine r_istore d_X8_given_58 (by decide) ?_
          refine r_iload d_X8_given_60 rfl ?_
          refine r_if_eq d_X8_given_62 (by omega) (fun c62 => absurd c62 (by exact kd)) (fun c62 => ?_)
          refine r_iload d_X8_given_65 rfl ?_
          refine r_iret d_X8_given_67 rfl ?_
          exact hans
      · rw [if_neg k5] at hgi
        have eok : ok = 0 := by rw [hok, if_neg (fun p => k5 p.1)]
        rw [eok] at hb0
        refine r_aload_n d_X8_given_27 rfl ?_
        refine r_iload_n d_X8_given_28 rfl ?_
        refine r_iload_n d_X8_given_29 rfl ?_
        refine r_S1i d_X8_given_30 (w_X8_393 _ rfl) (x_asWay hw2) (by decide) (Nat.le_of_ble_eq_true rfl) (fun z30 T30 I30 L30 R30 h30 => ?_)
        obtain ⟨rfl, rfl, rfl, rfl, rfl⟩ := h30
        refine r_iload_n d_X8_given_33 rfl ?_
        refine r_S1i d_X8_given_34 (w_X8_403 _ rfl) (hgi) (by decide) (Nat.le_of_ble_eq_true rfl) (fun z34 T34 I34 L34 R34 h34 => ?_)
        obtain ⟨rfl, rfl, rfl, rfl, rfl⟩ := h34
        refine r_if_eq d_X8_given_37 (by omega) (fun c37 => ?_) (fun c37 => absurd c37 (by decide))
        refine r_iconst d_X8_given_54 ?_
        refine r_V3i d_X8_given_55 (w_X8_396 _ rfl) (tt_139 _ _) rfl rfl (hb0) (by decide) (Nat.le_of_ble_eq_true rfl) (fun z55 T55 I55 L55 R55 h55 => ?_)
        obtain ⟨rfl, rfl, rfl, rfl, rfl⟩ := h55
        refine r_istore d_X8_given_58 (by decide) ?_
        refine r_iload d_X8_given_60 rfl ?_
        refine r_if_eq d_X8_given_62 (by omega) (fun c62 => absurd c62 (by exact kd)) (fun c62 => ?_)
        refine r_iload d_X8_given_65 rfl ?_
        refine r_iret d_X8_given_67 rfl ?_
        exact hans
  by_cases c1 : 0 ≤ rule ∧ rule < (tl.length : Int)
  · rw [if_pos c1] at hru
    by_cases c2 : 0 < nr
    · by_cases c3 : 0 ≤ guest ∧ guest < (ng : Int)
      · rw [if_pos c3] at hrm
        refine r_aload_n d_X8_given_0 rfl ?_
        refine r_iload_n d_X8_given_1 rfl ?_
        refine r_V1i d_X8_given_2 (w_X8_250 _ rfl) (tt_139 _ _) rfl rfl (hru) (by decide) (Nat.le_of_ble_eq_true rfl) (fun z2 T2 I2 L2 R2 h2 => ?_)
        obtain ⟨rfl, rfl, rfl, rfl, rfl⟩ := h2
        refine r_if_eq d_X8_given_5 (by omega) (fun c5 => absurd c5 (by decide)) (fun c5 => ?_)
        refine r_aload_n d_X8_given_8 rfl ?_
        refine r_geti d_X8_given_9 f_X8_232 (tt_139 _ _) (by decide) (by decide) ?_
        refine r_if_le d_X8_given_12 (by omega) (fun c12 => absurd c12 (by omega)) (fun c12 => ?_)
        refine r_aload_n d_X8_given_15 rfl ?_
        refine r_iload d_X8_given_16 rfl ?_
        refine r_V1i d_X8_given_18 (w_X8_262 _ rfl) (tt_139 _ _) rfl rfl (hrm) (by decide) (Nat.le_of_ble_eq_true rfl) (fun z18 T18 I18 L18 R18 h18 => ?_)
        obtain ⟨rfl, rfl, rfl, rfl, rfl⟩ := h18
        refine r_if_ne d_X8_given_21 (by omega) (fun c21 => ?_) (fun c21 => absurd c21 (by decide))
        exact t27 (fun _ _ => c3)
      · rw [if_neg c3] at hrm
        refine r_aload_n d_X8_given_0 rfl ?_
        refine r_iload_n d_X8_given_1 rfl ?_
        refine r_V1i d_X8_given_2 (w_X8_250 _ rfl) (tt_139 _ _) rfl rfl (hru) (by decide) (Nat.le_of_ble_eq_true rfl) (fun z2 T2 I2 L2 R2 h2 => ?_)
        obtain ⟨rfl, rfl, rfl, rfl, rfl⟩ := h2
        refine r_if_eq d_X8_given_5 (by omega) (fun c5 => absurd c5 (by decide)) (fun c5 => ?_)
        refine r_aload_n d_X8_given_8 rfl ?_
        refine r_geti d_X8_given_9 f_X8_232 (tt_139 _ _) (by decide) (by decide) ?_
        refine r_if_le d_X8_given_12 (by omega) (fun c12 => absurd c12 (by omega)) (fun c12 => ?_)
        refine r_aload_n d_X8_given_15 rfl ?_
        refine r_iload d_X8_given_16 rfl ?_
        refine r_V1i d_X8_given_18 (w_X8_262 _ rfl) (tt_139 _ _) rfl rfl (hrm) (by decide) (Nat.le_of_ble_eq_true rfl) (fun z18 T18 I18 L18 R18 h18 => ?_)
        obtain ⟨rfl, rfl, rfl, rfl, rfl⟩ := h18
        refine r_if_ne d_X8_given_21 (by omega) (fun c21 => absurd c21 (by decide)) (fun c21 => ?_)
        refine r_bipush d_X8_given_24 (by decide) ?_
        refine r_iret d_X8_given_26 rfl ?_
        rw [hQ]
        have e : gfS tl.length nr ng (2 ^ chn σ nr) rule way how guest what = -101 := by unfold gfS; rw [if_pos c1, if_pos c2, if_neg c3]
        refine AM_no hM ⟨?_, ?_⟩
        · rw [e]; exact fun _ => rfl
        · rw [e]; exact fun h => absurd h (by decide)
    · skip
      refine r_aload_n d_X8_given_0 rfl ?_
      refine r_iload_n d_X8_given_1 rfl ?_
      refine r_V1i d_X8_given_2 (w_X8_250 _ rfl) (tt_139 _ _) rfl rfl (hru) (by decide) (Nat.le_of_ble_eq_true rfl) (fun z2 T2 I2 L2 R2 h2 => ?_)
      obtain ⟨rfl, rfl, rfl, rfl, rfl⟩ := h2
      refine r_if_eq d_X8_given_5 (by omega) (fun c5 => absurd c5 (by decide)) (fun c5 => ?_)
      refine r_aload_n d_X8_given_8 rfl ?_
      refine r_geti d_X8_given_9 f_X8_232 (tt_139 _ _) (by decide) (by decide) ?_
      refine r_if_le d_X8_given_12 (by omega) (fun c12 => ?_) (fun c12 => absurd c12 (by omega))
      exact t27 (fun _ h => absurd h c2)
  · rw [if_neg c1] at hru
    refine r_aload_n d_X8_given_0 rfl ?_
    refine r_iload_n d_X8_given_1 rfl ?_
    refine r_V1i d_X8_given_2 (w_X8_250 _ rfl) (tt_139 _ _) rfl rfl (hru) (by decide) (Nat.le_of_ble_eq_true rfl) (fun z2 T2 I2 L2 R2 h2 => ?_)
    obtain ⟨rfl, rfl, rfl, rfl, rfl⟩ := h2
    refine r_if_eq d_X8_given_5 (by omega) (fun c5 => ?_) (fun c5 => absurd c5 (by decide))
    exact t27 (fun h => absurd h c1)
end X9b
