section X9a
variable {g : sG} {Ls : Nat} {T : sT} {R : sR} {I L : sI} {σ δ : Sg} {ℓ ab : Int} {nr nw nW ng : Nat} {tl : List Nat} {ukd unn : Nat → Int} {utr utw : Nat → Nat → Nat}
theorem x_done (hM : MS σ ℓ nr nw ng tl ukd unn utr utw I) {rule way room what : Int} (hr : i32 rule) (hw : i32 way) (hro : i32 room) (hwt : i32 what) : Mc g 10 m_X8_done 0 0 [vr 139, vi rule, vi way, vi room, vi what] (TT Ls tl) I L (RR tl) (AM σ ℓ nr nw ng Ls tl ukd unn utr utw I L (aDone σ ℓ nr nw ng tl ukd unn utr utw rule way room what)) := by
  refine Mc_of rfl (Nat.le_of_ble_eq_true rfl) ?_
  obtain ⟨hV, h3, hcan, hA, hX, hl, hwm, hN, hR⟩ := id hM
  have hr2 : -2147483648 ≤ rule ∧ rule ≤ 2147483647 := hr
  have hw2 : -2147483648 ≤ way ∧ way ≤ 2147483647 := hw
  have ho2 : -2147483648 ≤ room ∧ room ≤ 2147483647 := hro
  have ht2 : -2147483648 ≤ what ∧ what ≤ 2147483647 := hwt
  have e0 := hX.1
  have s1 := hV.1.1
  have hp := p2 hV.2.2.2
  have hru := x_isRule (g := g) (Ls := Ls) (tl := tl) (L := L) hr2 hR.1 hR.2.1
  have hrm := x_isRoom (g := g) (Ls := Ls) (tl := tl) (L := L) ho2 hX.1 s1
  have hbr := fun (ok : Int) (ho : ok = 0 ∨ ok = 1) => x_bars (g := g) (Ls := Ls) (L := L) hM hr (way := if way = -1 then -2 else way) (by unfold i32; split <;> omega) ho
  have hw1 := x_within (g := g) (T := TT Ls tl) (I := I) (L := L) (R := RR tl) (lo := 0) (hi := 2) ht2 (by omega) (by omega)
  obtain ⟨Q, hQ⟩ : ∃ Q : sQ, Q = AM σ ℓ nr nw ng Ls tl ukd unn utr utw I L (aDone σ ℓ nr nw ng tl ukd unn utr utw rule way room what) := ⟨_, rfl⟩
  rw [← hQ]
  have t26 : ((0 ≤ rule ∧ rule < (tl.length : Int)) → 0 < nr → (0 ≤ room ∧ room < (nr : Int))) → Cp g 10 m_X8_done 0 0 Q 26 [(0, vr 139), (1, vi rule), (2, vi way), (3, vi room), (4, vi what)] [] (TT Ls tl) I L (RR tl) := by
    intro hG
    obtain ⟨ok, hok⟩ : ∃ ok : Int, ok = (if 0 ≤ what ∧ what ≤ 2 then 1 else 0) := ⟨_, rfl⟩
    rw [← hok] at hw1
    have ho : ok = 0 ∨ ok = 1 := by rw [hok]; split <;> omega
    have hb0 := hbr ok ho
    have hrg := br_rg (n := tl.length) (nr := nr) (W := 2 ^ chn σ nr) (rule := rule) (way := if way = -1 then -2 else way) (ok := ok)
    have edf : brS tl.length nr (2 ^ chn σ nr) rule (if way = -1 then -2 else way) ok = dfS tl.length nr (2 ^ chn σ nr) rule way room what := by
      unfold brS dfS
      by_cases c1 : 0 ≤ rule ∧ rule < (tl.length : Int)
      · rw [if_pos c1, if_pos c1]
        by_cases c2 : 0 < nr
        · rw [if_pos c2, if_pos c2, if_pos (hG c1 c2)]
          by_cases c4 : (0 ≤ way ∧ way < ((2 ^ chn σ nr : Nat) : Int)) ∧ (0 ≤ what ∧ what < 3)
          · rw [if_pos c4, if_neg (show ¬ way = -1 by omega), if_pos]
            exact ⟨by rw [hok, if_pos (by omega)], Or.inr c4.1⟩
          · rw [if_neg c4, if_neg]
            intro p
            obtain ⟨p1, p2⟩ := p
            refine c4 ⟨by split at p2 <;> omega, ?_⟩
            rw [hok] at p1
            split at p1 <;> omega
        · rw [if_neg c2, if_neg c2]
      · rw [if_neg c1, if_neg c1]
    rw [edf] at hb0 hrg
    by_cases kd : dfS tl.length nr (2 ^ chn σ nr) rule way room what = 0
    · rw [kd] at hb0
      have kd2 := kd
      have k1 : 0 ≤ rule ∧ rule < (tl.length : Int) := Classical.byContradiction (fun h => by unfold dfS at kd2; rw [if_neg h] at kd2; exact absurd kd2 (by decide))
      have k2 : 0 < nr := Classical.byContradiction (fun h => by unfold dfS at kd2; rw [if_pos k1, if_neg h] at kd2; exact absurd kd2 (by decide))
      have k3 := hG k1 k2
      have k4 : (0 ≤ way ∧ way < ((2 ^ chn σ nr : Nat) : Int)) ∧ (0 ≤ what ∧ what < 3) := Classical.byContradiction (fun h => by unfold dfS at kd2; rw [if_pos k1, if_pos k2, if_pos k3, if_neg h] at kd2; exact absurd kd2 (by decide))
      obtain ⟨q, rfl⟩ : ∃ q : Nat, rule = (q : Int) := ⟨rule.toNat, by omega⟩
      obtain ⟨w, rfl⟩ : ∃ w : Nat, way = (w : Int) := ⟨way.toNat, by omega⟩
      obtain ⟨r, rfl⟩ : ∃ r : Nat, room = (r : Int) := ⟨room.toNat, by omega⟩
      have hrn : r < nr := by omega
      obtain ⟨m1, m2⟩ := MS_all hM
      have fin : ∀ (I2 : sI) (od : Nat → Nat) (z : Int), FP I I2 → KNM σ ℓ (-1) nr nw ng I2 → ODS σ ℓ (-1) nr nw ng (ukd q) (unn q) od → z = planX σ ℓ (-1) (fun r => pmS σ r ng) nr nw (ukd q) od (utr q) (utw q) (tl.getD q 0) w (if what = 0 then 1 else if what = 1 then 2 else 3) r → Q (some (vi z)) (TT Ls tl) I2 L (RR tl) := fun I2 od z f2 hN2 h1 h2 => by
        rw [hQ]
        refine ⟨_, rfl, rfl, rfl, rfl, f2, MS_fp hM f2 hN2, ?_⟩
        refine ⟨fun h => absurd kd h, fun _ => ⟨od, ?_, ?_⟩⟩
        · rw [Int.toNat_natCast]; exact h1
        · rw [Int.toNat_natCast, Int.toNat_natCast, Int.toNat_natCast]; exact h2
      have hsc := x_laySchedule (g := g) (Ls := Ls) (L := L) m1 (q := q) (way := w) (by omega) (by omega) k2
      rcases (show what = 0 ∨ what = 1 ∨ what = 2 by omega) with rfl | rfl | rfl
      · skip
        refine r_aload_n d_X8_done_26 rfl ?_
        refine r_iload_n d_X8_done_27 rfl ?_
        refine r_iload_n d_X8_done_28 rfl ?_
        refine r_S1i d_X8_done_29 (w_X8_393 _ rfl) (x_asWay hw2) (by decide) (Nat.le_of_ble_eq_true rfl) (fun z29 T29 I29 L29 R29 h29 => ?_)
        obtain ⟨rfl, rfl, rfl, rfl, rfl⟩ := h29
        refine r_iload d_X8_done_32 rfl ?_
        refine r_iconst d_X8_done_34 ?_
        refine r_iconst d_X8_done_35 ?_
        refine r_S3i d_X8_done_36 (w_X8_162 _ rfl) (hw1) (by decide) (Nat.le_of_ble_eq_true rfl) (fun z36 T36 I36 L36 R36 h36 => ?_)
        obtain ⟨rfl, rfl, rfl, rfl, rfl⟩ := h36
        refine r_V3i d_X8_done_39 (w_X8_396 _ rfl) (tt_139 _ _) rfl rfl (hb0) (by decide) (Nat.le_of_ble_eq_true rfl) (fun z39 T39 I39 L39 R39 h39 => ?_)
        obtain ⟨rfl, rfl, rfl, rfl, rfl⟩ := h39
        refine r_istore d_X8_done_42 (by decide) ?_
        refine r_iload d_X8_done_44 rfl ?_
        refine r_if_eq d_X8_done_46 (by omega) (fun c46 => ?_) (fun c46 => absurd c46 (by decide))
        refine r_aload_n d_X8_done_52 rfl ?_
        refine r_V0v d_X8_done_53 (w_X8_400 _ rfl) (tt_139 _ _) rfl rfl (x_allWomen) (by decide) (Nat.le_of_ble_eq_true rfl) (fun T53 I53 L53 R53 h53 => ?_)
        obtain ⟨rfl, rfl, rfl, rfl⟩ := h53
        refine r_aload_n d_X8_done_56 rfl ?_
        refine r_iload_n d_X8_done_57 rfl ?_
        refine r_iload_n d_X8_done_58 rfl ?_
        refine r_V2v d_X8_done_59 (w_X8_390 _ rfl) (tt_139 _ _) rfl rfl (hsc) (by decide) (Nat.le_of_ble_eq_true rfl) (fun T59 I59 L59 R59 h59 => ?_)
        obtain ⟨rfl, rfl, rfl, y1, y2, od, y3, y4, y5⟩ := h59
        refine r_iload d_X8_done_62 rfl ?_
        refine r_if_ne d_X8_done_64 (by omega) (fun c64 => absurd c64 (by decide)) (fun c64 => ?_)
        refine r_aload_n d_X8_done_67 rfl ?_
        refine r_getr d_X8_done_68 f_X8_130 (tt_139 _ _) (by decide) rfl (rr_139_59 _) ?_
        refine r_iload_n d_X8_done_71 rfl ?_
        refine r_ialdJ d_X8_done_72 (tt_177 _ _) rfl (by omega) (kk := ?_)
        refine r_goto d_X8_done_73 ?_
        refine r_iret d_X8_done_97 rfl ?_
        exact fin _ od _ (FP_tr m2 (FM_FP y1)) y2 y4 (by rw [if_pos rfl]; exact (y5 r hrn).2.1)
      · skip
        refine r_aload_n d_X8_done_26 rfl ?_
        refine r_iload_n d_X8_done_27 rfl ?_
        refine r_iload_n d_X8_done_28 rfl ?_
        refine r_S1i d_X8_done_29 (w_X8_393 _ rfl) (x_asWay hw2) (by decide) (Nat.le_of_ble_eq_true rfl) (fun z29 T29 I29 L29 R29 h29 => ?_)
        obtain ⟨rfl, rfl, rfl, rfl, rfl⟩ := h29
        refine r_iload d_X8_done_32 rfl ?_
        refine r_iconst d_X8_done_34 ?_
        refine r_iconst d_X8_done_35 ?_
        refine r_S3i d_X8_done_36 (w_X8_162 _ rfl) (hw1) (by decide) (Nat.le_of_ble_eq_true rfl) (fun z36 T36 I36 L36 R36 h36 => ?_)
        obtain ⟨rfl, rfl, rfl, rfl, rfl⟩ := h36
        refine r_V3i d_X8_done_39 (w_X8_396 _ rfl) (tt_139 _ _) rfl rfl (hb0) (by decide) (Nat.le_of_ble_eq_true rfl) (fun z39 T39 I39 L39 R39 h39 => ?_)
        obtain ⟨rfl, rfl, rfl, rfl, rfl⟩ := h39
        refine r_istore d_X8_done_42 (by decide) ?_
        refine r_iload d_X8_done_44 rfl ?_
        refine r_if_eq d_X8_done_46 (by omega) (fun c46 => ?_) (fun c46 => absurd c46 (by decide))
        refine r_aload_n d_X8_done_52 rfl ?_
        refine r_V0v d_X8_done_53 (w_X8_400 _ rfl) (tt_139 _ _) rfl rfl (x_allWomen) (by decide) (Nat.le_of_ble_eq_true rfl) (fun T53 I53 L53 R53 h53 => ?_)
        obtain ⟨rfl, rfl, rfl, rfl⟩ := h53
        refine r_aload_n d_X8_done_56 rfl ?_
        refine r_iload_n d_X8_done_57 rfl ?_
        refine r_iload_n d_X8_done_58 rfl ?_
        refine r_V2v d_X8_done_59 (w_X8_390 _ rfl) (tt_139 _ _) rfl rfl (hsc) (by decide) (Nat.le_of_ble_eq_true rfl) (fun T59 I59 L59 R59 h59 => ?_)
        obtain ⟨rfl, rfl, rfl, y1, y2, od, y3, y4, y5⟩ := h59
        refine r_iload d_X8_done_62 rfl ?_
        refine r_if_ne d_X8_done_64 (by omega) (fun c64 => ?_) (fun c64 => absurd c64 (by decide))
        refine r_iload d_X8_done_76 rfl ?_
        refine r_iconst d_X8_done_78 ?_
        refine r_icmp_ne d_X8_done_79 (by omega) (by omega) (fun c79 => absurd c79 (by decide)) (fun c79 => ?_)
        refine r_aload_n d_X8_done_82 rfl ?_
        refine r_getr d_X8_done_83 f_X8_133 (tt_139 _ _) (by decide) rfl (rr_139_60 _) ?_
        refine r_iload_n d_X8_done_86 rfl ?_
        refine r_ialdJ d_X8_done_87 (tt_178 _ _) rfl (by omega) (kk := ?_)
        refine r_goto d_X8_done_88 ?_
        refine r_iret d_X8_done_97 rfl ?_
        exact fin _ od _ (FP_tr m2 (FM_FP y1)) y2 y4 (by rw [if_neg (by decide), if_pos rfl]; exact (y5 r hrn).2.2.1)
      · skip
        refine r_aload_n d_X8_done_26 rfl ?_
        refine r_iload_n d_X8_done_27 rfl ?_
        refine r_iload_n d_X8_done_28 rfl ?_
        refine r_S1i d_X8_done_29 (w_X8_393 _ rfl) (x_asWay hw2) (by decide) (Nat.le_of_ble_eq_true rfl) (fun z29 T29 I29 L29 R29 h29 => ?_)
        obtain ⟨rfl, rfl, rfl, rfl, rfl⟩ := h29
        refine r_iload d_X8_done_32 rfl ?_
        refine r_iconst d_X8_done_34 ?_
        refine r_iconst d_X8_done_35 ?_
        refine r_S3i d_X8_done_36 (w_X8_162 _ rfl) (hw1) (by decide) (Nat.le_of_ble_eq_true rfl) (fun z36 T36 I36 L36 R36 h36 => ?_)
        obtain ⟨rfl, rfl, rfl, rfl, rfl⟩ := h36
        refine r_V3i d_X8_done_39 (w_X8_396 _ rfl) (tt_139 _ _) rfl rfl (hb0) (by decide) (Nat.le_of_ble_eq_true rfl) (fun z39 T39 I39 L39 R39 h39 => ?_)
        obtain ⟨rfl, rfl, rfl, rfl, rfl⟩ := h39
        refine r_istore d_X8_done_42 (by decide) ?_
        refine r_iload d_X8_done_44 rfl ?_
        refine r_if_eq d_X8_done_46 (by omega) (fun c46 => ?_) (fun c46 => absurd c46 (by decide))
        refine r_aload_n d_X8_done_52 rfl ?_
        refine r_V0v d_X8_done_53 (w_X8_400 _ rfl) (tt_139 _ _) rfl rfl (x_allWomen) (by decide) (Nat.le_of_ble_eq_true rfl) (fun T53 I53 L53 R53 h53 => ?_)
        obtain ⟨rfl, rfl, rfl, rfl⟩ := h53
        refine r_aload_n d_X8_done_56 rfl ?_
        refine r_iload_n d_X8_done_57 rfl ?_
        refine r_iload_n d_X8_done_58 rfl ?_
        refine r_V2v d_X8_done_59 (w_X8_390 _ rfl) (tt_139 _ _) rfl rfl (hsc) (by decide) (Nat.le_of_ble_eq_true rfl) (fun T59 I59 L59 R59 h59 => ?_)
        obtain ⟨rfl, rfl, rfl, y1, y2, od, y3, y4, y5⟩ := h59
        refine r_iload d_X8_done_62 rfl ?_
        refine r_if_ne d_X8_done_64 (by omega) (fun c64 => ?_) (fun c64 => absurd c64 (by decide))
        refine r_iload d_X8_done_76 rfl ?_
        refine r_iconst d_X8_done_78 ?_
        refine r_icmp_ne d_X8_done_79 (by omega) (by omega) (fun c79 => ?_) (fun c79 => absurd c79 (by decide))
        refine r_aload_n d_X8_done_91 rfl ?_
        refine r_getr d_X8_done_92 f_X8_136 (tt_139 _ _) (by decide) rfl (rr_139_61 _) ?_
        refine r_iload_n d_X8_done_95 rfl ?_
        refine r_ialdJ d_X8_done_96 (tt_179 _ _) rfl (by omega) (kk := ?_)
        refine r_iret d_X8_done_97 rfl ?_
        exact fin _ od _ (FP_tr m2 (FM_FP y1)) y2 y4 (by rw [if_neg (by decide), if_neg (by decide)]; exact (y5 r hrn).2.2.2)
    · have hans : Q (some (vi (dfS tl.length nr (2 ^ chn σ nr) rule way room what))) (TT Ls tl) I L (RR tl) := by
        rw [hQ]
        exact AM_no hM ⟨fun _ => rfl, fun h => absurd h kd⟩
      generalize dfS tl.length nr (2 ^ chn σ nr) rule way room what = z at hb0 hans kd hrg
      refine r_aload_n d_X8_done_26 rfl ?_
      refine r_iload_n d_X8_done_27 rfl ?_
      refine r_iload_n d_X8_done_28 rfl ?_
      refine r_S1i d_X8_done_29 (w_X8_393 _ rfl) (x_asWay hw2) (by decide) (Nat.le_of_ble_eq_true rfl) (fun z29 T29 I29 L29 R29 h29 => ?_)
      obtain ⟨rfl, rfl, rfl, rfl, rfl⟩ := h29
      refine r_iload d_X8_done_32 rfl ?_
      refine r_iconst d_X8_done_34 ?_
      refine r_iconst d_X8_done_35 ?_
      refine r_S3i d_X8_done_36 (w_X8_162 _ rfl) (hw1) (by decide) (Nat.le_of_ble_eq_true rfl) (fun z36 T36 I36 L36 R36 h36 => ?_)
      obtain ⟨rfl, rfl, rfl, rfl, rfl⟩ := h36
      refine r_V3i d_X8_done_39 (w_X8_396 _ rfl) (tt_139 _ _) rfl rfl (hb0) (by decide) (Nat.le_of_ble_eq_true rfl) (fun z39 T39 I39 L39 R39 h39 => ?_)
      obtain ⟨rfl, rfl, rfl, rfl, rfl⟩ := h39
      refine r_istore d_X8_done_42 (by decide) ?_
      refine r_iload d_X8_done_44 rfl ?_
      refine r_if_eq d_X8_done_46 (by omega) (fun c46 => absurd c46 (by exact kd)) (fun c46 => ?_)
      refine r_iload d_X8_done_49 rfl ?_
      refine r_iret d_X8_done_51 rfl ?_
      exact hans
  by_cases c1 : 0 ≤ rule ∧ rule < (tl.length : Int)
  · rw [if_pos c1] at hru
    by_cases c2 : 0 < nr
    · by_cases c3 : 0 ≤ room ∧ room < (nr : Int)
      · rw [if_pos c3] at hrm
        refine r_aload_n d_X8_done_0 rfl ?_
        refine r_iload_n d_X8_done_1 rfl ?_
        refine r_V1i d_X8_done_2 (w_X8_250 _ rfl) (tt_139 _ _) rfl rfl (hru) (by decide) (Nat.le_of_ble_eq_true rfl) (fun z2 T2 I2 L2 R2 h2 => ?_)
        obtain ⟨rfl, rfl, rfl, rfl, rfl⟩ := h2
        refine r_if_eq d_X8_done_5 (by omega) (fun c5 => absurd c5 (by decide)) (fun c5 => ?_)
        refine r_aload_n d_X8_done_8 rfl ?_
        refine r_geti d_X8_done_9 f_X8_232 (tt_139 _ _) (by decide) (by decide) ?_
        refine r_if_le d_X8_done_12 (by omega) (fun c12 => absurd c12 (by omega)) (fun c12 => ?_)
        refine r_aload_n d_X8_done_15 rfl ?_
        refine r_iload_n d_X8_done_16 rfl ?_
        refine r_V1i d_X8_done_17 (w_X8_253 _ rfl) (tt_139 _ _) rfl rfl (hrm) (by decide) (Nat.le_of_ble_eq_true rfl) (fun z17 T17 I17 L17 R17 h17 => ?_)
        obtain ⟨rfl, rfl, rfl, rfl, rfl⟩ := h17
        refine r_if_ne d_X8_done_20 (by omega) (fun c20 => ?_) (fun c20 => absurd c20 (by decide))
        exact t26 (fun _ _ => c3)
      · rw [if_neg c3] at hrm
        refine r_aload_n d_X8_done_0 rfl ?_
        refine r_iload_n d_X8_done_1 rfl ?_
        refine r_V1i d_X8_done_2 (w_X8_250 _ rfl) (tt_139 _ _) rfl rfl (hru) (by decide) (Nat.le_of_ble_eq_true rfl) (fun z2 T2 I2 L2 R2 h2 => ?_)
        obtain ⟨rfl, rfl, rfl, rfl, rfl⟩ := h2
        refine r_if_eq d_X8_done_5 (by omega) (fun c5 => absurd c5 (by decide)) (fun c5 => ?_)
        refine r_aload_n d_X8_done_8 rfl ?_
        refine r_geti d_X8_done_9 f_X8_232 (tt_139 _ _) (by decide) (by decide) ?_
        refine r_if_le d_X8_done_12 (by omega) (fun c12 => absurd c12 (by omega)) (fun c12 => ?_)
        refine r_aload_n d_X8_done_15 rfl ?_
        refine r_iload_n d_X8_done_16 rfl ?_
        refine r_V1i d_X8_done_17 (w_X8_253 _ rfl) (tt_139 _ _) rfl rfl (hrm) (by decide) (Nat.le_of_ble_eq_true rfl) (fun z17 T17 I17 L17 R17 h17 => ?_)
        obtain ⟨rfl, rfl, rfl, rfl, rfl⟩ := h17
        refine r_if_ne d_X8_done_20 (by omega) (fun c20 => absurd c20 (by decide)) (fun c20 => ?_)
        refine r_bipush d_X8_done_23 (by decide) ?_
        refine r_iret d_X8_done_25 rfl ?_
        rw [hQ]
        have e : dfS tl.length nr (2 ^ chn σ nr) rule way room what = -101 := by unfold dfS; rw [if_pos c1, if_pos c2, if_neg c3]
        refine AM_no hM ⟨?_, ?_⟩
        · rw [e]; exact fun _ => rfl
        · rw [e]; exact fun h => absurd h (by decide)
    · skip
      refine r_aload_n d_X8_done_0 rfl ?_
      refine r_iload_n d_X8_done_1 rfl ?_
      refine r_V1i d_X8_done_2 (w_X8_250 _ rfl) (tt_139 _ _) rfl rfl (hru) (by decide) (Nat.le_of_ble_eq_true rfl) (fun z2 T2 I2 L2 R2 h2 => ?_)
      obtain ⟨rfl, rfl, rfl, rfl, rfl⟩ := h2
      refine r_if_eq d_X8_done_5 (by omega) (fun c5 => absurd c5 (by decide)) (fun c5 => ?_)
      refine r_aload_n d_X8_done_8 rfl ?_
      refine r_geti d_X8_done_9 f_X8_232 (tt_139 _ _) (by decide) (by decide) ?_
      refine r_if_le d_X8_done_12 (by omega) (fun c12 => ?_) (fun c12 => absurd c12 (by omega))
      exact t26 (fun _ h => absurd h c2)
  · rw [if_neg c1] at hru
    refine r_aload_n d_X8_done_0 rfl ?_
    refine r_iload_n d_X8_done_1 rfl ?_
    refine r_V1i d_X8_done_2 (w_X8_250 _ rfl) (tt_139 _ _) rfl rfl (hru) (by decide) (Nat.le_of_ble_eq_true rfl) (fun z2 T2 I2 L2 R2 h2 => ?_)
    obtain ⟨rfl, rfl, rfl, rfl, rfl⟩ := h2
    refine r_if_eq d_X8_done_5 (by omega) (fun c5 => ?_) (fun c5 => absurd c5 (by decide))
    exact t26 (fun h => absurd h c1)
end X9a
