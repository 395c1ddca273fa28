/-- the first of the worst -/
def ixW (C : Nat → Int) (n : Nat) : Int := if n = 0 then -1 else ((wsX C n).1 : Int)
theorem wsX_rg {C : Nat → Int} : ∀ n, (∀ w, w < n → 0 ≤ C w ∧ C w ≤ 4000) → -1 ≤ (wsX C n).2 ∧ (wsX C n).2 ≤ 4000
  | 0, _ => by show (-1 : Int) ≤ -1 ∧ (-1 : Int) ≤ 4000; omega
  | n + 1, h => by
    have ih := wsX_rg n (fun w hw => h w (by omega))
    have := h n (by omega)
    show -1 ≤ (if (wsX C n).2 < C n then (n, C n) else wsX C n).2 ∧ (if (wsX C n).2 < C n then (n, C n) else wsX C n).2 ≤ 4000
    split
    · show -1 ≤ C n ∧ C n ≤ 4000; omega
    · exact ih
theorem wsX_lt {C : Nat → Int} {n : Nat} (h : (wsX C n).2 < C n) : ixW C (n + 1) = (n : Int) ∧ (wsX C (n + 1)).2 = C n := by
  have e : wsX C (n + 1) = (n, C n) := by show (if (wsX C n).2 < C n then (n, C n) else wsX C n) = _; rw [if_pos h]
  unfold ixW
  rw [if_neg (by omega), e]
  exact ⟨rfl, rfl⟩
theorem wsX_ge {C : Nat → Int} {n : Nat} (h0 : 0 ≤ C n) (h : ¬ (wsX C n).2 < C n) : ixW C (n + 1) = ixW C n ∧ (wsX C (n + 1)).2 = (wsX C n).2 := by
  have hn : n ≠ 0 := fun e => by subst e; exact h (by show (-1 : Int) < C 0; omega)
  have e : wsX C (n + 1) = wsX C n := by show (if (wsX C n).2 < C n then (n, C n) else wsX C n) = _; rw [if_neg h]
  unfold ixW
  rw [if_neg (by omega), if_neg hn, e]
  exact ⟨rfl, rfl⟩
section X96
variable {g : sG} {Ls : Nat} {T : sT} {R : sR} {I L : sI} {σ δ : Sg} {ℓ ab : Int} {nr nw nW ng : Nat} {tl : List Nat} {ukd unn : Nat → Int} {utr utw : Nat → Nat → Nat}
theorem x_worst (hM : MS σ ℓ nr nw ng tl ukd unn utr utw I) {rule how what : Int} (hr : i32 rule) (hh : i32 how) (hpt : i32 what) : Mc g 12 m_X8_worst 0 0 [vr 139, vi rule, vi how, vi what] (TT Ls tl) I L (RR tl) (AM σ ℓ nr nw ng Ls tl ukd unn utr utw I L (aWorst σ ℓ nr nw ng tl ukd unn utr utw rule how what)) := by
  refine Mc_of rfl (Nat.le_of_ble_eq_true rfl) ?_
  obtain ⟨hV, h3, hcan, hA, hX, hl, hwm, hN, hR⟩ := id hM
  have hr2 : -2147483648 ≤ rule ∧ rule ≤ 2147483647 := hr
  have hh2 : -2147483648 ≤ how ∧ how ≤ 2147483647 := hh
  have hp2 : -2147483648 ≤ what ∧ what ≤ 2147483647 := hpt
  have h10 := p10 hV.2.2.2
  have hbr := fun (ok : Int) (ho : ok = 0 ∨ ok = 1) => x_bars (g := g) (Ls := Ls) (L := L) hM hr (way := -1) (by unfold i32; omega) ho
  have hgi := x_isGiving (g := g) (T := TT Ls tl) (I := I) (L := L) (R := RR tl) hh2
  have hwi := x_within (g := g) (T := TT Ls tl) (I := I) (L := L) (R := RR tl) (lo := 0) (hi := 1) hp2 (by omega) (by omega)
  by_cases k3 : (how = 0 ∨ how = 1) ∧ (0 ≤ what ∧ what ≤ 1)
  · have hb0 := hbr 1 (Or.inr rfl)
    rw [if_pos k3.1] at hgi
    rw [if_pos k3.2] at hwi
    by_cases k1 : (0 ≤ rule ∧ rule < (tl.length : Int)) ∧ 0 < nr
    · obtain ⟨k1, k2⟩ := k1
      have eb : brS tl.length nr (2 ^ chn σ nr) rule (-1) 1 = 0 := by
        unfold brS
        rw [if_pos k1, if_pos k2, if_pos ⟨rfl, Or.inl rfl⟩]
      rw [eb] at hb0
      obtain ⟨q, rfl⟩ : ∃ q : Nat, rule = (q : Int) := ⟨rule.toNat, by omega⟩
      obtain ⟨m1, m2⟩ := MS_all hM
      obtain ⟨I0, hI0⟩ : ∃ I0 : sI, I0 = up2 (up2 I 139 56 (I 139 8)) 139 55 (-1) := ⟨_, rfl⟩
      rw [← hI0] at m1 m2
      obtain ⟨⟨s1, s2, s3, s4, s5⟩, v2, v3, v4⟩ := id hV
      have hp := p2 v4
      obtain ⟨C, hC⟩ := CDX_ex (ab := -1) (kd := ukd q) (nn := unn q) (tr := utr q) (tw := utw q) (tn := tl.getD q 0) (how := how) hV.1 v2 v3
      obtain ⟨Q, hQ⟩ : ∃ Q : sQ, Q = AM σ ℓ nr nw ng Ls tl ukd unn utr utw I L (aWorst σ ℓ nr nw ng tl ukd unn utr utw (q : Int) how what) := ⟨_, rfl⟩
      rw [← hQ]
      have loop : ∀ (k way : Nat) (I1 : sI), way + k = 2 ^ chn σ nr → FM I0 I1 → KNM σ ℓ (-1) nr nw ng I1 → DCA σ ℓ (-1) nr nw ng (ukd q) (unn q) (utr q) (utw q) (tl.getD q 0) how C way → (∀ w, w < way → 0 ≤ C w ∧ C w ≤ 4000) → Cp g 12 m_X8_worst 0 0 Q 50 [(0, vr 139), (1, vi (q : Int)), (2, vi how), (3, vi what), (5, vi (ixW C way)), (6, vi (wsX C way).2), (7, vi (way : Int))] [] (TT Ls tl) I1 L (RR tl) := by
        intro k
        induction k with
        | zero =>
          intro way I1 hk f hN1 hd hb
          have ew : way = 2 ^ chn σ nr := by omega
          have hiw := x_isWay (g := g) (Ls := Ls) (tl := tl) (L := L) hV (MX_fm m1.2.2.2.2.1 f) (way := (way : Int)) (by omega)
          rw [if_neg (by omega)] at hiw
          have fin : ∀ z : Int, z = (if what = 0 then ((wsX C (2 ^ chn σ nr)).1 : Int) else (wsX C (2 ^ chn σ nr)).2) → Q (some (vi z)) (TT Ls tl) I1 L (RR tl) := fun z hz => by
            rw [hQ]
            refine ⟨_, rfl, rfl, rfl, rfl, FP_tr m2 (FM_FP f), MS_fp hM (FP_tr m2 (FM_FP f)) hN1, ?_⟩
            have e : rfS tl.length nr (q : Int) how = 0 := by unfold rfS; rw [if_pos k1, if_pos k2, if_pos k3.1]
            rw [ew] at hd
            obtain ⟨od, o1, o2⟩ := DCA_od hV.1 v2 v3 hd (by omega)
            refine ⟨fun h => absurd e h, fun _ h => absurd (by omega) h, fun _ _ => ⟨C, od, ?_, ?_, hz⟩⟩
            · rw [Int.toNat_natCast]; exact o1
            · rw [Int.toNat_natCast]; exact o2
          have e1 : ixW C way = ((wsX C (2 ^ chn σ nr)).1 : Int) := by unfold ixW; rw [if_neg (by omega), ew]
          by_cases kw : what = 0
          · skip
            refine r_aload_n d_X8_worst_50 rfl ?_
            refine r_iload d_X8_worst_51 rfl ?_
            refine r_V1i d_X8_worst_53 (w_X8_272 _ rfl) (tt_139 _ _) rfl rfl (hiw) (by decide) (Nat.le_of_ble_eq_true rfl) (fun z53 T53 I53 L53 R53 h53 => ?_)
            obtain ⟨rfl, rfl, rfl, rfl, rfl⟩ := h53
            refine r_if_eq d_X8_worst_56 (by omega) (fun c56 => ?_) (fun c56 => absurd c56 (by decide))
            refine r_iload_n d_X8_worst_100 rfl ?_
            refine r_if_ne d_X8_worst_101 (by omega) (fun c101 => absurd c101 (by exact fun q => q kw)) (fun c101 => ?_)
            refine r_iload d_X8_worst_104 rfl ?_
            refine r_goto d_X8_worst_106 ?_
            refine r_iret d_X8_worst_111 rfl ?_
            exact fin _ (by rw [if_pos kw, e1])
          · skip
            refine r_aload_n d_X8_worst_50 rfl ?_
            refine r_iload d_X8_worst_51 rfl ?_
            refine r_V1i d_X8_worst_53 (w_X8_272 _ rfl) (tt_139 _ _) rfl rfl (hiw) (by decide) (Nat.le_of_ble_eq_true rfl) (fun z53 T53 I53 L53 R53 h53 => ?_)
            obtain ⟨rfl, rfl, rfl, rfl, rfl⟩ := h53
            refine r_if_eq d_X8_worst_56 (by omega) (fun c56 => ?_) (fun c56 => absurd c56 (by decide))
            refine r_iload_n d_X8_worst_100 rfl ?_
            refine r_if_ne d_X8_worst_101 (by omega) (fun c101 => ?_) (fun c101 => absurd c101 (by exact kw))
            refine r_iload d_X8_worst_109 rfl ?_
            refine r_iret d_X8_worst_111 rfl ?_
            exact fin _ (by rw [if_neg kw, ew])
        | succ k ih =>
          intro way I1 hk f hN1 hd hb
          have hiw := x_isWay (g := g) (Ls := Ls) (tl := tl) (L := L) hV (MX_fm m1.2.2.2.2.1 f) (way := (way : Int)) (by omega)
          rw [if_pos (by omega)] at hiw
          have rgm := wsX_rg (C := C) way hb
          have t69 : ∀ (I2 : sI), FM I0 I2 → KNM σ ℓ (-1) nr nw ng I2 → DCA σ ℓ (-1) nr nw ng (ukd q) (unn q) (utr q) (utw q) (tl.getD q 0) how C (way + 1) → (∀ w, w < way + 1 → 0 ≤ C w ∧ C w ≤ 4000) → Cp g 12 m_X8_worst 0 0 Q 69 [(0, vr 139), (1, vi (q : Int)), (2, vi how), (3, vi what), (5, vi (ixW C way)), (6, vi (wsX C way).2), (7, vi (way : Int)), (8, vi (C way))] [] (TT Ls tl) I2 L (RR tl) := by
            intro I2 f2 hN2 hd2 hb2
            have cb := hb2 way (by omega)
            by_cases hlt : (wsX C way).2 < C way
            · obtain ⟨n1, n2⟩ := wsX_lt hlt
              have e2 : (if C way < (wsX C way).2 then (wsX C way).2 else C way) = (wsX C (way + 1)).2 := by rw [if_neg (by omega), n2]
              refine r_iload d_X8_worst_69 rfl ?_
              refine r_iload d_X8_worst_71 rfl ?_
              refine r_icmp_le d_X8_worst_73 (by omega) (by omega) (fun c73 => absurd c73 (by omega)) (fun c73 => ?_)
              refine r_iload d_X8_worst_76 rfl ?_
              refine r_goto d_X8_worst_78 ?_
              refine r_istore d_X8_worst_83 (by decide) ?_
              refine r_iload d_X8_worst_85 rfl ?_
              refine r_iload d_X8_worst_87 rfl ?_
              refine r_S2i d_X8_worst_89 (w_X8_285 _ rfl) (x_greater (by omega) (by omega)) (by decide) (Nat.le_of_ble_eq_true rfl) (fun z89 T89 I89 L89 R89 h89 => ?_)
              obtain ⟨rfl, rfl, rfl, rfl, rfl⟩ := h89
              refine r_istore d_X8_worst_92 (by decide) ?_
              refine r_iinc d_X8_worst_94 rfl (by decide) ?_
              refine r_goto d_X8_worst_97 ?_
              exact CpL (ih (way + 1) I2 (by omega) f2 hN2 hd2 hb2) (by repeat (first | exact trivial | refine ⟨rfl, ?_⟩ | refine ⟨by rw [n1]; rfl, ?_⟩ | refine ⟨by rw [e2]; rfl, ?_⟩))
            · obtain ⟨n1, n2⟩ := wsX_ge cb.1 hlt
              have e2 : (if C way < (wsX C way).2 then (wsX C way).2 else C way) = (wsX C (way + 1)).2 := by rw [n2]; split <;> omega
              refine r_iload d_X8_worst_69 rfl ?_
              refine r_iload d_X8_worst_71 rfl ?_
              refine r_icmp_le d_X8_worst_73 (by omega) (by omega) (fun c73 => ?_) (fun c73 => absurd c73 (by omega))
              refine r_iload d_X8_worst_81 rfl ?_
              refine r_istore d_X8_worst_83 (by decide) ?_
              refine r_iload d_X8_worst_85 rfl ?_
              refine r_iload d_X8_worst_87 rfl ?_
              refine r_S2i d_X8_worst_89 (w_X8_285 _ rfl) (x_greater (by omega) (by omega)) (by decide) (Nat.le_of_ble_eq_true rfl) (fun z89 T89 I89 L89 R89 h89 => ?_)
              obtain ⟨rfl, rfl, rfl, rfl, rfl⟩ := h89
              refine r_istore d_X8_worst_92 (by decide) ?_
              refine r_iinc d_X8_worst_94 rfl (by decide) ?_
              refine r_goto d_X8_worst_97 ?_
              exact CpL (ih (way + 1) I2 (by omega) f2 hN2 hd2 hb2) (by repeat (first | exact trivial | refine ⟨rfl, ?_⟩ | refine ⟨by rw [n1]; rfl, ?_⟩ | refine ⟨by rw [e2]; rfl, ?_⟩))
          refine r_aload_n d_X8_worst_50 rfl ?_
          refine r_iload d_X8_worst_51 rfl ?_
          refine r_V1i d_X8_worst_53 (w_X8_272 _ rfl) (tt_139 _ _) rfl rfl (hiw) (by decide) (Nat.le_of_ble_eq_true rfl) (fun z53 T53 I53 L53 R53 h53 => ?_)
          obtain ⟨rfl, rfl, rfl, rfl, rfl⟩ := h53
          refine r_if_eq d_X8_worst_56 (by omega) (fun c56 => absurd c56 (by decide)) (fun c56 => ?_)
          refine r_aload_n d_X8_worst_59 rfl ?_
          refine r_iload_n d_X8_worst_60 rfl ?_
          refine r_iload d_X8_worst_61 rfl ?_
          refine r_iload_n d_X8_worst_63 rfl ?_
          refine r_V3i d_X8_worst_64 (w_X8_406 _ rfl) (tt_139 _ _) rfl rfl (x_costBy (MB_fm m1 f hN1) (by omega) (by omega) k2 k3.1) (by decide) (Nat.le_of_ble_eq_true rfl) (fun z64 T64 I64 L64 R64 h64 => ?_)
          obtain ⟨rfl, rfl, rfl, y1, y2, y3, y4, od, y5, y6, y7⟩ := h64
          refine r_istore d_X8_worst_67 (by decide) ?_
          have hz := hC way z64 ⟨od, _, y5, y6⟩
          rw [hz] at y3 y6
          refine CpL (t69 I64 (FM_tr f y1) y2 (fun w hw => ?_) (fun w hw => ?_)) (by repeat (first | exact trivial | refine ⟨rfl, ?_⟩ | refine ⟨by rw [hz]; rfl, ?_⟩))
          · by_cases e : w = way
            · rw [e]; exact ⟨od, _, y5, y6⟩
            · exact hd w (by omega)
          · by_cases e : w = way
            · rw [e]; exact y3
            · exact hb w (by omega)
      refine r_aload_n d_X8_worst_0 rfl ?_
      refine r_iload_n d_X8_worst_1 rfl ?_
      refine r_iconst d_X8_worst_2 ?_
      refine r_iload_n d_X8_worst_3 rfl ?_
      refine r_S1i d_X8_worst_4 (w_X8_403 _ rfl) (hgi) (by decide) (Nat.le_of_ble_eq_true rfl) (fun z4 T4 I4 L4 R4 h4 => ?_)
      obtain ⟨rfl, rfl, rfl, rfl, rfl⟩ := h4
      refine r_if_eq d_X8_worst_7 (by omega) (fun c7 => absurd c7 (by decide)) (fun c7 => ?_)
      refine r_iload_n d_X8_worst_10 rfl ?_
      refine r_iconst d_X8_worst_11 ?_
      refine r_iconst d_X8_worst_12 ?_
      refine r_S3i d_X8_worst_13 (w_X8_162 _ rfl) (hwi) (by decide) (Nat.le_of_ble_eq_true rfl) (fun z13 T13 I13 L13 R13 h13 => ?_)
      obtain ⟨rfl, rfl, rfl, rfl, rfl⟩ := h13
      refine r_if_eq d_X8_worst_16 (by omega) (fun c16 => absurd c16 (by decide)) (fun c16 => ?_)
      refine r_iconst d_X8_worst_19 ?_
      refine r_goto d_X8_worst_20 ?_
      refine r_V3i d_X8_worst_24 (w_X8_396 _ rfl) (tt_139 _ _) rfl rfl (hb0) (by decide) (Nat.le_of_ble_eq_true rfl) (fun z24 T24 I24 L24 R24 h24 => ?_)
      obtain ⟨rfl, rfl, rfl, rfl, rfl⟩ := h24
      refine r_istore d_X8_worst_27 (by decide) ?_
      refine r_iload d_X8_worst_29 rfl ?_
      refine r_if_eq d_X8_worst_31 (by omega) (fun c31 => ?_) (fun c31 => absurd c31 (by decide))
      refine r_aload_n d_X8_worst_37 rfl ?_
      refine r_V0v d_X8_worst_38 (w_X8_400 _ rfl) (tt_139 _ _) rfl rfl (x_allWomen) (by decide) (Nat.le_of_ble_eq_true rfl) (fun T38 I38 L38 R38 h38 => ?_)
      obtain ⟨rfl, rfl, rfl, rfl⟩ := h38
      refine r_iconst d_X8_worst_41 ?_
      refine r_istore d_X8_worst_42 (by decide) ?_
      refine r_iconst d_X8_worst_44 ?_
      refine r_istore d_X8_worst_45 (by decide) ?_
      refine r_iconst d_X8_worst_47 ?_
      refine r_istore d_X8_worst_48 (by decide) ?_
      rw [← hI0]
      exact CpL (loop _ 0 I0 (Nat.zero_add _) FM_rf m1.2.2.2.2.2.2.1 (fun w hw => absurd hw (by omega)) (fun w hw => absurd hw (by omega))) (by repeat (first | exact trivial | refine ⟨rfl, ?_⟩))
    · have hans : brS tl.length nr (2 ^ chn σ nr) rule (-1) 1 ≠ 0 ∧ aWorst σ ℓ nr nw ng tl ukd unn utr utw rule how what (brS tl.length nr (2 ^ chn σ nr) rule (-1) 1) := by
        unfold aWorst rfS brS
        by_cases c1 : 0 ≤ rule ∧ rule < (tl.length : Int)
        · rw [if_pos c1, if_pos c1, if_neg (fun h => k1 ⟨c1, h⟩), if_neg (fun h => k1 ⟨c1, h⟩)]
          exact ⟨by decide, fun _ => rfl, fun h => absurd h (by decide), fun h => absurd h (by decide)⟩
        · rw [if_neg c1, if_neg c1]
          exact ⟨by decide, fun _ => rfl, fun h => absurd h (by decide), fun h => absurd h (by decide)⟩
      obtain ⟨hne, hans⟩ := hans
      have hrg := br_rg (n := tl.length) (nr := nr) (W := 2 ^ chn σ nr) (rule := rule) (way := -1) (ok := 1)
      generalize brS tl.length nr (2 ^ chn σ nr) rule (-1) 1 = z at *
      refine r_aload_n d_X8_worst_0 rfl ?_
      refine r_iload_n d_X8_worst_1 rfl ?_
      refine r_iconst d_X8_worst_2 ?_
      refine r_iload_n d_X8_worst_3 rfl ?_
      refine r_S1i d_X8_worst_4 (w_X8_403 _ rfl) (hgi) (by decide) (Nat.le_of_ble_eq_true rfl) (fun z4 T4 I4 L4 R4 h4 => ?_)
      obtain ⟨rfl, rfl, rfl, rfl, rfl⟩ := h4
      refine r_if_eq d_X8_worst_7 (by omega) (fun c7 => absurd c7 (by decide)) (fun c7 => ?_)
      refine r_iload_n d_X8_worst_10 rfl ?_
      refine r_iconst d_X8_worst_11 ?_
      refine r_iconst d_X8_worst_12 ?_
      refine r_S3i d_X8_worst_13 (w_X8_162 _ rfl) (hwi) (by decide) (Nat.le_of_ble_eq_true rfl) (fun z13 T13 I13 L13 R13 h13 => ?_)
      obtain ⟨rfl, rfl, rfl, rfl, rfl⟩ := h13
      refine r_if_eq d_X8_worst_16 (by omega) (fun c16 => absurd c16 (by decide)) (fun c16 => ?_)
      refine r_iconst d_X8_worst_19 ?_
      refine r_goto d_X8_worst_20 ?_
      refine r_V3i d_X8_worst_24 (w_X8_396 _ rfl) (tt_139 _ _) rfl rfl (hb0) (by decide) (Nat.le_of_ble_eq_true rfl) (fun z24 T24 I24 L24 R24 h24 => ?_)
      obtain ⟨rfl, rfl, rfl, rfl, rfl⟩ := h24
      refine r_istore d_X8_worst_27 (by decide) ?_
      refine r_iload d_X8_worst_29 rfl ?_
      refine r_if_eq d_X8_worst_31 (by omega) (fun c31 => absurd c31 (by exact hne)) (fun c31 => ?_)
      refine r_iload d_X8_worst_34 rfl ?_
      refine r_iret d_X8_worst_36 rfl ?_
      exact AM_no hM hans
  · have hb0 := hbr 0 (Or.inl rfl)
    have hans : brS tl.length nr (2 ^ chn σ nr) rule (-1) 0 ≠ 0 ∧ aWorst σ ℓ nr nw ng tl ukd unn utr utw rule how what (brS tl.length nr (2 ^ chn σ nr) rule (-1) 0) := by
      unfold aWorst rfS brS
      by_cases c1 : 0 ≤ rule ∧ rule < (tl.length : Int)
      · rw [if_pos c1, if_pos c1]
        by_cases c2 : 0 < nr
        · rw [if_pos c2, if_pos c2, if_neg (show ¬ ((0 : Int) = 1 ∧ ((-1 : Int) = -1 ∨ (0 ≤ (-1 : Int) ∧ (-1 : Int) < ((2 ^ chn σ nr : Nat) : Int)))) from fun p => absurd p.1 (by decide))]
          refine ⟨by decide, fun h => ?_, fun _ _ => rfl, fun h1 h2 => ?_⟩
          · by_cases c3 : how = 0 ∨ how = 1
            · rw [if_pos c3] at h; exact absurd rfl h
            · rw [if_neg c3]
          · by_cases c3 : how = 0 ∨ how = 1
            · exact absurd ⟨c3, by omega⟩ k3
            · rw [if_neg c3] at h1; exact absurd h1 (by decide)
        · rw [if_neg c2, if_neg c2]
          exact ⟨by decide, fun _ => rfl, fun h => absurd h (by decide), fun h => absurd h (by decide)⟩
      · rw [if_neg c1, if_neg c1]
        exact ⟨by decide, fun _ => rfl, fun h => absurd h (by decide), fun h => absurd h (by decide)⟩
    obtain ⟨hne, hans⟩ := hans
    have hrg := br_rg (n := tl.length) (nr := nr) (W := 2 ^ chn σ nr) (rule := rule) (way := -1) (ok := 0)
    generalize brS tl.length nr (2 ^ chn σ nr) rule (-1) 0 = z at *
    by_cases k4 : how = 0 ∨ how = 1
    · rw [if_pos k4] at hgi
      rw [if_neg (fun h => k3 ⟨k4, h⟩)] at hwi
      refine r_aload_n d_X8_worst_0 rfl ?_
      refine r_iload_n d_X8_worst_1 rfl ?_
      refine r_iconst d_X8_worst_2 ?_
      refine r_iload_n d_X8_worst_3 rfl ?_
      refine r_S1i d_X8_worst_4 (w_X8_403 _ rfl) (hgi) (by decide) (Nat.le_of_ble_eq_true rfl) (fun z4 T4 I4 L4 R4 h4 => ?_)
      obtain ⟨rfl, rfl, rfl, rfl, rfl⟩ := h4
      refine r_if_eq d_X8_worst_7 (by omega) (fun c7 => absurd c7 (by decide)) (fun c7 => ?_)
      refine r_iload_n d_X8_worst_10 rfl ?_
      refine r_iconst d_X8_worst_11 ?_
      refine r_iconst d_X8_worst_12 ?_
      refine r_S3i d_X8_worst_13 (w_X8_162 _ rfl) (hwi) (by decide) (Nat.le_of_ble_eq_true rfl) (fun z13 T13 I13 L13 R13 h13 => ?_)
      obtain ⟨rfl, rfl, rfl, rfl, rfl⟩ := h13
      refine r_if_eq d_X8_worst_16 (by omega) (fun c16 => ?_) (fun c16 => absurd c16 (by decide))
      refine r_iconst d_X8_worst_23 ?_
      refine r_V3i d_X8_worst_24 (w_X8_396 _ rfl) (tt_139 _ _) rfl rfl (hb0) (by decide) (Nat.le_of_ble_eq_true rfl) (fun z24 T24 I24 L24 R24 h24 => ?_)
      obtain ⟨rfl, rfl, rfl, rfl, rfl⟩ := h24
      refine r_istore d_X8_worst_27 (by decide) ?_
      refine r_iload d_X8_worst_29 rfl ?_
      refine r_if_eq d_X8_worst_31 (by omega) (fun c31 => absurd c31 (by exact hne)) (fun c31 => ?_)
      refine r_iload d_X8_worst_34 rfl ?_
      refine r_iret d_X8_worst_36 rfl ?_
      exact AM_no hM hans
    · rw [if_neg k4] at hgi
      refine r_aload_n d_X8_worst_0 rfl ?_
      refine r_iload_n d_X8_worst_1 rfl ?_
      refine r_iconst d_X8_worst_2 ?_
      refine r_iload_n d_X8_worst_3 rfl ?_
      refine r_S1i d_X8_worst_4 (w_X8_403 _ rfl) (hgi) (by decide) (Nat.le_of_ble_eq_true rfl) (fun z4 T4 I4 L4 R4 h4 => ?_)
      obtain ⟨rfl, rfl, rfl, rfl, rfl⟩ := h4
      refine r_if_eq d_X8_worst_7 (by omega) (fun c7 => ?_) (fun c7 => absurd c7 (by decide))
      refine r_iconst d_X8_worst_23 ?_
      refine r_V3i d_X8_worst_24 (w_X8_396 _ rfl) (tt_139 _ _) rfl rfl (hb0) (by decide) (Nat.le_of_ble_eq_true rfl) (fun z24 T24 I24 L24 R24 h24 => ?_)
      obtain ⟨rfl, rfl, rfl, rfl, rfl⟩ := h24
      refine r_istore d_X8_worst_27 (by decide) ?_
      refine r_iload d_X8_worst_29 rfl ?_
      refine r_if_eq d_X8_worst_31 (by omega) (fun c31 => absurd c31 (by exact hne)) (fun c31 => ?_)
      refine r_iload d_X8_worst_34 rfl ?_
      refine r_iret d_X8_worst_36 rfl ?_
      exact AM_no hM hans
end X96
