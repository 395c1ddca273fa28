/-! the reference: a day that is run; lates and the lift -/
theorem sland31 (z : Int) : sland z 2147483647 = z % 2147483648 := by
  unfold sland
  show (BitVec.ofInt 64 z &&& (Int64.ofInt 2147483647).toBitVec : BitVec 64).toInt = _
  have e1 : (Int64.ofInt 2147483647).toBitVec.toNat = 2 ^ 31 - 1 := by decide
  have e3 : (BitVec.ofInt 64 z &&& (Int64.ofInt 2147483647).toBitVec).toNat = (BitVec.ofInt 64 z).toNat % 2147483648 := by
    rw [BitVec.toNat_and, e1, Nat.and_two_pow_sub_one_eq_mod]
  rw [BitVec.toInt_eq_toNat_of_lt (by rw [e3]; omega), e3, BitVec.toNat_ofInt]
  omega
section X9o
variable {g : sG} {Ls : Nat} {I L : sI} {σ : Sg} {ℓ : Int} {nr nw ng : Nat} {tl : List Nat} {ukd unn : Nat → Int} {utr utw : Nat → Nat → Nat}
theorem x_run (hM : MS σ ℓ nr nw ng tl ukd unn utr utw I) {rule how seed what : Int} (hr : i32 rule) (hh : i32 how) (hse : i32 seed) (hw : i32 what) : Mc g 11 m_X8_run 0 0 [vr 139, vi rule, vi how, vi seed, vi what] (TT Ls tl) I L (RR tl) (AM σ ℓ nr nw ng Ls tl ukd unn utr utw I L (aRun σ ℓ nr nw ng tl ukd unn utr utw rule how seed what)) := by
  refine Mc_of rfl (Nat.le_of_ble_eq_true rfl) ?_
  obtain ⟨hV, h3, hcan, hA, hX, hl, hwm, hN, hR⟩ := id hM
  have hr2 : -2147483648 ≤ rule ∧ rule ≤ 2147483647 := hr
  have hw2 : -2147483648 ≤ what ∧ what ≤ 2147483647 := hw
  have hh2 : -2147483648 ≤ how ∧ how ≤ 2147483647 := hh
  have hse2 : -2147483648 ≤ seed ∧ seed ≤ 2147483647 := hse
  have hp := p2 hV.2.2.2
  have e0 := hX.1
  have s1 := hV.1.1
  obtain ⟨Q, hQ⟩ : ∃ Q : sQ, Q = AM σ ℓ nr nw ng Ls tl ukd unn utr utw I L (aRun σ ℓ nr nw ng tl ukd unn utr utw rule how seed what) := ⟨_, rfl⟩
  rw [← hQ]
  have hbr := fun (ok : Int) (ho : ok = 0 ∨ ok = 1) => x_bars (g := g) (Ls := Ls) (L := L) hM hr (way := -1) (by unfold i32; omega) ho
  have hgi := x_isGiving (g := g) (T := TT Ls tl) (I := I) (L := L) (R := RR tl) hh2
  have hwi := x_within (g := g) (T := TT Ls tl) (I := I) (L := L) (R := RR tl) (lo := 0) (hi := 2) hw2 (by omega) (by omega)
  have t29 : ∀ ok : Int, (ok = 0 ∨ ok = 1) → (ok = 1 ↔ (how = 0 ∨ how = 1) ∧ 0 ≤ seed ∧ (0 ≤ what ∧ what ≤ 2)) → Cp g 11 m_X8_run 0 0 Q 29 [(0, vr 139), (1, vi rule), (2, vi how), (3, vi seed), (4, vi what)] [vi ok, vi (-1), vi rule, vr 139] (TT Ls tl) I L (RR tl) := by
    intro ok ho hok
    have hb0 := hbr ok ho
    have eb : brS tl.length nr (2 ^ chn σ nr) rule (-1) ok = if 0 ≤ rule ∧ rule < (tl.length : Int) then (if 0 < nr then (if ok = 1 then 0 else -102) else -103) else -101 := by
      unfold brS
      by_cases c : ok = 1
      · rw [if_pos (show ok = 1 ∧ ((-1 : Int) = -1 ∨ (0 ≤ (-1 : Int) ∧ (-1 : Int) < ((2 ^ chn σ nr : Nat) : Int))) from ⟨c, Or.inl rfl⟩), if_pos c]
      · have n1 : ¬ (ok = 1 ∧ ((-1 : Int) = -1 ∨ (0 ≤ (-1 : Int) ∧ (-1 : Int) < ((2 ^ chn σ nr : Nat) : Int)))) := fun p => c p.1
        rw [if_neg n1, if_neg c]
    rw [eb] at hb0
    by_cases c0 : ((0 ≤ rule ∧ rule < (tl.length : Int)) ∧ 0 < nr) ∧ ok = 1
    · obtain ⟨⟨c1, c2⟩, c3⟩ := c0
      rw [if_pos c1, if_pos c2, if_pos c3] at hb0
      obtain ⟨k3, k4, k5⟩ := hok.mp c3
      have hs : 0 ≤ seed ∧ seed ≤ 2147483647 := ⟨k4, hse2.2⟩
      obtain ⟨q, rfl⟩ : ∃ q : Nat, rule = (q : Int) := ⟨rule.toNat, by omega⟩
      obtain ⟨m1, m2⟩ := MS_all hM
      have hN1 := m1.2.2.2.2.2.2.1
      have ez : rfS tl.length nr (q : Int) how = 0 := by unfold rfS; rw [if_pos c1, if_pos c2, if_pos k3]
      have fin : ∀ z : Int, (what = 0 → z = ((rnS σ seed nr).2 : Int)) ∧ (what = 2 → z = (rnS σ seed nr).1) ∧ (what = 1 → CD σ ℓ (-1) nr nw ng (ukd q) (unn q) (utr q) (utw q) (tl.getD q 0) (rnS σ seed nr).2 how z) → aRun σ ℓ nr nw ng tl ukd unn utr utw (q : Int) how seed what z := fun z h => ⟨fun h => absurd ez h, fun _ h => absurd ⟨k4, by omega⟩ h, fun _ _ => by rw [Int.toNat_natCast]; exact h⟩
      have loop : ∀ (k b : Nat) (nx : Int) (wy : Nat), b + k = nr → rnS σ seed b = (nx, wy) → Cp g 11 m_X8_run 0 0 Q 55 [(0, vr 139), (1, vi (q : Int)), (2, vi how), (4, vi what), (6, vl nx), (8, vi (wy : Int)), (9, vi (chn σ b : Int)), (10, vi (b : Int))] [] (TT Ls tl) I L (RR tl) := by
        intro k
        induction k with
        | zero =>
          intro b nx wy hbk e
          have eb : b = nr := by omega
          subst eb
          have hbd := rn_bd (σ := σ) hs b
          rw [e] at fin hbd
          have hb1 : 0 ≤ nx ∧ nx ≤ 2147483647 := hbd.1
          have hb2 : wy < 2 ^ chn σ b := hbd.2
          have hcb := x_costBy (g := g) (Ls := Ls) (L := L) m1 (q := q) (way := wy) (by omega) (by omega) c2 k3
          rcases (show what = 0 ∨ what = 1 ∨ what = 2 by omega) with hw0 | hw1 | hw3
          · skip
            refine r_iload d_X8_run_55 rfl ?_
            refine r_aload_n d_X8_run_57 rfl ?_
            refine r_geti d_X8_run_58 f_X8_232 (tt_139 _ _) (by decide) (by decide) ?_
            refine r_icmp_ge d_X8_run_61 (by omega) (by omega) (fun c61 => ?_) (fun c61 => absurd c61 (by omega))
            refine r_aload_n d_X8_run_146 rfl ?_
            refine r_V0v d_X8_run_147 (w_X8_400 _ rfl) (tt_139 _ _) rfl rfl (x_allWomen) (by decide) (Nat.le_of_ble_eq_true rfl) (fun T147 I147 L147 R147 h147 => ?_)
            obtain ⟨rfl, rfl, rfl, rfl⟩ := h147
            refine r_iload d_X8_run_150 rfl ?_
            refine r_if_ne d_X8_run_152 (by omega) (fun c152 => absurd c152 (by omega)) (fun c152 => ?_)
            refine r_iload d_X8_run_155 rfl ?_
            refine r_goto d_X8_run_157 ?_
            refine r_iret d_X8_run_180 rfl ?_
            rw [hQ]
            exact ⟨_, rfl, rfl, rfl, rfl, m2, MS_fp hM m2 hN1, fin _ ⟨fun _ => rfl, fun h => absurd h (by omega), fun h => absurd h (by omega)⟩⟩
          · skip
            refine r_iload d_X8_run_55 rfl ?_
            refine r_aload_n d_X8_run_57 rfl ?_
            refine r_geti d_X8_run_58 f_X8_232 (tt_139 _ _) (by decide) (by decide) ?_
            refine r_icmp_ge d_X8_run_61 (by omega) (by omega) (fun c61 => ?_) (fun c61 => absurd c61 (by omega))
            refine r_aload_n d_X8_run_146 rfl ?_
            refine r_V0v d_X8_run_147 (w_X8_400 _ rfl) (tt_139 _ _) rfl rfl (x_allWomen) (by decide) (Nat.le_of_ble_eq_true rfl) (fun T147 I147 L147 R147 h147 => ?_)
            obtain ⟨rfl, rfl, rfl, rfl⟩ := h147
            refine r_iload d_X8_run_150 rfl ?_
            refine r_if_ne d_X8_run_152 (by omega) (fun c152 => ?_) (fun c152 => absurd c152 (by omega))
            refine r_iload d_X8_run_160 rfl ?_
            refine r_iconst d_X8_run_162 ?_
            refine r_icmp_ne d_X8_run_163 (by omega) (by omega) (fun c163 => absurd c163 (by omega)) (fun c163 => ?_)
            refine r_aload_n d_X8_run_166 rfl ?_
            refine r_iload_n d_X8_run_167 rfl ?_
            refine r_iload d_X8_run_168 rfl ?_
            refine r_iload_n d_X8_run_170 rfl ?_
            refine r_V3i d_X8_run_171 (w_X8_406 _ rfl) (tt_139 _ _) rfl rfl (hcb) (by decide) (Nat.le_of_ble_eq_true rfl) (fun z171 T171 I171 L171 R171 h171 => ?_)
            obtain ⟨rfl, rfl, rfl, y1, y2, y3, y4, od, y5, y6, y7⟩ := h171
            refine r_goto d_X8_run_174 ?_
            refine r_iret d_X8_run_180 rfl ?_
            rw [hQ]
            exact ⟨_, rfl, rfl, rfl, rfl, FP_tr m2 (FM_FP y1), MS_fp hM (FP_tr m2 (FM_FP y1)) y2, fin _ ⟨fun h => absurd h (by omega), fun h => absurd h (by omega), fun _ => ⟨od, _, y5, y6⟩⟩⟩
          · skip
            refine r_iload d_X8_run_55 rfl ?_
            refine r_aload_n d_X8_run_57 rfl ?_
            refine r_geti d_X8_run_58 f_X8_232 (tt_139 _ _) (by decide) (by decide) ?_
            refine r_icmp_ge d_X8_run_61 (by omega) (by omega) (fun c61 => ?_) (fun c61 => absurd c61 (by omega))
            refine r_aload_n d_X8_run_146 rfl ?_
            refine r_V0v d_X8_run_147 (w_X8_400 _ rfl) (tt_139 _ _) rfl rfl (x_allWomen) (by decide) (Nat.le_of_ble_eq_true rfl) (fun T147 I147 L147 R147 h147 => ?_)
            obtain ⟨rfl, rfl, rfl, rfl⟩ := h147
            refine r_iload d_X8_run_150 rfl ?_
            refine r_if_ne d_X8_run_152 (by omega) (fun c152 => ?_) (fun c152 => absurd c152 (by omega))
            refine r_iload d_X8_run_160 rfl ?_
            refine r_iconst d_X8_run_162 ?_
            refine r_icmp_ne d_X8_run_163 (by omega) (by omega) (fun c163 => ?_) (fun c163 => absurd c163 (by omega))
            refine r_lload d_X8_run_177 rfl ?_
            refine r_l2i d_X8_run_179 ?_
            refine r_iret d_X8_run_180 rfl ?_
            rw [hQ]
            exact ⟨_, rfl, rfl, rfl, rfl, m2, MS_fp hM m2 hN1, fin _ ⟨fun h => absurd h (by omega), fun _ => rfl, fun h => absurd h (by omega)⟩⟩
        | succ k ih =>
          intro b nx wy hbk e
          have hb : b < nr := by omega
          have hbd := rn_bd (σ := σ) hs b
          rw [e] at hbd
          have hb1 : 0 ≤ nx ∧ nx ≤ 2147483647 := hbd.1
          have hb2 : wy < 2 ^ chn σ b := hbd.2
          have hb3 : 2 ^ chn σ b ≤ 2 ^ chn σ nr := Nat.pow_le_pow_right (by omega) (chn_mono σ (by omega))
          have hb4 : chn σ b ≤ chn σ nr := chn_mono σ (by omega)
          have hb5 := hV.2.2.2
          have g4 : I 144 b = σ 4 b := hX.2.2.1 b hb 4 (by omega)
          have g5 : I 145 b = σ 5 b := hX.2.2.1 b hb 5 (by omega)
          have g6 : I 146 b = σ 6 b := hX.2.2.1 b hb 6 (by omega)
          obtain ⟨-, -, -, -, w5, w6⟩ := hV.1.2.2.1 b hb
          have rs : rnS σ seed (b + 1) = (if σ 4 b = -1 ∨ σ 6 b ≠ -1 then (nx, wy) else ((1103515245 * nx + 12345) % 2147483648, if (1103515245 * nx + 12345) % 2147483648 / 65536 % 10 < σ 5 b then wy else wy ||| 2 ^ chn σ b)) := by
            show (if σ 4 b = -1 ∨ σ 6 b ≠ -1 then rnS σ seed b else _) = _
            rw [e]
          have cs : (chn σ (b + 1) : Int) = (chn σ b : Int) + (if σ 4 b = -1 then 0 else 1) := by
            show ((chn σ b + (if σ 4 b = -1 then 0 else 1) : Nat) : Int) = _
            split <;> omega
          by_cases c4 : σ 4 b = -1
          · rw [if_pos (Or.inl c4)] at rs
            rw [if_pos c4, Int.add_zero] at cs
            refine r_iload d_X8_run_55 rfl ?_
            refine r_aload_n d_X8_run_57 rfl ?_
            refine r_geti d_X8_run_58 f_X8_232 (tt_139 _ _) (by decide) (by decide) ?_
            refine r_icmp_ge d_X8_run_61 (by omega) (by omega) (fun c61 => absurd c61 (by omega)) (fun c61 => ?_)
            refine r_aload_n d_X8_run_64 rfl ?_
            refine r_getr d_X8_run_65 f_X8_22 (tt_139 _ _) (by decide) rfl (rr_139_5 _) ?_
            refine r_iload d_X8_run_68 rfl ?_
            refine r_ialdJ d_X8_run_70 (tt_144 _ _) rfl (by omega) (kk := ?_)
            rw [g4]
            refine r_iconst d_X8_run_71 ?_
            refine r_icmp_eq d_X8_run_72 (by omega) (by omega) (fun c72 => ?_) (fun c72 => absurd c72 (by exact fun q => q c4))
            refine r_iinc d_X8_run_140 rfl (by decide) ?_
            refine r_goto d_X8_run_143 ?_
            exact CpL (ih (b + 1) nx wy (by omega) rs) (by repeat (first | exact trivial | refine ⟨rfl, ?_⟩ | refine ⟨by rw [cs]; rfl, ?_⟩))
          · rw [if_neg c4] at cs
            by_cases c6 : σ 6 b = -1
            · rw [if_neg (by omega)] at rs
              obtain ⟨y, hy⟩ : ∃ y, y = (1103515245 * nx + 12345) % 2147483648 := ⟨_, rfl⟩
              have hyb : 0 ≤ y ∧ y ≤ 2147483647 := by omega
              rw [← hy] at rs
              have em : sor (wy : Int) (sshl 1 (chn σ b : Int)) = ((wy ||| 2 ^ chn σ b : Nat) : Int) := by
                rw [sshl_one (chn σ b) (by omega), sor_nat (by omega) (by omega)]
              have em0 : sor (wy : Int) 0 = (wy : Int) := by
                have := sor_nat (a := wy) (b := 0) (by omega) (by omega)
                rw [Nat.or_zero] at this
                exact this
              refine r_iload d_X8_run_55 rfl ?_
              refine r_aload_n d_X8_run_57 rfl ?_
              refine r_geti d_X8_run_58 f_X8_232 (tt_139 _ _) (by decide) (by decide) ?_
              refine r_icmp_ge d_X8_run_61 (by omega) (by omega) (fun c61 => absurd c61 (by omega)) (fun c61 => ?_)
              refine r_aload_n d_X8_run_64 rfl ?_
              refine r_getr d_X8_run_65 f_X8_22 (tt_139 _ _) (by decide) rfl (rr_139_5 _) ?_
              refine r_iload d_X8_run_68 rfl ?_
              refine r_ialdJ d_X8_run_70 (tt_144 _ _) rfl (by omega) (kk := ?_)
              rw [g4]
              refine r_iconst d_X8_run_71 ?_
              refine r_icmp_eq d_X8_run_72 (by omega) (by omega) (fun c72 => absurd c72 (by exact c4)) (fun c72 => ?_)
              refine r_aload_n d_X8_run_75 rfl ?_
              refine r_getr d_X8_run_76 f_X8_28 (tt_139 _ _) (by decide) rfl (rr_139_7 _) ?_
              refine r_iload d_X8_run_79 rfl ?_
              refine r_ialdJ d_X8_run_81 (tt_146 _ _) rfl (by omega) (kk := ?_)
              rw [g6, c6]
              refine r_iconst d_X8_run_82 ?_
              refine r_icmp_ne d_X8_run_83 (by omega) (by omega) (fun c83 => absurd c83 (by decide)) (fun c83 => ?_)
              refine r_ldc2 d_X8_run_86 (k_X8_425 _ rfl) ?_
              refine r_lload d_X8_run_89 rfl ?_
              refine r_lmul d_X8_run_91 ?_
              refine r_ldc2 d_X8_run_92 (k_X8_427 _ rfl) ?_
              refine r_ladd d_X8_run_95 ?_
              refine r_ldc2 d_X8_run_96 (k_X8_429 _ rfl) ?_
              refine r_land d_X8_run_99 ?_
              rw [sland31, ← hy]
              refine r_lstore d_X8_run_100 (by decide) ?_
              refine r_iload d_X8_run_102 rfl ?_
              refine r_lload d_X8_run_104 rfl ?_
              refine r_ldc2 d_X8_run_106 (k_X8_431 _ rfl) ?_
              refine r_ldiv d_X8_run_109 (by omega) (by omega) ?_
              refine r_ldc2 d_X8_run_110 (k_X8_433 _ rfl) ?_
              refine r_lrem d_X8_run_113 (by omega) (by omega) ?_
              refine r_aload_n d_X8_run_114 rfl ?_
              refine r_getr d_X8_run_115 f_X8_25 (tt_139 _ _) (by decide) rfl (rr_139_6 _) ?_
              refine r_iload d_X8_run_118 rfl ?_
              refine r_ialdJ d_X8_run_120 (tt_145 _ _) rfl (by omega) (kk := ?_)
              rw [g5]
              refine r_i2l d_X8_run_121 (by omega) ?_
              refine r_lcmp d_X8_run_122 (by omega) (by omega) ?_
              refine r_if_ge d_X8_run_123 (by omega) (fun c123 => ?_) (fun c123 => ?_)
              · refine r_iconst d_X8_run_130 ?_
                refine r_iload d_X8_run_131 rfl ?_
                refine r_ishl d_X8_run_133 ?_
                refine r_ior d_X8_run_134 ?_
                first
                | rw [em0]
                | rw [em]
                refine r_istore d_X8_run_135 (by decide) ?_
                refine r_iinc d_X8_run_137 rfl (by decide) ?_
                refine r_iinc d_X8_run_140 rfl (by decide) ?_
                refine r_goto d_X8_run_143 ?_
                first
                | exact CpL (ih (b + 1) y wy (by omega) (by rw [rs, if_pos (by have := c123; omega)])) (by repeat (first | exact trivial | refine ⟨rfl, ?_⟩ | refine ⟨by rw [cs]; rfl, ?_⟩))
                | exact CpL (ih (b + 1) y (wy ||| 2 ^ chn σ b) (by omega) (by rw [rs, if_neg (by have := c123; omega)])) (by repeat (first | exact trivial | refine ⟨rfl, ?_⟩ | refine ⟨by rw [cs]; rfl, ?_⟩))
              · refine r_iconst d_X8_run_126 ?_
                refine r_goto d_X8_run_127 ?_
                refine r_ior d_X8_run_134 ?_
                first
                | rw [em0]
                | rw [em]
                refine r_istore d_X8_run_135 (by decide) ?_
                refine r_iinc d_X8_run_137 rfl (by decide) ?_
                refine r_iinc d_X8_run_140 rfl (by decide) ?_
                refine r_goto d_X8_run_143 ?_
                first
                | exact CpL (ih (b + 1) y wy (by omega) (by rw [rs, if_pos (by have := c123; omega)])) (by repeat (first | exact trivial | refine ⟨rfl, ?_⟩ | refine ⟨by rw [cs]; rfl, ?_⟩))
                | exact CpL (ih (b + 1) y (wy ||| 2 ^ chn σ b) (by omega) (by rw [rs, if_neg (by have := c123; omega)])) (by repeat (first | exact trivial | refine ⟨rfl, ?_⟩ | refine ⟨by rw [cs]; rfl, ?_⟩))
            · rw [if_pos (Or.inr c6)] at rs
              refine r_iload d_X8_run_55 rfl ?_
              refine r_aload_n d_X8_run_57 rfl ?_
              refine r_geti d_X8_run_58 f_X8_232 (tt_139 _ _) (by decide) (by decide) ?_
              refine r_icmp_ge d_X8_run_61 (by omega) (by omega) (fun c61 => absurd c61 (by omega)) (fun c61 => ?_)
              refine r_aload_n d_X8_run_64 rfl ?_
              refine r_getr d_X8_run_65 f_X8_22 (tt_139 _ _) (by decide) rfl (rr_139_5 _) ?_
              refine r_iload d_X8_run_68 rfl ?_
              refine r_ialdJ d_X8_run_70 (tt_144 _ _) rfl (by omega) (kk := ?_)
              rw [g4]
              refine r_iconst d_X8_run_71 ?_
              refine r_icmp_eq d_X8_run_72 (by omega) (by omega) (fun c72 => absurd c72 (by exact c4)) (fun c72 => ?_)
              refine r_aload_n d_X8_run_75 rfl ?_
              refine r_getr d_X8_run_76 f_X8_28 (tt_139 _ _) (by decide) rfl (rr_139_7 _) ?_
              refine r_iload d_X8_run_79 rfl ?_
              refine r_ialdJ d_X8_run_81 (tt_146 _ _) rfl (by omega) (kk := ?_)
              rw [g6]
              refine r_iconst d_X8_run_82 ?_
              refine r_icmp_ne d_X8_run_83 (by omega) (by omega) (fun c83 => ?_) (fun c83 => absurd c83 (by exact c6))
              refine r_iinc d_X8_run_137 rfl (by decide) ?_
              refine r_iinc d_X8_run_140 rfl (by decide) ?_
              refine r_goto d_X8_run_143 ?_
              exact CpL (ih (b + 1) nx wy (by omega) rs) (by repeat (first | exact trivial | refine ⟨rfl, ?_⟩ | refine ⟨by rw [cs]; rfl, ?_⟩))
      refine r_V3i d_X8_run_29 (w_X8_396 _ rfl) (tt_139 _ _) rfl rfl (hb0) (by decide) (Nat.le_of_ble_eq_true rfl) (fun z29 T29 I29 L29 R29 h29 => ?_)
      obtain ⟨rfl, rfl, rfl, rfl, rfl⟩ := h29
      refine r_istore d_X8_run_32 (by decide) ?_
      refine r_iload d_X8_run_34 rfl ?_
      refine r_if_eq d_X8_run_36 (by omega) (fun c36 => ?_) (fun c36 => absurd c36 (by decide))
      refine r_iload_n d_X8_run_42 rfl ?_
      refine r_i2l d_X8_run_43 (by omega) ?_
      refine r_lstore d_X8_run_44 (by decide) ?_
      refine r_iconst d_X8_run_46 ?_
      refine r_istore d_X8_run_47 (by decide) ?_
      refine r_iconst d_X8_run_49 ?_
      refine r_istore d_X8_run_50 (by decide) ?_
      refine r_iconst d_X8_run_52 ?_
      refine r_istore d_X8_run_53 (by decide) ?_
      exact CpL (loop nr 0 seed 0 (by omega) rfl) (by repeat (first | exact trivial | refine ⟨rfl, ?_⟩))
    · have hans : (if 0 ≤ rule ∧ rule < (tl.length : Int) then (if 0 < nr then (if ok = 1 then (0 : Int) else -102) else -103) else -101) ≠ 0 ∧ aRun σ ℓ nr nw ng tl ukd unn utr utw rule how seed what (if 0 ≤ rule ∧ rule < (tl.length : Int) then (if 0 < nr then (if ok = 1 then 0 else -102) else -103) else -101) := by
        unfold aRun rfS
        by_cases c1 : 0 ≤ rule ∧ rule < (tl.length : Int)
        · rw [if_pos c1, if_pos c1]
          by_cases c2 : 0 < nr
          · rw [if_pos c2, if_pos c2, if_neg (fun h => c0 ⟨⟨c1, c2⟩, h⟩)]
            by_cases c3 : how = 0 ∨ how = 1
            · rw [if_pos c3]
              have n4 : ¬ (0 ≤ seed ∧ (0 ≤ what ∧ what < 3)) := fun h => c0 ⟨⟨c1, c2⟩, hok.mpr ⟨c3, h.1, by omega⟩⟩
              exact ⟨by decide, fun h => absurd rfl h, fun _ _ => rfl, fun _ h => absurd h n4⟩
            · rw [if_neg c3]
              exact ⟨by decide, fun _ => rfl, fun h => absurd h (by decide), fun h => absurd h (by decide)⟩
          · rw [if_neg c2, if_neg c2]
            exact ⟨by decide, fun _ => rfl, fun h => absurd h (by decide), fun h => absurd h (by decide)⟩
        · rw [if_neg c1, if_neg c1]
          exact ⟨by decide, fun _ => rfl, fun h => absurd h (by decide), fun h => absurd h (by decide)⟩
      obtain ⟨hne, hans⟩ := hans
      have hrg : -103 ≤ (if 0 ≤ rule ∧ rule < (tl.length : Int) then (if 0 < nr then (if ok = 1 then (0 : Int) else -102) else -103) else -101) ∧ (if 0 ≤ rule ∧ rule < (tl.length : Int) then (if 0 < nr then (if ok = 1 then (0 : Int) else -102) else -103) else -101) ≤ 0 := by
        split
        · split
          · split <;> omega
          · omega
        · omega
      generalize (if 0 ≤ rule ∧ rule < (tl.length : Int) then (if 0 < nr then (if ok = 1 then (0 : Int) else -102) else -103) else -101) = z at *
      refine r_V3i d_X8_run_29 (w_X8_396 _ rfl) (tt_139 _ _) rfl rfl (hb0) (by decide) (Nat.le_of_ble_eq_true rfl) (fun z29 T29 I29 L29 R29 h29 => ?_)
      obtain ⟨rfl, rfl, rfl, rfl, rfl⟩ := h29
      refine r_istore d_X8_run_32 (by decide) ?_
      refine r_iload d_X8_run_34 rfl ?_
      refine r_if_eq d_X8_run_36 (by omega) (fun c36 => absurd c36 (by exact hne)) (fun c36 => ?_)
      refine r_iload d_X8_run_39 rfl ?_
      refine r_iret d_X8_run_41 rfl ?_
      rw [hQ]
      exact AM_no hM hans
  by_cases c1 : how = 0 ∨ how = 1
  · rw [if_pos c1] at hgi
    by_cases c2 : 0 ≤ seed
    · by_cases c3 : 0 ≤ what ∧ what ≤ 2
      · rw [if_pos c3] at hwi
        refine r_aload_n d_X8_run_0 rfl ?_
        refine r_iload_n d_X8_run_1 rfl ?_
        refine r_iconst d_X8_run_2 ?_
        refine r_iload_n d_X8_run_3 rfl ?_
        refine r_S1i d_X8_run_4 (w_X8_403 _ rfl) (hgi) (by decide) (Nat.le_of_ble_eq_true rfl) (fun z4 T4 I4 L4 R4 h4 => ?_)
        obtain ⟨rfl, rfl, rfl, rfl, rfl⟩ := h4
        refine r_if_eq d_X8_run_7 (by omega) (fun c7 => absurd c7 (by decide)) (fun c7 => ?_)
        refine r_iload_n d_X8_run_10 rfl ?_
        refine r_if_lt d_X8_run_11 (by omega) (fun c11 => absurd c11 (by omega)) (fun c11 => ?_)
        refine r_iload d_X8_run_14 rfl ?_
        refine r_iconst d_X8_run_16 ?_
        refine r_iconst d_X8_run_17 ?_
        refine r_S3i d_X8_run_18 (w_X8_162 _ rfl) (hwi) (by decide) (Nat.le_of_ble_eq_true rfl) (fun z18 T18 I18 L18 R18 h18 => ?_)
        obtain ⟨rfl, rfl, rfl, rfl, rfl⟩ := h18
        refine r_if_eq d_X8_run_21 (by omega) (fun c21 => absurd c21 (by decide)) (fun c21 => ?_)
        refine r_iconst d_X8_run_24 ?_
        refine r_goto d_X8_run_25 ?_
        exact CpL (t29 1 (Or.inr rfl) ⟨fun _ => ⟨c1, c2, c3⟩, fun _ => rfl⟩) (by repeat (first | exact trivial | refine ⟨rfl, ?_⟩))
      · rw [if_neg c3] at hwi
        refine r_aload_n d_X8_run_0 rfl ?_
        refine r_iload_n d_X8_run_1 rfl ?_
        refine r_iconst d_X8_run_2 ?_
        refine r_iload_n d_X8_run_3 rfl ?_
        refine r_S1i d_X8_run_4 (w_X8_403 _ rfl) (hgi) (by decide) (Nat.le_of_ble_eq_true rfl) (fun z4 T4 I4 L4 R4 h4 => ?_)
        obtain ⟨rfl, rfl, rfl, rfl, rfl⟩ := h4
        refine r_if_eq d_X8_run_7 (by omega) (fun c7 => absurd c7 (by decide)) (fun c7 => ?_)
        refine r_iload_n d_X8_run_10 rfl ?_
        refine r_if_lt d_X8_run_11 (by omega) (fun c11 => absurd c11 (by omega)) (fun c11 => ?_)
        refine r_iload d_X8_run_14 rfl ?_
        refine r_iconst d_X8_run_16 ?_
        refine r_iconst d_X8_run_17 ?_
        refine r_S3i d_X8_run_18 (w_X8_162 _ rfl) (hwi) (by decide) (Nat.le_of_ble_eq_true rfl) (fun z18 T18 I18 L18 R18 h18 => ?_)
        obtain ⟨rfl, rfl, rfl, rfl, rfl⟩ := h18
        refine r_if_eq d_X8_run_21 (by omega) (fun c21 => ?_) (fun c21 => absurd c21 (by decide))
        refine r_iconst d_X8_run_28 ?_
        exact CpL (t29 0 (Or.inl rfl) ⟨fun h => absurd h (by decide), fun h => absurd h.2.2 c3⟩) (by repeat (first | exact trivial | refine ⟨rfl, ?_⟩))
    · skip
      refine r_aload_n d_X8_run_0 rfl ?_
      refine r_iload_n d_X8_run_1 rfl ?_
      refine r_iconst d_X8_run_2 ?_
      refine r_iload_n d_X8_run_3 rfl ?_
      refine r_S1i d_X8_run_4 (w_X8_403 _ rfl) (hgi) (by decide) (Nat.le_of_ble_eq_true rfl) (fun z4 T4 I4 L4 R4 h4 => ?_)
      obtain ⟨rfl, rfl, rfl, rfl, rfl⟩ := h4
      refine r_if_eq d_X8_run_7 (by omega) (fun c7 => absurd c7 (by decide)) (fun c7 => ?_)
      refine r_iload_n d_X8_run_10 rfl ?_
      refine r_if_lt d_X8_run_11 (by omega) (fun c11 => ?_) (fun c11 => absurd c11 (by omega))
      refine r_iconst d_X8_run_28 ?_
      exact CpL (t29 0 (Or.inl rfl) ⟨fun h => absurd h (by decide), fun h => absurd h.2.1 c2⟩) (by repeat (first | exact trivial | refine ⟨rfl, ?_⟩))
  · rw [if_neg c1] at hgi
    refine r_aload_n d_X8_run_0 rfl ?_
    refine r_iload_n d_X8_run_1 rfl ?_
    refine r_iconst d_X8_run_2 ?_
    refine r_iload_n d_X8_run_3 rfl ?_
    refine r_S1i d_X8_run_4 (w_X8_403 _ rfl) (hgi) (by decide) (Nat.le_of_ble_eq_true rfl) (fun z4 T4 I4 L4 R4 h4 => ?_)
    obtain ⟨rfl, rfl, rfl, rfl, rfl⟩ := h4
    refine r_if_eq d_X8_run_7 (by omega) (fun c7 => ?_) (fun c7 => absurd c7 (by decide))
    refine r_iconst d_X8_run_28 ?_
    exact CpL (t29 0 (Or.inl rfl) ⟨fun h => absurd h (by decide), fun h => absurd h.1 c1⟩) (by repeat (first | exact trivial | refine ⟨rfl, ?_⟩))
end X9o
