/-! the reference: letters -/
theorem sshr8 (x : BitVec 64) {n : Nat} (hn : n ≤ 56) : (x.sshiftRight n).toNat % 256 = (x.toNat >>> n) % 256 := by
  apply Nat.eq_of_testBit_eq
  intro j
  have h256 : 256 = 2 ^ 8 := rfl
  rw [h256, Nat.testBit_mod_two_pow, Nat.testBit_mod_two_pow, Nat.testBit_shiftRight]
  by_cases hj : j < 8
  · have e : (x.sshiftRight n).toNat.testBit j = x.toNat.testBit (n + j) := by
      show (x.sshiftRight n).getLsbD j = x.getLsbD (n + j)
      rw [BitVec.getLsbD_sshiftRight, if_pos (by omega)]
      have : decide (64 ≤ j) = false := decide_eq_false (by omega)
      rw [this]; rfl
    rw [e]
  · rw [decide_eq_false hj, Bool.false_and, Bool.false_and]
theorem lshr_at (w : Int) : ∀ i : Nat, i < 8 → slshr w (8 * (i : Int)) = ((BitVec.ofInt 64 w).sshiftRight (8 * i)).toInt := by
  intro i hi
  have key : ∀ i : Nat, i < 8 → (((Int32.ofInt (8 * (i : Int))).toInt64 &&& 63).toBitVec.smod 64).toNat = 8 * i := by decide
  unfold slshr
  show ((BitVec.ofInt 64 w).sshiftRight ((((Int32.ofInt (8 * (i : Int))).toInt64 &&& 63).toBitVec.smod 64).toNat)).toInt = _
  rw [key i hi]
theorem byt_ref {w : Int} {i : Nat} (hi : i < 8) : sland (slshr w (8 * (i : Int))) 255 = (bytS w i : Int) := by
  rw [lshr_at w i hi, sland255, sshr8 _ (by omega)]; rfl
theorem sb2_of {x : Int} {b : Nat} (h : x % 256 = (b : Int)) (hb : b ≤ 127) : sb2 x = (b : Int) := by
  unfold sb2
  rw [Int8.toInt_toInt32, Int32.toInt_toInt8, Int32.toInt_ofInt]
  have e : Int.bmod (Int.bmod x 4294967296) 256 = (b : Int) := by
    unfold Int.bmod
    dsimp only
    repeat' split
    all_goals omega
  exact e
theorem byt_b {w : Int} {i : Nat} (hi : i < 8) (h : bytS w i ≤ 126) : sb2 (slshr w (8 * (i : Int))) = (bytS w i : Int) := by
  refine sb2_of ?_ (by omega)
  rw [lshr_at w i hi, BitVec.toInt_eq_toNat_cond]
  have h1 := sshr8 (BitVec.ofInt 64 w) (n := 8 * i) (by omega)
  have h2 : bytS w i = (BitVec.ofInt 64 w).toNat >>> (8 * i) % 256 := rfl
  rw [h2, ← h1]
  split <;> omega
def PGM (pg : Nat → Int) (len : Nat) (I : sI) : Prop := I 139 23 = (len : Int) ∧ len ≤ 160 ∧ ∀ j, j < len → I 157 j = pg j ∧ 0 ≤ pg j ∧ pg j ≤ 126
section X9q
variable {g : sG} {Ls : Nat} {tl : List Nat} {I L : sI} {pg : Nat → Int} {len : Nat} {w : Int}
theorem x_letters (hP : PGM pg len I) : Mc g 1 m_X8_letters 0 0 [vr 139, vl w] (TT Ls tl) I L (RR tl) (qI fun z T' I' L' R' => T' = TT Ls tl ∧ R' = RR tl ∧ L' = L ∧ (∀ a, a ≠ 139 → a ≠ 157 → I' a = I a) ∧ (∀ k, k ≠ 23 → I' 139 k = I 139 k) ∧ (ltS (bytS w) 8 = none → z = -102 ∧ I' = I) ∧ (∀ q, ltS (bytS w) 8 = some q → (160 < len + q.1 → z = -104 ∧ I' = I) ∧ (len + q.1 ≤ 160 → z = ((len + q.1 : Nat) : Int) ∧ PGM (pgS pg len (bytS w)) (len + q.1) I'))) := by
  refine Mc_of rfl (Nat.le_of_ble_eq_true rfl) ?_
  obtain ⟨h1, h2, h3⟩ := id hP
  obtain ⟨Q, hQ⟩ : ∃ Q : sQ, Q = (qI fun z T' I' L' R' => T' = TT Ls tl ∧ R' = RR tl ∧ L' = L ∧ (∀ a, a ≠ 139 → a ≠ 157 → I' a = I a) ∧ (∀ k, k ≠ 23 → I' 139 k = I 139 k) ∧ (ltS (bytS w) 8 = none → z = -102 ∧ I' = I) ∧ (∀ q, ltS (bytS w) 8 = some q → (160 < len + q.1 → z = -104 ∧ I' = I) ∧ (len + q.1 ≤ 160 → z = ((len + q.1 : Nat) : Int) ∧ PGM (pgS pg len (bytS w)) (len + q.1) I'))) := ⟨_, rfl⟩
  rw [← hQ]
  have t85 : ∀ (q : Nat × Bool), ltS (bytS w) 8 = some q → Cp g 1 m_X8_letters 0 0 Q 85 [(0, vr 139), (1, vl w), (3, vi (q.1 : Int))] [] (TT Ls tl) I L (RR tl) := by
    intro q hq
    obtain ⟨i1, i2, i3⟩ := lt_iv 8 q hq
    obtain ⟨c, hc⟩ : ∃ c, c = q.1 := ⟨_, rfl⟩
    rw [← hc] at i1 i3 ⊢
    by_cases kl : len + c ≤ 160
    · have loop : ∀ (k b : Nat) (I1 : sI), b + k = c → (∀ a, a ≠ 157 → I1 a = I a) → (∀ j, j < len + b → I1 157 j = pgS pg len (bytS w) j) → Cp g 1 m_X8_letters 0 0 Q 103 [(0, vr 139), (1, vl w), (3, vi (c : Int)), (5, vi (b : Int))] [] (TT Ls tl) I1 L (RR tl) := by
        intro k
        induction k with
        | zero =>
          intro b I1 hbk fa hj
          have hb : b = c := by omega
          have e1 : I1 139 23 = (len : Int) := by rw [fa 139 (by decide)]; exact h1
          refine r_iload d_X8_letters_103 rfl ?_
          refine r_iload_n d_X8_letters_105 rfl ?_
          refine r_icmp_ge d_X8_letters_106 (by omega) (by omega) (fun c106 => ?_) (fun c106 => absurd c106 (by omega))
          refine r_aload_n d_X8_letters_136 rfl ?_
          refine r_dup d_X8_letters_137 rfl ?_
          refine r_geti d_X8_letters_138 f_X8_159 (tt_139 _ _) (by decide) (by decide) ?_
          refine r_iload_n d_X8_letters_141 rfl ?_
          refine r_iadd d_X8_letters_142 ?_
          rw [e1]
          refine r_puti d_X8_letters_143 f_X8_159 (tt_139 _ _) (by decide) (Or.inl rfl) ?_
          refine r_aload_n d_X8_letters_146 rfl ?_
          refine r_geti d_X8_letters_147 f_X8_159 (tt_139 _ _) (by decide) (by decide) ?_
          refine r_iret d_X8_letters_150 rfl ?_
          rw [hQ]
          refine ⟨_, rfl, rfl, rfl, rfl, fun a h4 h5 => by rw [up2_ne _ _ h4]; exact fa a h5, fun k hk => by rw [up2_nj _ _ hk, fa 139 (by decide)], fun h => (by rw [hq] at h; cases h), fun p hp => ?_⟩
          have ep := Option.some.inj (hp.symm.trans hq)
          rw [ep, ← hc]
          refine ⟨fun h => absurd h (by omega), fun _ => ⟨by rw [up2_at]; omega, by rw [up2_at]; omega, kl, fun j hj2 => ⟨by rw [up2_ne _ _ (by decide)]; exact hj j (by omega), ?_⟩⟩⟩
          unfold pgS
          split
          · next hlt => exact (h3 j hlt).2
          · have := i3 (j - len) (by omega)
            omega
        | succ k ih =>
          intro b I1 hbk fa hj
          have hb8 : b < 8 := by omega
          have hbb := i3 b (by omega)
          have e1 : I1 139 23 = (len : Int) := by rw [fa 139 (by decide)]; exact h1
          refine r_iload d_X8_letters_103 rfl ?_
          refine r_iload_n d_X8_letters_105 rfl ?_
          refine r_icmp_ge d_X8_letters_106 (by omega) (by omega) (fun c106 => absurd c106 (by omega)) (fun c106 => ?_)
          refine r_aload_n d_X8_letters_109 rfl ?_
          refine r_getr d_X8_letters_110 f_X8_66 (tt_139 _ _) (by decide) rfl (rr_139_24 _) ?_
          refine r_aload_n d_X8_letters_113 rfl ?_
          refine r_geti d_X8_letters_114 f_X8_159 (tt_139 _ _) (by decide) (by decide) ?_
          rw [e1]
          refine r_iload d_X8_letters_117 rfl ?_
          refine r_iadd d_X8_letters_119 ?_
          refine r_lload_n d_X8_letters_120 rfl ?_
          refine r_bipush d_X8_letters_121 (by decide) ?_
          refine r_iload d_X8_letters_123 rfl ?_
          refine r_imul d_X8_letters_125 ?_
          refine r_lshr d_X8_letters_126 ?_
          refine r_l2i d_X8_letters_127 ?_
          refine r_i2b d_X8_letters_128 ?_
          rw [byt_b hb8 hbb.2]
          refine r_bastJ (j := len + b) d_X8_letters_129 (tt_157 _ _) (by omega) (by omega) (by omega) (by omega) (kk := ?_)
          refine r_iinc d_X8_letters_130 rfl (by decide) ?_
          refine r_goto d_X8_letters_133 ?_
          refine CpL (ih (b + 1) _ (by omega) (fun a h5 => by rw [up2_ne _ _ h5]; exact fa a h5) (fun j hj2 => ?_)) (by repeat (first | exact trivial | refine ⟨rfl, ?_⟩))
          by_cases e : j = len + b
          · rw [e, up2_at]
            unfold pgS
            rw [if_neg (by omega), show len + b - len = b by omega]
          · rw [up2_nj _ _ e]; exact hj j (by omega)
      refine r_aload_n d_X8_letters_85 rfl ?_
      refine r_geti d_X8_letters_86 f_X8_159 (tt_139 _ _) (by decide) (by decide) ?_
      rw [h1]
      refine r_iload_n d_X8_letters_89 rfl ?_
      refine r_iadd d_X8_letters_90 ?_
      refine r_sipush d_X8_letters_91 (by decide) ?_
      refine r_icmp_le d_X8_letters_94 (by omega) (by omega) (fun c94 => ?_) (fun c94 => absurd c94 (by omega))
      refine r_iconst d_X8_letters_100 ?_
      refine r_istore d_X8_letters_101 (by decide) ?_
      refine CpL (loop c 0 I (by omega) (fun _ _ => rfl) (fun j hj => ?_)) (by repeat (first | exact trivial | refine ⟨rfl, ?_⟩))
      unfold pgS
      rw [if_pos (by omega)]; exact (h3 j (by omega)).1
    · skip
      refine r_aload_n d_X8_letters_85 rfl ?_
      refine r_geti d_X8_letters_86 f_X8_159 (tt_139 _ _) (by decide) (by decide) ?_
      rw [h1]
      refine r_iload_n d_X8_letters_89 rfl ?_
      refine r_iadd d_X8_letters_90 ?_
      refine r_sipush d_X8_letters_91 (by decide) ?_
      refine r_icmp_le d_X8_letters_94 (by omega) (by omega) (fun c94 => absurd c94 (by omega)) (fun c94 => ?_)
      refine r_bipush d_X8_letters_97 (by decide) ?_
      refine r_iret d_X8_letters_99 rfl ?_
      rw [hQ]
      refine ⟨_, rfl, rfl, rfl, rfl, fun _ _ _ => rfl, fun _ _ => rfl, fun h => (by rw [hq] at h; cases h), fun p hp => ?_⟩
      have ep := Option.some.inj (hp.symm.trans hq)
      rw [ep, ← hc]
      exact ⟨fun _ => ⟨rfl, rfl⟩, fun h => absurd h kl⟩
  have loop : ∀ (k b : Nat) (q : Nat × Bool), b + k = 8 → ltS (bytS w) b = some q → Cp g 1 m_X8_letters 0 0 Q 8 [(0, vr 139), (1, vl w), (3, vi (q.1 : Int)), (4, vi (if q.2 = true then 1 else 0)), (5, vi (b : Int))] [] (TT Ls tl) I L (RR tl) := by
    intro k
    induction k with
    | zero =>
      intro b q hbk hq
      have hb : b = 8 := by omega
      rw [hb] at hq
      refine r_iload d_X8_letters_8 rfl ?_
      refine r_bipush d_X8_letters_10 (by decide) ?_
      refine r_icmp_ge d_X8_letters_12 (by omega) (by omega) (fun c12 => ?_) (fun c12 => absurd c12 (by omega))
      exact CpL (t85 q hq) (by repeat (first | exact trivial | refine ⟨rfl, ?_⟩))
    | succ k ih =>
      intro b q hbk hq
      have hb8 : b < 8 := by omega
      have hlt := byt_lt (w := w) (i := b)
      have hsu := lt_suc hq
      have stop : ltS (bytS w) (b + 1) = none → Q (some (vi (-102))) (TT Ls tl) I L (RR tl) := fun h => by
        have e8 := lt_none h 8 (by omega)
        rw [hQ]
        exact ⟨_, rfl, rfl, rfl, rfl, fun _ _ _ => rfl, fun _ _ => rfl, fun _ => ⟨rfl, rfl⟩, fun p hp => (by rw [e8] at hp; cases hp)⟩
      have hql := (lt_iv b q hq).1
      cases hq2 : q.2 with
      | true =>
        rw [if_pos rfl]
        by_cases k1 : bytS w b = 0
        · rw [if_pos k1] at hsu
          refine r_iload d_X8_letters_8 rfl ?_
          refine r_bipush d_X8_letters_10 (by decide) ?_
          refine r_icmp_ge d_X8_letters_12 (by omega) (by omega) (fun c12 => absurd c12 (by omega)) (fun c12 => ?_)
          refine r_lload_n d_X8_letters_15 rfl ?_
          refine r_bipush d_X8_letters_16 (by decide) ?_
          refine r_iload d_X8_letters_18 rfl ?_
          refine r_imul d_X8_letters_20 ?_
          refine r_lshr d_X8_letters_21 ?_
          refine r_ldc2 d_X8_letters_22 (k_X8_157 _ rfl) ?_
          refine r_land d_X8_letters_25 ?_
          refine r_l2i d_X8_letters_26 ?_
          rw [byt_ref hb8, k1]
          refine r_istore d_X8_letters_27 (by decide) ?_
          refine r_iload d_X8_letters_29 rfl ?_
          refine r_bipush d_X8_letters_31 (by decide) ?_
          refine r_icmp_gt d_X8_letters_33 (by omega) (by omega) (fun c33 => absurd c33 (by decide)) (fun c33 => ?_)
          refine r_iload d_X8_letters_36 rfl ?_
          refine r_if_eq d_X8_letters_38 (by omega) (fun c38 => absurd c38 (by decide)) (fun c38 => ?_)
          refine r_iload d_X8_letters_41 rfl ?_
          refine r_if_eq d_X8_letters_43 (by omega) (fun c43 => ?_) (fun c43 => absurd c43 (by decide))
          refine r_iload d_X8_letters_49 rfl ?_
          refine r_if_ne d_X8_letters_51 (by omega) (fun c51 => ?_) (fun c51 => absurd c51 (by decide))
          refine r_iconst d_X8_letters_59 ?_
          refine r_goto d_X8_letters_60 ?_
          refine r_istore d_X8_letters_64 (by decide) ?_
          refine r_iload_n d_X8_letters_66 rfl ?_
          refine r_iload d_X8_letters_67 rfl ?_
          refine r_if_ne d_X8_letters_69 (by omega) (fun c69 => absurd c69 (by decide)) (fun c69 => ?_)
          refine r_iconst d_X8_letters_72 ?_
          refine r_goto d_X8_letters_73 ?_
          refine r_iadd d_X8_letters_77 ?_
          refine r_istore_n d_X8_letters_78 (by decide) ?_
          refine r_iinc d_X8_letters_79 rfl (by decide) ?_
          refine r_goto d_X8_letters_82 ?_
          exact CpL (ih (b + 1) (q.1, true) (by omega) hsu) (by repeat (first | exact trivial | refine ⟨rfl, ?_⟩ | refine ⟨by rw [Int.add_zero]; rfl, ?_⟩))
        · rw [if_neg k1, if_pos (Or.inl hq2)] at hsu
          by_cases k2 : 126 < bytS w b
          · skip
            refine r_iload d_X8_letters_8 rfl ?_
            refine r_bipush d_X8_letters_10 (by decide) ?_
            refine r_icmp_ge d_X8_letters_12 (by omega) (by omega) (fun c12 => absurd c12 (by omega)) (fun c12 => ?_)
            refine r_lload_n d_X8_letters_15 rfl ?_
            refine r_bipush d_X8_letters_16 (by decide) ?_
            refine r_iload d_X8_letters_18 rfl ?_
            refine r_imul d_X8_letters_20 ?_
            refine r_lshr d_X8_letters_21 ?_
            refine r_ldc2 d_X8_letters_22 (k_X8_157 _ rfl) ?_
            refine r_land d_X8_letters_25 ?_
            refine r_l2i d_X8_letters_26 ?_
            rw [byt_ref hb8]
            refine r_istore d_X8_letters_27 (by decide) ?_
            refine r_iload d_X8_letters_29 rfl ?_
            refine r_bipush d_X8_letters_31 (by decide) ?_
            refine r_icmp_gt d_X8_letters_33 (by omega) (by omega) (fun c33 => ?_) (fun c33 => absurd c33 (by omega))
            refine r_bipush d_X8_letters_46 (by decide) ?_
            refine r_iret d_X8_letters_48 rfl ?_
            exact stop hsu
          · skip
            refine r_iload d_X8_letters_8 rfl ?_
            refine r_bipush d_X8_letters_10 (by decide) ?_
            refine r_icmp_ge d_X8_letters_12 (by omega) (by omega) (fun c12 => absurd c12 (by omega)) (fun c12 => ?_)
            refine r_lload_n d_X8_letters_15 rfl ?_
            refine r_bipush d_X8_letters_16 (by decide) ?_
            refine r_iload d_X8_letters_18 rfl ?_
            refine r_imul d_X8_letters_20 ?_
            refine r_lshr d_X8_letters_21 ?_
            refine r_ldc2 d_X8_letters_22 (k_X8_157 _ rfl) ?_
            refine r_land d_X8_letters_25 ?_
            refine r_l2i d_X8_letters_26 ?_
            rw [byt_ref hb8]
            refine r_istore d_X8_letters_27 (by decide) ?_
            refine r_iload d_X8_letters_29 rfl ?_
            refine r_bipush d_X8_letters_31 (by decide) ?_
            refine r_icmp_gt d_X8_letters_33 (by omega) (by omega) (fun c33 => absurd c33 (by omega)) (fun c33 => ?_)
            refine r_iload d_X8_letters_36 rfl ?_
            refine r_if_eq d_X8_letters_38 (by omega) (fun c38 => absurd c38 (by decide)) (fun c38 => ?_)
            refine r_iload d_X8_letters_41 rfl ?_
            refine r_if_eq d_X8_letters_43 (by omega) (fun c43 => absurd c43 (by omega)) (fun c43 => ?_)
            refine r_bipush d_X8_letters_46 (by decide) ?_
            refine r_iret d_X8_letters_48 rfl ?_
            exact stop hsu
      | false =>
        rw [hq2] at hsu
        rw [if_neg (by decide)]
        by_cases k1 : bytS w b = 0
        · rw [if_pos k1] at hsu
          refine r_iload d_X8_letters_8 rfl ?_
          refine r_bipush d_X8_letters_10 (by decide) ?_
          refine r_icmp_ge d_X8_letters_12 (by omega) (by omega) (fun c12 => absurd c12 (by omega)) (fun c12 => ?_)
          refine r_lload_n d_X8_letters_15 rfl ?_
          refine r_bipush d_X8_letters_16 (by decide) ?_
          refine r_iload d_X8_letters_18 rfl ?_
          refine r_imul d_X8_letters_20 ?_
          refine r_lshr d_X8_letters_21 ?_
          refine r_ldc2 d_X8_letters_22 (k_X8_157 _ rfl) ?_
          refine r_land d_X8_letters_25 ?_
          refine r_l2i d_X8_letters_26 ?_
          rw [byt_ref hb8, k1]
          refine r_istore d_X8_letters_27 (by decide) ?_
          refine r_iload d_X8_letters_29 rfl ?_
          refine r_bipush d_X8_letters_31 (by decide) ?_
          refine r_icmp_gt d_X8_letters_33 (by omega) (by omega) (fun c33 => absurd c33 (by decide)) (fun c33 => ?_)
          refine r_iload d_X8_letters_36 rfl ?_
          refine r_if_eq d_X8_letters_38 (by omega) (fun c38 => ?_) (fun c38 => absurd c38 (by decide))
          refine r_iload d_X8_letters_49 rfl ?_
          refine r_if_ne d_X8_letters_51 (by omega) (fun c51 => absurd c51 (by decide)) (fun c51 => ?_)
          refine r_iload d_X8_letters_54 rfl ?_
          refine r_if_ne d_X8_letters_56 (by omega) (fun c56 => absurd c56 (by decide)) (fun c56 => ?_)
          refine r_iconst d_X8_letters_59 ?_
          refine r_goto d_X8_letters_60 ?_
          refine r_istore d_X8_letters_64 (by decide) ?_
          refine r_iload_n d_X8_letters_66 rfl ?_
          refine r_iload d_X8_letters_67 rfl ?_
          refine r_if_ne d_X8_letters_69 (by omega) (fun c69 => absurd c69 (by decide)) (fun c69 => ?_)
          refine r_iconst d_X8_letters_72 ?_
          refine r_goto d_X8_letters_73 ?_
          refine r_iadd d_X8_letters_77 ?_
          refine r_istore_n d_X8_letters_78 (by decide) ?_
          refine r_iinc d_X8_letters_79 rfl (by decide) ?_
          refine r_goto d_X8_letters_82 ?_
          exact CpL (ih (b + 1) (q.1, true) (by omega) hsu) (by repeat (first | exact trivial | refine ⟨rfl, ?_⟩ | refine ⟨by rw [Int.add_zero]; rfl, ?_⟩))
        · rw [if_neg k1] at hsu
          by_cases k2 : 126 < bytS w b
          · rw [if_pos (Or.inr k2)] at hsu
            refine r_iload d_X8_letters_8 rfl ?_
            refine r_bipush d_X8_letters_10 (by decide) ?_
            refine r_icmp_ge d_X8_letters_12 (by omega) (by omega) (fun c12 => absurd c12 (by omega)) (fun c12 => ?_)
            refine r_lload_n d_X8_letters_15 rfl ?_
            refine r_bipush d_X8_letters_16 (by decide) ?_
            refine r_iload d_X8_letters_18 rfl ?_
            refine r_imul d_X8_letters_20 ?_
            refine r_lshr d_X8_letters_21 ?_
            refine r_ldc2 d_X8_letters_22 (k_X8_157 _ rfl) ?_
            refine r_land d_X8_letters_25 ?_
            refine r_l2i d_X8_letters_26 ?_
            rw [byt_ref hb8]
            refine r_istore d_X8_letters_27 (by decide) ?_
            refine r_iload d_X8_letters_29 rfl ?_
            refine r_bipush d_X8_letters_31 (by decide) ?_
            refine r_icmp_gt d_X8_letters_33 (by omega) (by omega) (fun c33 => ?_) (fun c33 => absurd c33 (by omega))
            refine r_bipush d_X8_letters_46 (by decide) ?_
            refine r_iret d_X8_letters_48 rfl ?_
            exact stop hsu
          · have nk : ¬ (false = true ∨ 126 < bytS w b) := by simp; omega
            rw [if_neg nk] at hsu
            refine r_iload d_X8_letters_8 rfl ?_
            refine r_bipush d_X8_letters_10 (by decide) ?_
            refine r_icmp_ge d_X8_letters_12 (by omega) (by omega) (fun c12 => absurd c12 (by omega)) (fun c12 => ?_)
            refine r_lload_n d_X8_letters_15 rfl ?_
            refine r_bipush d_X8_letters_16 (by decide) ?_
            refine r_iload d_X8_letters_18 rfl ?_
            refine r_imul d_X8_letters_20 ?_
            refine r_lshr d_X8_letters_21 ?_
            refine r_ldc2 d_X8_letters_22 (k_X8_157 _ rfl) ?_
            refine r_land d_X8_letters_25 ?_
            refine r_l2i d_X8_letters_26 ?_
            rw [byt_ref hb8]
            refine r_istore d_X8_letters_27 (by decide) ?_
            refine r_iload d_X8_letters_29 rfl ?_
            refine r_bipush d_X8_letters_31 (by decide) ?_
            refine r_icmp_gt d_X8_letters_33 (by omega) (by omega) (fun c33 => absurd c33 (by omega)) (fun c33 => ?_)
            refine r_iload d_X8_letters_36 rfl ?_
            refine r_if_eq d_X8_letters_38 (by omega) (fun c38 => ?_) (fun c38 => absurd c38 (by decide))
            refine r_iload d_X8_letters_49 rfl ?_
            refine r_if_ne d_X8_letters_51 (by omega) (fun c51 => absurd c51 (by decide)) (fun c51 => ?_)
            refine r_iload d_X8_letters_54 rfl ?_
            refine r_if_ne d_X8_letters_56 (by omega) (fun c56 => ?_) (fun c56 => absurd c56 (by omega))
            refine r_iconst d_X8_letters_63 ?_
            refine r_istore d_X8_letters_64 (by decide) ?_
            refine r_iload_n d_X8_letters_66 rfl ?_
            refine r_iload d_X8_letters_67 rfl ?_
            refine r_if_ne d_X8_letters_69 (by omega) (fun c69 => ?_) (fun c69 => absurd c69 (by omega))
            refine r_iconst d_X8_letters_76 ?_
            refine r_iadd d_X8_letters_77 ?_
            refine r_istore_n d_X8_letters_78 (by decide) ?_
            refine r_iinc d_X8_letters_79 rfl (by decide) ?_
            refine r_goto d_X8_letters_82 ?_
            exact CpL (ih (b + 1) (q.1 + 1, false) (by omega) hsu) (by repeat (first | exact trivial | refine ⟨rfl, ?_⟩))
  refine r_iconst d_X8_letters_0 ?_
  refine r_istore_n d_X8_letters_1 (by decide) ?_
  refine r_iconst d_X8_letters_2 ?_
  refine r_istore d_X8_letters_3 (by decide) ?_
  refine r_iconst d_X8_letters_5 ?_
  refine r_istore d_X8_letters_6 (by decide) ?_
  exact CpL (loop 8 0 (0, false) (by omega) rfl) (by repeat (first | exact trivial | refine ⟨rfl, ?_⟩))
end X9q
