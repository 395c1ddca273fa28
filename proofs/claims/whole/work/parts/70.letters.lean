/-- the i-th byte of a long -/
def bytS (w : Int) (i : Nat) : Nat := ((BitVec.ofInt 64 w).toNat >>> (8 * i)) % 256
theorem sand255 (x : BitVec 64) : sand x.toInt 255 = ((x.toNat % 256 : Nat) : Int) := by
  unfold sand
  refine toInt_of_nat ?_ (by omega)
  show (_ &&& _ : BitVec 32).toNat = _
  rw [BitVec.toNat_and]
  have e1 : (Int32.ofInt 255).toBitVec.toNat = 2 ^ 8 - 1 := by decide
  have e2 : (Int32.ofInt x.toInt).toBitVec.toNat = x.toNat % 4294967296 := by
    show (BitVec.ofInt 32 x.toInt).toNat = _
    rw [BitVec.toNat_ofInt, BitVec.toInt_eq_toNat_cond]
    have := x.isLt
    split <;> omega
  rw [e1, e2, Nat.and_two_pow_sub_one_eq_mod]
  omega
theorem sland255 (x : BitVec 64) : sland x.toInt 255 = ((x.toNat % 256 : Nat) : Int) := by
  unfold sland
  have e2 : Int64.ofInt x.toInt = Int64.ofBitVec x := by
    apply Int64.toBitVec_inj.mp
    show BitVec.ofInt 64 x.toInt = x
    exact BitVec.ofInt_toInt
  rw [e2]
  show (x &&& (Int64.ofInt 255).toBitVec : BitVec 64).toInt = _
  have e1 : (Int64.ofInt 255).toBitVec.toNat = 2 ^ 8 - 1 := by decide
  have e3 : (x &&& (Int64.ofInt 255).toBitVec).toNat = x.toNat % 256 := by
    rw [BitVec.toNat_and, e1, Nat.and_two_pow_sub_one_eq_mod]
  rw [BitVec.toInt_eq_toNat_of_lt (by rw [e3]; omega), e3]
theorem lushr_at (w : Int) : ∀ i : Nat, i < 8 → slushr w (8 * (i : Int)) = ((BitVec.ofInt 64 w) >>> (8 * i)).toInt := by
  intro i hi
  have key : ∀ i : Nat, i < 8 → ((Int32.ofInt (8 * (i : Int))).toInt64.toUInt64 &&& Int64.toUInt64 63).toBitVec.toNat % 64 = 8 * i := by decide
  unfold slushr
  show ((BitVec.ofInt 64 w) >>> (((Int32.ofInt (8 * (i : Int))).toInt64.toUInt64 &&& Int64.toUInt64 63).toBitVec % 64#64)).toInt = _
  have e : ∀ y : BitVec 64, (BitVec.ofInt 64 w) >>> y = (BitVec.ofInt 64 w) >>> y.toNat := fun y => rfl
  rw [e, BitVec.toNat_umod]
  have : (64#64).toNat = 64 := rfl
  rw [this, key i hi]
theorem byt_and {w : Int} {i : Nat} (hi : i < 8) : sand (slushr w (8 * (i : Int))) 255 = (bytS w i : Int) := by
  rw [lushr_at w i hi, sand255, BitVec.toNat_ushiftRight]; rfl
theorem byt_land {w : Int} {i : Nat} (hi : i < 8) : sland (slushr w (8 * (i : Int))) 255 = (bytS w i : Int) := by
  rw [lushr_at w i hi, sland255, BitVec.toNat_ushiftRight]; rfl
theorem byt_lt {w : Int} {i : Nat} : bytS w i < 256 := Nat.mod_lt _ (by decide)
theorem sc2_at : ∀ v : Nat, v < 256 → sc2 (v : Int) = (v : Int) := by decide +kernel
/-- how many letters there are in the first n bytes, and whether they have ended -/
def ltS (f : Nat → Nat) : Nat → Option (Nat × Bool)
  | 0 => some (0, false)
  | n + 1 => match ltS f n with
    | none => none
    | some q => if f n = 0 then some (q.1, true) else if q.2 = true ∨ 126 < f n then none else some (q.1 + 1, q.2)
theorem lt_suc {f : Nat → Nat} {n : Nat} {q : Nat × Bool} (h : ltS f n = some q) : ltS f (n + 1) = (if f n = 0 then some (q.1, true) else if q.2 = true ∨ 126 < f n then none else some (q.1 + 1, q.2)) := by
  show (match ltS f n with
    | none => none
    | some q => if f n = 0 then some (q.1, true) else if q.2 = true ∨ 126 < f n then none else some (q.1 + 1, q.2)) = _
  rw [h]
theorem lt_none {f : Nat → Nat} {n : Nat} (h : ltS f n = none) : ∀ m, n ≤ m → ltS f m = none
  | 0, hm => by rw [show n = 0 by omega] at h; exact h
  | m + 1, hm => by
    by_cases e : n = m + 1
    · rw [← e]; exact h
    · show (match ltS f m with
        | none => none
        | some q => if f m = 0 then some (q.1, true) else if q.2 = true ∨ 126 < f m then none else some (q.1 + 1, q.2)) = _
      rw [lt_none h m (by omega)]
theorem lt_iv {f : Nat → Nat} : ∀ (n : Nat) (q : Nat × Bool), ltS f n = some q → q.1 ≤ n ∧ (q.2 = false → q.1 = n) ∧ ∀ i, i < q.1 → 1 ≤ f i ∧ f i ≤ 126
  | 0, q, h => by
    have := Option.some.inj h
    subst this
    exact ⟨Nat.le_refl _, fun _ => rfl, fun i hi => absurd hi (Nat.not_lt_zero i)⟩
  | n + 1, q, h => by
    cases hr : ltS f n with
    | none => rw [lt_none hr (n + 1) (by omega)] at h; cases h
    | some p =>
      obtain ⟨i1, i2, i3⟩ := lt_iv n p hr
      rw [lt_suc hr] at h
      split at h
      · have := Option.some.inj h
        subst this
        exact ⟨by show p.1 ≤ n + 1; omega, fun h => (by cases h), i3⟩
      · split at h
        · cases h
        · next h0 h1 =>
          have := Option.some.inj h
          subst this
          have e2 : p.2 = false := by
            cases hp : p.2 with
            | false => rfl
            | true => exact absurd (Or.inl hp) h1
          refine ⟨by show p.1 + 1 ≤ n + 1; omega, fun _ => by show p.1 + 1 = n + 1; rw [i2 e2], fun i hi => ?_⟩
          have hi2 : i < p.1 + 1 := hi
          have e3 := i2 e2
          by_cases ei : i = n
          · rw [ei]; omega
          · exact i3 i (by omega)
def ltA (f : Nat → Nat) : Int := match ltS f 8 with
  | none => -1
  | some q => (q.1 : Int)
section C70
variable {g : sG} {Ls : Nat} {tl : List Nat} {I L : sI} {T : sT} {R : sR} {pg : Nat → Int} {len : Nat} {w : Int}
theorem c_lettersIn : Mc g 0 m_X5_lettersIn 0 0 [vl w] T I L R (qI fun z T' I' L' R' => z = ltA (bytS w) ∧ same T I L R T' I' L' R') := by
  refine Mc_of rfl (Nat.le_of_ble_eq_true rfl) ?_
  have loop : ∀ (k b : Nat) (q : Nat × Bool), b + k = 8 → ltS (bytS w) b = some q → Cp g 0 m_X5_lettersIn 0 0 (qI fun z T' I' L' R' => z = ltA (bytS w) ∧ same T I L R T' I' L' R') 7 [(0, vl w), (2, vi (q.1 : Int)), (3, vi (if q.2 = true then 1 else 0)), (4, vi (b : Int))] [] T I L R := by
    intro k
    induction k with
    | zero =>
      intro b q hbk hq
      have hb : b = 8 := by omega
      refine r_iload d_X5_lettersIn_7 rfl ?_
      refine r_bipush d_X5_lettersIn_9 (by decide) ?_
      refine r_icmp_ge d_X5_lettersIn_11 (by omega) (by omega) (fun c11 => ?_) (fun c11 => absurd c11 (by omega))
      refine r_iload_n d_X5_lettersIn_60 rfl ?_
      refine r_iret d_X5_lettersIn_61 rfl ?_
      refine ⟨_, rfl, ?_, same_rf⟩
      unfold ltA
      rw [← hb, hq]
    | succ k ih =>
      intro b q hbk hq
      have hb8 : b < 8 := by omega
      have hlt := byt_lt (w := w) (i := b)
      have hsu := lt_suc hq
      have stop : ltS (bytS w) (b + 1) = none → (qI fun z T' I' L' R' => z = ltA (bytS w) ∧ same T I L R T' I' L' R') (some (vi (-1))) T I L R := fun h => by
        refine ⟨_, rfl, ?_, same_rf⟩
        unfold ltA
        rw [lt_none h 8 (by omega)]
      have hql := (lt_iv b q hq).1
      by_cases k1 : bytS w b = 0
      · rw [if_pos k1] at hsu
        refine r_iload d_X5_lettersIn_7 rfl ?_
        refine r_bipush d_X5_lettersIn_9 (by decide) ?_
        refine r_icmp_ge d_X5_lettersIn_11 (by omega) (by omega) (fun c11 => absurd c11 (by omega)) (fun c11 => ?_)
        refine r_lload_n d_X5_lettersIn_14 rfl ?_
        refine r_bipush d_X5_lettersIn_15 (by decide) ?_
        refine r_iload d_X5_lettersIn_17 rfl ?_
        refine r_imul d_X5_lettersIn_19 ?_
        refine r_lushr d_X5_lettersIn_20 ?_
        refine r_l2i d_X5_lettersIn_21 ?_
        refine r_sipush d_X5_lettersIn_22 (by decide) ?_
        refine r_iand d_X5_lettersIn_25 ?_
        rw [byt_and hb8, k1]
        refine r_istore d_X5_lettersIn_26 (by decide) ?_
        refine r_iload d_X5_lettersIn_28 rfl ?_
        refine r_if_ne d_X5_lettersIn_30 (by omega) (fun c30 => absurd c30 (by decide)) (fun c30 => ?_)
        refine r_iconst d_X5_lettersIn_33 ?_
        refine r_istore_n d_X5_lettersIn_34 (by decide) ?_
        refine r_goto d_X5_lettersIn_35 ?_
        refine r_iinc d_X5_lettersIn_54 rfl (by decide) ?_
        refine r_goto d_X5_lettersIn_57 ?_
        exact CpL (ih (b + 1) (q.1, true) (by omega) hsu) (by repeat (first | exact trivial | refine ⟨rfl, ?_⟩))
      · rw [if_neg k1] at hsu
        cases hq2 : q.2 with
        | true =>
          rw [if_pos (Or.inl hq2)] at hsu
          rw [if_pos rfl]
          refine r_iload d_X5_lettersIn_7 rfl ?_
          refine r_bipush d_X5_lettersIn_9 (by decide) ?_
          refine r_icmp_ge d_X5_lettersIn_11 (by omega) (by omega) (fun c11 => absurd c11 (by omega)) (fun c11 => ?_)
          refine r_lload_n d_X5_lettersIn_14 rfl ?_
          refine r_bipush d_X5_lettersIn_15 (by decide) ?_
          refine r_iload d_X5_lettersIn_17 rfl ?_
          refine r_imul d_X5_lettersIn_19 ?_
          refine r_lushr d_X5_lettersIn_20 ?_
          refine r_l2i d_X5_lettersIn_21 ?_
          refine r_sipush d_X5_lettersIn_22 (by decide) ?_
          refine r_iand d_X5_lettersIn_25 ?_
          rw [byt_and hb8]
          refine r_istore d_X5_lettersIn_26 (by decide) ?_
          refine r_iload d_X5_lettersIn_28 rfl ?_
          refine r_if_ne d_X5_lettersIn_30 (by omega) (fun c30 => ?_) (fun c30 => absurd c30 (by omega))
          refine r_iload_n d_X5_lettersIn_38 rfl ?_
          refine r_if_ne d_X5_lettersIn_39 (by omega) (fun c39 => ?_) (fun c39 => absurd c39 (by decide))
          refine r_iconst d_X5_lettersIn_49 ?_
          refine r_iret d_X5_lettersIn_50 rfl ?_
          exact stop hsu
        | false =>
          rw [hq2] at hsu
          rw [if_neg (by decide)]
          by_cases k2 : 126 < bytS w b
          · rw [if_pos (Or.inr k2)] at hsu
            refine r_iload d_X5_lettersIn_7 rfl ?_
            refine r_bipush d_X5_lettersIn_9 (by decide) ?_
            refine r_icmp_ge d_X5_lettersIn_11 (by omega) (by omega) (fun c11 => absurd c11 (by omega)) (fun c11 => ?_)
            refine r_lload_n d_X5_lettersIn_14 rfl ?_
            refine r_bipush d_X5_lettersIn_15 (by decide) ?_
            refine r_iload d_X5_lettersIn_17 rfl ?_
            refine r_imul d_X5_lettersIn_19 ?_
            refine r_lushr d_X5_lettersIn_20 ?_
            refine r_l2i d_X5_lettersIn_21 ?_
            refine r_sipush d_X5_lettersIn_22 (by decide) ?_
            refine r_iand d_X5_lettersIn_25 ?_
            rw [byt_and hb8]
            refine r_istore d_X5_lettersIn_26 (by decide) ?_
            refine r_iload d_X5_lettersIn_28 rfl ?_
            refine r_if_ne d_X5_lettersIn_30 (by omega) (fun c30 => ?_) (fun c30 => absurd c30 (by omega))
            refine r_iload_n d_X5_lettersIn_38 rfl ?_
            refine r_if_ne d_X5_lettersIn_39 (by omega) (fun c39 => absurd c39 (by decide)) (fun c39 => ?_)
            refine r_iload d_X5_lettersIn_42 rfl ?_
            refine r_bipush d_X5_lettersIn_44 (by decide) ?_
            refine r_icmp_le d_X5_lettersIn_46 (by omega) (by omega) (fun c46 => absurd c46 (by omega)) (fun c46 => ?_)
            refine r_iconst d_X5_lettersIn_49 ?_
            refine r_iret d_X5_lettersIn_50 rfl ?_
            exact stop hsu
          · have nk : ¬ (false = true ∨ 126 < bytS w b) := by simp; omega
            rw [if_neg nk] at hsu
            refine r_iload d_X5_lettersIn_7 rfl ?_
            refine r_bipush d_X5_lettersIn_9 (by decide) ?_
            refine r_icmp_ge d_X5_lettersIn_11 (by omega) (by omega) (fun c11 => absurd c11 (by omega)) (fun c11 => ?_)
            refine r_lload_n d_X5_lettersIn_14 rfl ?_
            refine r_bipush d_X5_lettersIn_15 (by decide) ?_
            refine r_iload d_X5_lettersIn_17 rfl ?_
            refine r_imul d_X5_lettersIn_19 ?_
            refine r_lushr d_X5_lettersIn_20 ?_
            refine r_l2i d_X5_lettersIn_21 ?_
            refine r_sipush d_X5_lettersIn_22 (by decide) ?_
            refine r_iand d_X5_lettersIn_25 ?_
            rw [byt_and hb8]
            refine r_istore d_X5_lettersIn_26 (by decide) ?_
            refine r_iload d_X5_lettersIn_28 rfl ?_
            refine r_if_ne d_X5_lettersIn_30 (by omega) (fun c30 => ?_) (fun c30 => absurd c30 (by omega))
            refine r_iload_n d_X5_lettersIn_38 rfl ?_
            refine r_if_ne d_X5_lettersIn_39 (by omega) (fun c39 => absurd c39 (by decide)) (fun c39 => ?_)
            refine r_iload d_X5_lettersIn_42 rfl ?_
            refine r_bipush d_X5_lettersIn_44 (by decide) ?_
            refine r_icmp_le d_X5_lettersIn_46 (by omega) (by omega) (fun c46 => ?_) (fun c46 => absurd c46 (by omega))
            refine r_iinc d_X5_lettersIn_51 rfl (by decide) ?_
            refine r_iinc d_X5_lettersIn_54 rfl (by decide) ?_
            refine r_goto d_X5_lettersIn_57 ?_
            exact CpL (ih (b + 1) (q.1 + 1, false) (by omega) hsu) (by repeat (first | exact trivial | refine ⟨rfl, ?_⟩))
  refine r_iconst d_X5_lettersIn_0 ?_
  refine r_istore_n d_X5_lettersIn_1 (by decide) ?_
  refine r_iconst d_X5_lettersIn_2 ?_
  refine r_istore_n d_X5_lettersIn_3 (by decide) ?_
  refine r_iconst d_X5_lettersIn_4 ?_
  refine r_istore d_X5_lettersIn_5 (by decide) ?_
  exact CpL (loop 8 0 (0, false) (by omega) rfl) (by repeat (first | exact trivial | refine ⟨rfl, ?_⟩))
def pgS (pg : Nat → Int) (len : Nat) (f : Nat → Nat) : Nat → Int := fun j => if j < len then pg j else (f (j - len) : Int)
theorem c_append (hP : PGL pg len I) {c : Nat} (hc : c ≤ 8) (hl : len + c ≤ 160) (hf : ∀ i, i < c → 1 ≤ bytS w i ∧ bytS w i ≤ 126) : Mc g 0 m_X5_append 0 0 [vr 4, vl w, vi (c : Int)] (TT Ls tl) I L (RR tl) (qV fun T' I' L' R' => T' = TT Ls tl ∧ R' = RR tl ∧ L' = L ∧ (∀ a, a ≠ 4 → a ≠ 5 → I' a = I a) ∧ (∀ k, k ≠ 1 → I' 4 k = I 4 k) ∧ PGL (pgS pg len (bytS w)) (len + c) I') := by
  refine Mc_of rfl (Nat.le_of_ble_eq_true rfl) ?_
  obtain ⟨h1, h2, h3⟩ := hP
  obtain ⟨Q, hQ⟩ : ∃ Q : sQ, Q = (qV fun T' I' L' R' => T' = TT Ls tl ∧ R' = RR tl ∧ L' = L ∧ (∀ a, a ≠ 4 → a ≠ 5 → I' a = I a) ∧ (∀ k, k ≠ 1 → I' 4 k = I 4 k) ∧ PGL (pgS pg len (bytS w)) (len + c) I') := ⟨_, rfl⟩
  rw [← hQ]
  have loop : ∀ (k b : Nat) (I1 : sI), b + k = c → (∀ a, a ≠ 4 → a ≠ 5 → I1 a = I a) → (∀ k, k ≠ 1 → I1 4 k = I 4 k) → I1 4 1 = ((len + b : Nat) : Int) → (∀ j, j < len + b → I1 5 j = pgS pg len (bytS w) j) → Cp g 0 m_X5_append 0 0 Q 3 [(0, vr 4), (1, vl w), (3, vi (c : Int)), (4, vi (b : Int))] [] (TT Ls tl) I1 L (RR tl) := by
    intro k
    induction k with
    | zero =>
      intro b I1 hbk fa fk e1 hj
      have hb : b = c := by omega
      refine r_iload d_X5_append_3 rfl ?_
      refine r_iload_n d_X5_append_5 rfl ?_
      refine r_icmp_ge d_X5_append_6 (by omega) (by omega) (fun c6 => ?_) (fun c6 => absurd c6 (by omega))
      refine r_vret d_X5_append_57 rfl ?_
      rw [hQ]
      refine ⟨rfl, rfl, rfl, rfl, fa, fk, by rw [e1, hb], hl, fun j hj2 => ⟨hj j (by omega), ?_⟩⟩
      unfold pgS
      split
      · next hlt => exact (h3 j hlt).2
      · have := hf (j - len) (by omega)
        omega
    | succ k ih =>
      intro b I1 hbk fa fk e1 hj
      have hb8 : b < 8 := by omega
      have hlt := byt_lt (w := w) (i := b)
      have e1b : ∀ x : Int, up2 I1 5 (len + b) x 4 1 = ((len + b : Nat) : Int) := fun x => by rw [up2_ne _ _ (by decide)]; exact e1
      refine r_iload d_X5_append_3 rfl ?_
      refine r_iload_n d_X5_append_5 rfl ?_
      refine r_icmp_ge d_X5_append_6 (by omega) (by omega) (fun c6 => absurd c6 (by omega)) (fun c6 => ?_)
      refine r_aload_n d_X5_append_9 rfl ?_
      refine r_geti d_X5_append_10 f_X5_22 (tt_4 _ _) (by decide) (by decide) ?_
      refine r_sipush d_X5_append_13 (by decide) ?_
      rw [e1]
      refine r_icmp_ge d_X5_append_16 (by omega) (by omega) (fun c16 => absurd c16 (by omega)) (fun c16 => ?_)
      refine r_aload_n d_X5_append_19 rfl ?_
      refine r_getr d_X5_append_20 f_X5_9 (tt_4 _ _) (by decide) rfl (rr_4_0 _) ?_
      refine r_aload_n d_X5_append_23 rfl ?_
      refine r_geti d_X5_append_24 f_X5_22 (tt_4 _ _) (by decide) (by decide) ?_
      rw [e1]
      refine r_lload_n d_X5_append_27 rfl ?_
      refine r_bipush d_X5_append_28 (by decide) ?_
      refine r_iload d_X5_append_30 rfl ?_
      refine r_imul d_X5_append_32 ?_
      refine r_lushr d_X5_append_33 ?_
      refine r_ldc2 d_X5_append_34 (k_X5_26 _ rfl) ?_
      refine r_land d_X5_append_37 ?_
      rw [byt_land hb8]
      refine r_l2i d_X5_append_38 ?_
      refine r_i2c d_X5_append_39 ?_
      rw [sc2_at _ hlt]
      refine r_castJ d_X5_append_40 (tt_5 _ _) (by omega) rfl (by omega) (by omega) (kk := ?_)
      refine r_aload_n d_X5_append_41 rfl ?_
      refine r_dup d_X5_append_42 rfl ?_
      refine r_geti d_X5_append_43 f_X5_22 (tt_4 _ _) (by decide) (by decide) ?_
      refine r_iconst d_X5_append_46 ?_
      refine r_iadd d_X5_append_47 ?_
      rw [e1b]
      refine r_puti d_X5_append_48 f_X5_22 (tt_4 _ _) (by decide) (Or.inl rfl) ?_
      refine r_iinc d_X5_append_51 rfl (by decide) ?_
      refine r_goto d_X5_append_54 ?_
      refine CpL (ih (b + 1) _ (by omega) (fun a h4 h5 => by rw [up2_ne _ _ h4, up2_ne _ _ h5]; exact fa a h4 h5) (fun k hk => by rw [up2_nj _ _ hk, up2_ne _ _ (by decide)]; exact fk k hk) (by rw [up2_at]; omega) (fun j hj2 => ?_)) (by repeat (first | exact trivial | refine ⟨rfl, ?_⟩))
      rw [up2_ne _ _ (by decide)]
      by_cases e : j = len + b
      · rw [e, up2_at]
        unfold pgS
        rw [if_neg (by omega), show len + b - len = b by omega]
      · rw [up2_nj _ _ e]; exact hj j (by omega)
  refine r_iconst d_X5_append_0 ?_
  refine r_istore d_X5_append_1 (by decide) ?_
  refine CpL (loop c 0 I (by omega) (fun _ _ _ => rfl) (fun _ _ => rfl) h1 (fun j hj => ?_)) (by repeat (first | exact trivial | refine ⟨rfl, ?_⟩))
  unfold pgS
  rw [if_pos (by omega)]; exact (h3 j (by omega)).1
theorem c_letters (hP : PGL pg len I) : Mc g 1 m_X7_letters 0 0 [vr 3, vl w] (TT Ls tl) I L (RR tl) (qI fun z T' I' L' R' => T' = TT Ls tl ∧ R' = RR tl ∧ L' = L ∧ (∀ a, a ≠ 4 → a ≠ 5 → I' a = I a) ∧ (∀ k, k ≠ 1 → I' 4 k = I 4 k) ∧ (ltS (bytS w) 8 = none → z = -102 ∧ I' = I) ∧ (∀ q, ltS (bytS w) 8 = some q → (160 < len + q.1 → z = -104 ∧ I' = I) ∧ (len + q.1 ≤ 160 → z = ((len + q.1 : Nat) : Int) ∧ PGL (pgS pg len (bytS w)) (len + q.1) I'))) := by
  refine Mc_of rfl (Nat.le_of_ble_eq_true rfl) ?_
  obtain ⟨h1, h2, h3⟩ := id hP
  cases hq : ltS (bytS w) 8 with
  | none =>
    have e : ltA (bytS w) = -1 := by unfold ltA; rw [hq]
    refine r_lload_n d_X7_letters_0 rfl ?_
    refine r_S1i d_X7_letters_1 (w_X7_64 _ rfl) (c_lettersIn (w := w)) (by decide) (Nat.le_of_ble_eq_true rfl) (fun z1 T1 I1 L1 R1 h1 => ?_)
    obtain ⟨rfl, rfl, rfl, rfl, rfl⟩ := h1
    rw [e]
    refine r_istore_n d_X7_letters_4 (by decide) ?_
    refine r_iload_n d_X7_letters_5 rfl ?_
    refine r_iconst d_X7_letters_6 ?_
    refine r_icmp_ne d_X7_letters_7 (by omega) (by omega) (fun c7 => absurd c7 (by decide)) (fun c7 => ?_)
    refine r_bipush d_X7_letters_10 (by decide) ?_
    refine r_iret d_X7_letters_12 rfl ?_
    exact ⟨_, rfl, rfl, rfl, rfl, fun _ _ _ => rfl, fun _ _ => rfl, fun _ => ⟨rfl, rfl⟩, fun q h => (by cases h)⟩
  | some q =>
    have e : ltA (bytS w) = (q.1 : Int) := by unfold ltA; rw [hq]
    obtain ⟨i1, i2, i3⟩ := lt_iv 8 q hq
    by_cases k : len + q.1 ≤ 160
    · skip
      refine r_lload_n d_X7_letters_0 rfl ?_
      refine r_S1i d_X7_letters_1 (w_X7_64 _ rfl) (c_lettersIn (w := w)) (by decide) (Nat.le_of_ble_eq_true rfl) (fun z1 T1 I1 L1 R1 h1 => ?_)
      obtain ⟨rfl, rfl, rfl, rfl, rfl⟩ := h1
      rw [e]
      refine r_istore_n d_X7_letters_4 (by decide) ?_
      refine r_iload_n d_X7_letters_5 rfl ?_
      refine r_iconst d_X7_letters_6 ?_
      refine r_icmp_ne d_X7_letters_7 (by omega) (by omega) (fun c7 => ?_) (fun c7 => absurd c7 (by omega))
      refine r_aload_n d_X7_letters_13 rfl ?_
      refine r_getr d_X7_letters_14 f_X7_10 (tt_3 _ _) (by decide) rfl (rr_3_0 _) ?_
      refine r_geti d_X7_letters_17 f_X7_68 (tt_4 _ _) (by decide) (by decide) ?_
      rw [h1]
      refine r_iload_n d_X7_letters_20 rfl ?_
      refine r_iadd d_X7_letters_21 ?_
      refine r_sipush d_X7_letters_22 (by decide) ?_
      refine r_icmp_le d_X7_letters_25 (by omega) (by omega) (fun c25 => ?_) (fun c25 => absurd c25 (by omega))
      refine r_aload_n d_X7_letters_31 rfl ?_
      refine r_getr d_X7_letters_32 f_X7_10 (tt_3 _ _) (by decide) rfl (rr_3_0 _) ?_
      refine r_lload_n d_X7_letters_35 rfl ?_
      refine r_iload_n d_X7_letters_36 rfl ?_
      refine r_V2v d_X7_letters_37 (w_X7_72 _ rfl) (tt_4 _ _) rfl rfl (c_append hP i1 k i3) (by decide) (Nat.le_of_ble_eq_true rfl) (fun T37 I37 L37 R37 h37 => ?_)
      obtain ⟨rfl, rfl, rfl, y1, y2, y3⟩ := h37
      refine r_aload_n d_X7_letters_40 rfl ?_
      refine r_getr d_X7_letters_41 f_X7_10 (tt_3 _ _) (by decide) rfl (rr_3_0 _) ?_
      refine r_geti d_X7_letters_44 f_X7_68 (tt_4 _ _) (by decide) (by decide) ?_
      refine r_iret d_X7_letters_47 rfl ?_
      refine ⟨_, rfl, rfl, rfl, rfl, y1, y2, fun h => (by cases h), fun p hp => ⟨fun h => ?_, fun _ => ?_⟩⟩
      · have := Option.some.inj hp; subst this; omega
      · have := Option.some.inj hp; subst this; exact ⟨y3.1, y3⟩
    · skip
      refine r_lload_n d_X7_letters_0 rfl ?_
      refine r_S1i d_X7_letters_1 (w_X7_64 _ rfl) (c_lettersIn (w := w)) (by decide) (Nat.le_of_ble_eq_true rfl) (fun z1 T1 I1 L1 R1 h1 => ?_)
      obtain ⟨rfl, rfl, rfl, rfl, rfl⟩ := h1
      rw [e]
      refine r_istore_n d_X7_letters_4 (by decide) ?_
      refine r_iload_n d_X7_letters_5 rfl ?_
      refine r_iconst d_X7_letters_6 ?_
      refine r_icmp_ne d_X7_letters_7 (by omega) (by omega) (fun c7 => ?_) (fun c7 => absurd c7 (by omega))
      refine r_aload_n d_X7_letters_13 rfl ?_
      refine r_getr d_X7_letters_14 f_X7_10 (tt_3 _ _) (by decide) rfl (rr_3_0 _) ?_
      refine r_geti d_X7_letters_17 f_X7_68 (tt_4 _ _) (by decide) (by decide) ?_
      rw [h1]
      refine r_iload_n d_X7_letters_20 rfl ?_
      refine r_iadd d_X7_letters_21 ?_
      refine r_sipush d_X7_letters_22 (by decide) ?_
      refine r_icmp_le d_X7_letters_25 (by omega) (by omega) (fun c25 => absurd c25 (by omega)) (fun c25 => ?_)
      refine r_bipush d_X7_letters_28 (by decide) ?_
      refine r_iret d_X7_letters_30 rfl ?_
      refine ⟨_, rfl, rfl, rfl, rfl, fun _ _ _ => rfl, fun _ _ => rfl, fun h => (by cases h), fun p hp => ⟨fun _ => ⟨rfl, rfl⟩, fun h => ?_⟩⟩
      have := Option.some.inj hp; subst this; exact absurd h k
end C70
