/-- the page: its letters, whether reading has stopped, and the place -/
def PGX (pg : Nat → Int) (len : Nat) (st : Bool) (p : Nat) (I : sI) : Prop := I 4 1 = (len : Int) ∧ len ≤ 160 ∧ I 4 2 = (p : Int) ∧ p ≤ len ∧ I 4 3 = (if st = true then 1 else 0) ∧ ∀ j, j < len → I 5 j = pg j ∧ 0 ≤ pg j ∧ pg j ≤ 126
def pgE (I I' : sI) : Prop := (∀ a, a ≠ 4 → I' a = I a) ∧ (∀ k, k ≠ 2 → k ≠ 3 → I' 4 k = I 4 k)
theorem pgE_rf {I : sI} : pgE I I := ⟨fun _ _ => rfl, fun _ _ _ => rfl⟩
theorem pgE_tr {I I' I'' : sI} (h1 : pgE I I') (h2 : pgE I' I'') : pgE I I'' := ⟨fun a ha => (h2.1 a ha).trans (h1.1 a ha), fun k a b => (h2.2 k a b).trans (h1.2 k a b)⟩
theorem pgE_2 {I : sI} {x : Int} : pgE I (up2 I 4 2 x) := ⟨fun _ ha => up2_ne _ _ ha, fun _ a _ => up2_nj _ _ a⟩
theorem pgE_3 {I : sI} {x : Int} : pgE I (up2 I 4 3 x) := ⟨fun _ ha => up2_ne _ _ ha, fun _ _ a => up2_nj _ _ a⟩
theorem PGX_2 {pg : Nat → Int} {len p p' : Nat} {st : Bool} {I : sI} {x : Int} (h : PGX pg len st p I) (hx : x = (p' : Int)) (hp : p' ≤ len) : PGX pg len st p' (up2 I 4 2 x) := by
  obtain ⟨h1, h2, h3, h4, h5, h6⟩ := h
  exact ⟨by rw [up2_nj _ _ (by omega)]; exact h1, h2, by rw [up2_at]; exact hx, hp, by rw [up2_nj _ _ (by omega)]; exact h5, fun j hj => by rw [up2_ne _ _ (by omega)]; exact h6 j hj⟩
theorem PGX_3 {pg : Nat → Int} {len p : Nat} {st st' : Bool} {I : sI} {x : Int} (h : PGX pg len st p I) (hx : x = (if st' = true then 1 else 0)) : PGX pg len st' p (up2 I 4 3 x) := by
  obtain ⟨h1, h2, h3, h4, h5, h6⟩ := h
  exact ⟨by rw [up2_nj _ _ (by omega)]; exact h1, h2, by rw [up2_nj _ _ (by omega)]; exact h3, h4, by rw [up2_at]; exact hx, fun j hj => by rw [up2_ne _ _ (by omega)]; exact h6 j hj⟩
theorem PGX_i {pg : Nat → Int} {len p : Nat} {st : Bool} {I I' : sI} (h : PGX pg len st p I) (h4 : I' 4 = I 4) (h5 : I' 5 = I 5) : PGX pg len st p I' := by
  unfold PGX
  rw [h4, h5]
  exact h
def tkS (pg : Nat → Int) (len : Nat) (st : Bool) (p : Nat) (c : Int) : Bool := decide (st = false ∧ p < len ∧ pg p = c)
def dhS (pg : Nat → Int) (len : Nat) (st : Bool) (p : Nat) : Int := if st = false ∧ p < len ∧ 48 ≤ pg p ∧ pg p ≤ 57 then pg p - 48 else -1
def soS (pg : Nat → Int) (len : Nat) (st : Bool) (p : Nat) : Int := if st = false ∧ p < len ∧ 97 ≤ pg p ∧ pg p ≤ 100 then pg p - 97 else -1
theorem dh_rg {pg : Nat → Int} {len p : Nat} {st : Bool} : -1 ≤ dhS pg len st p ∧ dhS pg len st p ≤ 9 := by unfold dhS; split <;> omega
theorem dh_ok {pg : Nat → Int} {len p : Nat} {st : Bool} (h : 0 ≤ dhS pg len st p) : st = false ∧ p < len ∧ pg p = 48 + dhS pg len st p := by
  unfold dhS at h ⊢
  split at h
  · next hc => rw [if_pos hc]; exact ⟨hc.1, hc.2.1, by omega⟩
  · omega
/-- a number of two digits at most: whether reading stops, the place, the number -/
def nmS (pg : Nat → Int) (len : Nat) (st : Bool) (p : Nat) (lo hi : Int) : Bool × Nat × Int :=
  if dhS pg len st p = -1 ∨ (¬ (lo ≤ dhS pg len st p ∧ dhS pg len st p ≤ hi) ∧ ¬ (0 < dhS pg len st p ∧ lo ≤ dhS pg len st p * 10 + 9 ∧ dhS pg len st p * 10 ≤ hi)) then (true, p, 0)
  else if dhS pg len false (p + 1) = -1 then (decide (¬ (lo ≤ dhS pg len st p ∧ dhS pg len st p ≤ hi)), p + 1, dhS pg len st p)
  else if dhS pg len st p = 0 ∨ dhS pg len st p * 10 + dhS pg len false (p + 1) < lo ∨ hi < dhS pg len st p * 10 + dhS pg len false (p + 1) then (true, p + 1, 0)
  else (false, p + 2, dhS pg len st p * 10 + dhS pg len false (p + 1))
section C62
variable {g : sG} {Ls : Nat} {tl : List Nat} {I L : sI} {pg : Nat → Int} {len p : Nat} {st : Bool}
theorem c_takes (hP : PGX pg len st p I) {c : Int} (hc : 0 ≤ c ∧ c ≤ 65535) : Mc g 0 m_X5_takes 0 0 [vr 4, vi c] (TT Ls tl) I L (RR tl) (qI fun z T' I' L' R' => z = (if tkS pg len st p c = true then 1 else 0) ∧ T' = TT Ls tl ∧ R' = RR tl ∧ L' = L ∧ pgE I I' ∧ PGX pg len st (if tkS pg len st p c = true then p + 1 else p) I') := by
  refine Mc_of rfl (Nat.le_of_ble_eq_true rfl) ?_
  obtain ⟨h1, h2, h3, h4, h5, h6⟩ := id hP
  cases st with
  | true =>
    have e : ¬ tkS pg len true p c = true := by simp [tkS]
    rw [if_neg e, if_neg e]
    rw [if_pos rfl] at h5
    refine r_aload_n d_X5_takes_0 rfl ?_
    refine r_geti d_X5_takes_1 f_X5_31 (tt_4 _ _) (by decide) (by decide) ?_
    rw [h5]
    refine r_if_ne d_X5_takes_4 (by omega) (fun c4 => ?_) (fun c4 => absurd c4 (by decide))
    refine r_iconst d_X5_takes_31 ?_
    refine r_zret d_X5_takes_32 rfl (by omega) ?_
    exact ⟨_, rfl, rfl, rfl, rfl, rfl, pgE_rf, hP⟩
  | false =>
    rw [if_neg (by decide)] at h5
    by_cases k1 : p < len
    · obtain ⟨l1, l2, l3⟩ := h6 p k1
      by_cases k2 : pg p = c
      · have e : tkS pg len false p c = true := by simp [tkS, k1, k2]
        rw [if_pos e, if_pos e]
        refine r_aload_n d_X5_takes_0 rfl ?_
        refine r_geti d_X5_takes_1 f_X5_31 (tt_4 _ _) (by decide) (by decide) ?_
        rw [h5]
        refine r_if_ne d_X5_takes_4 (by omega) (fun c4 => absurd c4 (by decide)) (fun c4 => ?_)
        refine r_aload_n d_X5_takes_7 rfl ?_
        refine r_geti d_X5_takes_8 f_X5_28 (tt_4 _ _) (by decide) (by decide) ?_
        refine r_aload_n d_X5_takes_11 rfl ?_
        refine r_geti d_X5_takes_12 f_X5_22 (tt_4 _ _) (by decide) (by decide) ?_
        rw [h1, h3]
        refine r_icmp_ge d_X5_takes_15 (by omega) (by omega) (fun c15 => absurd c15 (by omega)) (fun c15 => ?_)
        refine r_aload_n d_X5_takes_18 rfl ?_
        refine r_getr d_X5_takes_19 f_X5_9 (tt_4 _ _) (by decide) rfl (rr_4_0 _) ?_
        refine r_aload_n d_X5_takes_22 rfl ?_
        refine r_geti d_X5_takes_23 f_X5_28 (tt_4 _ _) (by decide) (by decide) ?_
        rw [h3]
        refine r_caldJ d_X5_takes_26 (tt_5 _ _) rfl (by omega) (kk := ?_)
        rw [l1]
        refine r_iload_n d_X5_takes_27 rfl ?_
        refine r_icmp_eq d_X5_takes_28 (by omega) (by omega) (fun c28 => ?_) (fun c28 => absurd c28 (by exact fun q => q k2))
        refine r_aload_n d_X5_takes_33 rfl ?_
        refine r_dup d_X5_takes_34 rfl ?_
        refine r_geti d_X5_takes_35 f_X5_28 (tt_4 _ _) (by decide) (by decide) ?_
        refine r_iconst d_X5_takes_38 ?_
        refine r_iadd d_X5_takes_39 ?_
        rw [h3]
        refine r_puti d_X5_takes_40 f_X5_28 (tt_4 _ _) (by decide) (Or.inl rfl) ?_
        refine r_iconst d_X5_takes_43 ?_
        refine r_zret d_X5_takes_44 rfl (by omega) ?_
        exact ⟨_, rfl, rfl, rfl, rfl, rfl, pgE_2, PGX_2 hP rfl (by omega)⟩
      · have e : ¬ tkS pg len false p c = true := by simp [tkS, k2]
        rw [if_neg e, if_neg e]
        refine r_aload_n d_X5_takes_0 rfl ?_
        refine r_geti d_X5_takes_1 f_X5_31 (tt_4 _ _) (by decide) (by decide) ?_
        rw [h5]
        refine r_if_ne d_X5_takes_4 (by omega) (fun c4 => absurd c4 (by decide)) (fun c4 => ?_)
        refine r_aload_n d_X5_takes_7 rfl ?_
        refine r_geti d_X5_takes_8 f_X5_28 (tt_4 _ _) (by decide) (by decide) ?_
        refine r_aload_n d_X5_takes_11 rfl ?_
        refine r_geti d_X5_takes_12 f_X5_22 (tt_4 _ _) (by decide) (by decide) ?_
        rw [h1, h3]
        refine r_icmp_ge d_X5_takes_15 (by omega) (by omega) (fun c15 => absurd c15 (by omega)) (fun c15 => ?_)
        refine r_aload_n d_X5_takes_18 rfl ?_
        refine r_getr d_X5_takes_19 f_X5_9 (tt_4 _ _) (by decide) rfl (rr_4_0 _) ?_
        refine r_aload_n d_X5_takes_22 rfl ?_
        refine r_geti d_X5_takes_23 f_X5_28 (tt_4 _ _) (by decide) (by decide) ?_
        rw [h3]
        refine r_caldJ d_X5_takes_26 (tt_5 _ _) rfl (by omega) (kk := ?_)
        rw [l1]
        refine r_iload_n d_X5_takes_27 rfl ?_
        refine r_icmp_eq d_X5_takes_28 (by omega) (by omega) (fun c28 => absurd c28 (by exact k2)) (fun c28 => ?_)
        refine r_iconst d_X5_takes_31 ?_
        refine r_zret d_X5_takes_32 rfl (by omega) ?_
        exact ⟨_, rfl, rfl, rfl, rfl, rfl, pgE_rf, hP⟩
    · have e : ¬ tkS pg len false p c = true := by simp [tkS, k1]
      rw [if_neg e, if_neg e]
      refine r_aload_n d_X5_takes_0 rfl ?_
      refine r_geti d_X5_takes_1 f_X5_31 (tt_4 _ _) (by decide) (by decide) ?_
      rw [h5]
      refine r_if_ne d_X5_takes_4 (by omega) (fun c4 => absurd c4 (by decide)) (fun c4 => ?_)
      refine r_aload_n d_X5_takes_7 rfl ?_
      refine r_geti d_X5_takes_8 f_X5_28 (tt_4 _ _) (by decide) (by decide) ?_
      refine r_aload_n d_X5_takes_11 rfl ?_
      refine r_geti d_X5_takes_12 f_X5_22 (tt_4 _ _) (by decide) (by decide) ?_
      rw [h1, h3]
      refine r_icmp_ge d_X5_takes_15 (by omega) (by omega) (fun c15 => ?_) (fun c15 => absurd c15 (by omega))
      refine r_iconst d_X5_takes_31 ?_
      refine r_zret d_X5_takes_32 rfl (by omega) ?_
      exact ⟨_, rfl, rfl, rfl, rfl, rfl, pgE_rf, hP⟩
theorem c_needs (hP : PGX pg len st p I) {c : Int} (hc : 0 ≤ c ∧ c ≤ 65535) : Mc g 1 m_X5_needs 0 0 [vr 4, vi c] (TT Ls tl) I L (RR tl) (qV fun T' I' L' R' => T' = TT Ls tl ∧ R' = RR tl ∧ L' = L ∧ pgE I I' ∧ PGX pg len (!tkS pg len st p c) (if tkS pg len st p c = true then p + 1 else p) I') := by
  refine Mc_of rfl (Nat.le_of_ble_eq_true rfl) ?_
  have ht := c_takes (g := g) (Ls := Ls) (tl := tl) (L := L) hP hc
  cases e : tkS pg len st p c with
  | true =>
    rw [e] at ht
    have hst : st = false := (decide_eq_true_iff.mp e).1
    refine r_aload_n d_X5_needs_0 rfl ?_
    refine r_iload_n d_X5_needs_1 rfl ?_
    refine r_V1i d_X5_needs_2 (w_X5_60 _ rfl) (tt_4 _ _) rfl rfl (ht) (by decide) (Nat.le_of_ble_eq_true rfl) (fun z2 T2 I2 L2 R2 h2 => ?_)
    obtain ⟨rfl, rfl, rfl, rfl, k1, k2⟩ := h2
    refine r_if_ne d_X5_needs_5 (by rw [if_pos rfl]; omega) (fun c5 => ?_) (fun c5 => absurd c5 (by rw [if_pos rfl]; decide))
    refine r_vret d_X5_needs_13 rfl ?_
    refine ⟨rfl, rfl, rfl, rfl, k1, ?_⟩
    rw [hst] at k2
    exact k2
  | false =>
    rw [e] at ht
    refine r_aload_n d_X5_needs_0 rfl ?_
    refine r_iload_n d_X5_needs_1 rfl ?_
    refine r_V1i d_X5_needs_2 (w_X5_60 _ rfl) (tt_4 _ _) rfl rfl (ht) (by decide) (Nat.le_of_ble_eq_true rfl) (fun z2 T2 I2 L2 R2 h2 => ?_)
    obtain ⟨rfl, rfl, rfl, rfl, k1, k2⟩ := h2
    refine r_if_ne d_X5_needs_5 (by rw [if_neg (by decide)]; omega) (fun c5 => absurd c5 (by rw [if_neg (by decide)]; decide)) (fun c5 => ?_)
    refine r_aload_n d_X5_needs_8 rfl ?_
    refine r_iconst d_X5_needs_9 ?_
    refine r_puti d_X5_needs_10 f_X5_31 (tt_4 _ _) (by decide) (Or.inr ⟨rfl, by omega⟩) ?_
    refine r_vret d_X5_needs_13 rfl ?_
    exact ⟨rfl, rfl, rfl, rfl, pgE_tr k1 pgE_3, PGX_3 k2 rfl⟩
theorem c_needsAnother (hP : PGX pg len st p I) {b : Bool} : Mc g 2 m_X5_needsAnother 0 0 [vr 4, vi (if b = true then 1 else 0)] (TT Ls tl) I L (RR tl) (qV fun T' I' L' R' => T' = TT Ls tl ∧ R' = RR tl ∧ L' = L ∧ pgE I I' ∧ PGX pg len (!(b && tkS pg len st p 44)) (if (b && tkS pg len st p 44) = true then p + 1 else p) I') := by
  refine Mc_of rfl (Nat.le_of_ble_eq_true rfl) ?_
  cases b with
  | true =>
    rw [if_pos rfl, Bool.true_and]
    refine r_iload_n d_X5_needsAnother_0 rfl ?_
    refine r_if_eq d_X5_needsAnother_1 (by omega) (fun c1 => absurd c1 (by decide)) (fun c1 => ?_)
    refine r_aload_n d_X5_needsAnother_4 rfl ?_
    refine r_bipush d_X5_needsAnother_5 (by decide) ?_
    refine r_V1v d_X5_needsAnother_7 (w_X5_80 _ rfl) (tt_4 _ _) rfl rfl (c_needs hP (c := 44) (by omega)) (by decide) (Nat.le_of_ble_eq_true rfl) (fun T7 I7 L7 R7 h7 => ?_)
    obtain ⟨rfl, rfl, rfl, k1, k2⟩ := h7
    refine r_goto d_X5_needsAnother_10 ?_
    refine r_vret d_X5_needsAnother_18 rfl ?_
    exact ⟨rfl, rfl, rfl, rfl, k1, k2⟩
  | false =>
    rw [Bool.false_and, if_neg (by decide)]
    refine r_iload_n d_X5_needsAnother_0 rfl ?_
    refine r_if_eq d_X5_needsAnother_1 (by omega) (fun c1 => ?_) (fun c1 => absurd c1 (by decide))
    refine r_aload_n d_X5_needsAnother_13 rfl ?_
    refine r_iconst d_X5_needsAnother_14 ?_
    refine r_puti d_X5_needsAnother_15 f_X5_31 (tt_4 _ _) (by decide) (Or.inr ⟨rfl, by omega⟩) ?_
    refine r_vret d_X5_needsAnother_18 rfl ?_
    exact ⟨rfl, rfl, rfl, rfl, pgE_3, PGX_3 hP rfl⟩
theorem c_digitHere (hP : PGX pg len st p I) : Mc g 1 m_X5_digitHere 0 0 [vr 4] (TT Ls tl) I L (RR tl) (qI fun z T' I' L' R' => z = dhS pg len st p ∧ same (TT Ls tl) I L (RR tl) T' I' L' R') := by
  refine Mc_of rfl (Nat.le_of_ble_eq_true rfl) ?_
  obtain ⟨h1, h2, h3, h4, h5, h6⟩ := id hP
  unfold dhS
  cases st with
  | true =>
    rw [if_pos rfl] at h5
    rw [if_neg (by simp)]
    refine r_aload_n d_X5_digitHere_0 rfl ?_
    refine r_geti d_X5_digitHere_1 f_X5_31 (tt_4 _ _) (by decide) (by decide) ?_
    rw [h5]
    refine r_if_ne d_X5_digitHere_4 (by omega) (fun c4 => ?_) (fun c4 => absurd c4 (by decide))
    refine r_iconst d_X5_digitHere_18 ?_
    refine r_iret d_X5_digitHere_19 rfl ?_
    exact ⟨_, rfl, rfl, same_rf⟩
  | false =>
    rw [if_neg (by decide)] at h5
    by_cases k1 : p < len
    · obtain ⟨l1, l2, l3⟩ := h6 p k1
      by_cases k2 : 48 ≤ pg p ∧ pg p ≤ 57
      · rw [if_pos ⟨rfl, k1, k2⟩]
        refine r_aload_n d_X5_digitHere_0 rfl ?_
        refine r_geti d_X5_digitHere_1 f_X5_31 (tt_4 _ _) (by decide) (by decide) ?_
        rw [h5]
        refine r_if_ne d_X5_digitHere_4 (by omega) (fun c4 => absurd c4 (by decide)) (fun c4 => ?_)
        refine r_aload_n d_X5_digitHere_7 rfl ?_
        refine r_geti d_X5_digitHere_8 f_X5_28 (tt_4 _ _) (by decide) (by decide) ?_
        refine r_aload_n d_X5_digitHere_11 rfl ?_
        refine r_geti d_X5_digitHere_12 f_X5_22 (tt_4 _ _) (by decide) (by decide) ?_
        rw [h1, h3]
        refine r_icmp_lt d_X5_digitHere_15 (by omega) (by omega) (fun c15 => ?_) (fun c15 => absurd c15 (by omega))
        refine r_aload_n d_X5_digitHere_20 rfl ?_
        refine r_getr d_X5_digitHere_21 f_X5_9 (tt_4 _ _) (by decide) rfl (rr_4_0 _) ?_
        refine r_aload_n d_X5_digitHere_24 rfl ?_
        refine r_geti d_X5_digitHere_25 f_X5_28 (tt_4 _ _) (by decide) (by decide) ?_
        rw [h3]
        refine r_caldJ d_X5_digitHere_28 (tt_5 _ _) rfl (by omega) (kk := ?_)
        rw [l1]
        refine r_bipush d_X5_digitHere_29 (by decide) ?_
        refine r_isub d_X5_digitHere_31 ?_
        refine r_istore_n d_X5_digitHere_32 (by decide) ?_
        refine r_iload_n d_X5_digitHere_33 rfl ?_
        refine r_bipush d_X5_digitHere_34 (by decide) ?_
        refine r_SN2i d_X5_digitHere_36 (w_X5_108 _ rfl) (c_isBelow (by omega) (by omega)) (by decide) (Nat.le_of_ble_eq_true rfl) (fun z36 T36 I36 L36 R36 h36 => ?_)
        obtain ⟨rfl, rfl, rfl, rfl, rfl⟩ := h36
        refine r_if_eq d_X5_digitHere_39 (by split <;> omega) (fun c39 => absurd c39 (by rw [if_pos (by omega)]; decide)) (fun c39 => ?_)
        refine r_iload_n d_X5_digitHere_42 rfl ?_
        refine r_goto d_X5_digitHere_43 ?_
        refine r_iret d_X5_digitHere_47 rfl ?_
        exact ⟨_, rfl, rfl, same_rf⟩
      · rw [if_neg (fun q => k2 q.2.2)]
        refine r_aload_n d_X5_digitHere_0 rfl ?_
        refine r_geti d_X5_digitHere_1 f_X5_31 (tt_4 _ _) (by decide) (by decide) ?_
        rw [h5]
        refine r_if_ne d_X5_digitHere_4 (by omega) (fun c4 => absurd c4 (by decide)) (fun c4 => ?_)
        refine r_aload_n d_X5_digitHere_7 rfl ?_
        refine r_geti d_X5_digitHere_8 f_X5_28 (tt_4 _ _) (by decide) (by decide) ?_
        refine r_aload_n d_X5_digitHere_11 rfl ?_
        refine r_geti d_X5_digitHere_12 f_X5_22 (tt_4 _ _) (by decide) (by decide) ?_
        rw [h1, h3]
        refine r_icmp_lt d_X5_digitHere_15 (by omega) (by omega) (fun c15 => ?_) (fun c15 => absurd c15 (by omega))
        refine r_aload_n d_X5_digitHere_20 rfl ?_
        refine r_getr d_X5_digitHere_21 f_X5_9 (tt_4 _ _) (by decide) rfl (rr_4_0 _) ?_
        refine r_aload_n d_X5_digitHere_24 rfl ?_
        refine r_geti d_X5_digitHere_25 f_X5_28 (tt_4 _ _) (by decide) (by decide) ?_
        rw [h3]
        refine r_caldJ d_X5_digitHere_28 (tt_5 _ _) rfl (by omega) (kk := ?_)
        rw [l1]
        refine r_bipush d_X5_digitHere_29 (by decide) ?_
        refine r_isub d_X5_digitHere_31 ?_
        refine r_istore_n d_X5_digitHere_32 (by decide) ?_
        refine r_iload_n d_X5_digitHere_33 rfl ?_
        refine r_bipush d_X5_digitHere_34 (by decide) ?_
        refine r_SN2i d_X5_digitHere_36 (w_X5_108 _ rfl) (c_isBelow (by omega) (by omega)) (by decide) (Nat.le_of_ble_eq_true rfl) (fun z36 T36 I36 L36 R36 h36 => ?_)
        obtain ⟨rfl, rfl, rfl, rfl, rfl⟩ := h36
        refine r_if_eq d_X5_digitHere_39 (by split <;> omega) (fun c39 => ?_) (fun c39 => absurd c39 (by rw [if_neg (by omega)]; decide))
        refine r_iconst d_X5_digitHere_46 ?_
        refine r_iret d_X5_digitHere_47 rfl ?_
        exact ⟨_, rfl, rfl, same_rf⟩
    · rw [if_neg (fun q => k1 q.2.1)]
      refine r_aload_n d_X5_digitHere_0 rfl ?_
      refine r_geti d_X5_digitHere_1 f_X5_31 (tt_4 _ _) (by decide) (by decide) ?_
      rw [h5]
      refine r_if_ne d_X5_digitHere_4 (by omega) (fun c4 => absurd c4 (by decide)) (fun c4 => ?_)
      refine r_aload_n d_X5_digitHere_7 rfl ?_
      refine r_geti d_X5_digitHere_8 f_X5_28 (tt_4 _ _) (by decide) (by decide) ?_
      refine r_aload_n d_X5_digitHere_11 rfl ?_
      refine r_geti d_X5_digitHere_12 f_X5_22 (tt_4 _ _) (by decide) (by decide) ?_
      rw [h1, h3]
      refine r_icmp_lt d_X5_digitHere_15 (by omega) (by omega) (fun c15 => absurd c15 (by omega)) (fun c15 => ?_)
      refine r_iconst d_X5_digitHere_18 ?_
      refine r_iret d_X5_digitHere_19 rfl ?_
      exact ⟨_, rfl, rfl, same_rf⟩
theorem c_digit (hP : PGX pg len st p I) {lo hi : Int} (hl : 0 ≤ lo ∧ lo ≤ 9) (hh : 0 ≤ hi ∧ hi ≤ 9) : Mc g 2 m_X5_digit 0 0 [vr 4, vi lo, vi hi] (TT Ls tl) I L (RR tl) (qI fun z T' I' L' R' => T' = TT Ls tl ∧ R' = RR tl ∧ L' = L ∧ pgE I I' ∧ ((lo ≤ dhS pg len st p ∧ dhS pg len st p ≤ hi) → z = dhS pg len st p ∧ PGX pg len false (p + 1) I') ∧ (¬ (lo ≤ dhS pg len st p ∧ dhS pg len st p ≤ hi) → z = 0 ∧ PGX pg len true p I')) := by
  refine Mc_of rfl (Nat.le_of_ble_eq_true rfl) ?_
  obtain ⟨h1, h2, h3, h4, h5, h6⟩ := id hP
  have hd := dh_rg (pg := pg) (len := len) (p := p) (st := st)
  by_cases k : lo ≤ dhS pg len st p ∧ dhS pg len st p ≤ hi
  · obtain ⟨k1, k2, k3⟩ := dh_ok (pg := pg) (len := len) (p := p) (st := st) (by omega)
    refine r_aload_n d_X5_digit_0 rfl ?_
    refine r_V0i d_X5_digit_1 (w_X5_121 _ rfl) (tt_4 _ _) rfl rfl (c_digitHere hP) (by decide) (Nat.le_of_ble_eq_true rfl) (fun z1 T1 I1 L1 R1 h1 => ?_)
    obtain ⟨rfl, rfl, rfl, rfl, rfl⟩ := h1
    refine r_istore_n d_X5_digit_4 (by decide) ?_
    refine r_iload_n d_X5_digit_5 rfl ?_
    refine r_iload_n d_X5_digit_6 rfl ?_
    refine r_icmp_lt d_X5_digit_7 (by omega) (by omega) (fun c7 => absurd c7 (by omega)) (fun c7 => ?_)
    refine r_iload_n d_X5_digit_10 rfl ?_
    refine r_iload_n d_X5_digit_11 rfl ?_
    refine r_icmp_le d_X5_digit_12 (by omega) (by omega) (fun c12 => ?_) (fun c12 => absurd c12 (by omega))
    refine r_aload_n d_X5_digit_22 rfl ?_
    refine r_dup d_X5_digit_23 rfl ?_
    refine r_geti d_X5_digit_24 f_X5_28 (tt_4 _ _) (by decide) (by decide) ?_
    refine r_iconst d_X5_digit_27 ?_
    refine r_iadd d_X5_digit_28 ?_
    rw [h3]
    refine r_puti d_X5_digit_29 f_X5_28 (tt_4 _ _) (by decide) (Or.inl rfl) ?_
    refine r_iload_n d_X5_digit_32 rfl ?_
    refine r_iret d_X5_digit_33 rfl ?_
    exact ⟨_, rfl, rfl, rfl, rfl, pgE_2, fun _ => ⟨rfl, by rw [← k1]; exact PGX_2 hP rfl (by omega)⟩, fun h => absurd k h⟩
  · skip
    refine r_aload_n d_X5_digit_0 rfl ?_
    refine r_V0i d_X5_digit_1 (w_X5_121 _ rfl) (tt_4 _ _) rfl rfl (c_digitHere hP) (by decide) (Nat.le_of_ble_eq_true rfl) (fun z1 T1 I1 L1 R1 h1 => ?_)
    obtain ⟨rfl, rfl, rfl, rfl, rfl⟩ := h1
    refine r_istore_n d_X5_digit_4 (by decide) ?_
    refine r_iload_n d_X5_digit_5 rfl ?_
    refine r_iload_n d_X5_digit_6 rfl ?_
    refine r_icmp_lt d_X5_digit_7 (by omega) (by omega) (fun c7 => ?_) (fun c7 => ?_)
    · refine r_aload_n d_X5_digit_15 rfl ?_
      refine r_iconst d_X5_digit_16 ?_
      refine r_puti d_X5_digit_17 f_X5_31 (tt_4 _ _) (by decide) (Or.inr ⟨rfl, by omega⟩) ?_
      refine r_iconst d_X5_digit_20 ?_
      refine r_iret d_X5_digit_21 rfl ?_
      exact ⟨_, rfl, rfl, rfl, rfl, pgE_3, fun h => absurd h k, fun _ => ⟨rfl, PGX_3 hP rfl⟩⟩
    · refine r_iload_n d_X5_digit_10 rfl ?_
      refine r_iload_n d_X5_digit_11 rfl ?_
      refine r_icmp_le d_X5_digit_12 (by omega) (by omega) (fun c12 => absurd c12 (by omega)) (fun c12 => ?_)
      refine r_aload_n d_X5_digit_15 rfl ?_
      refine r_iconst d_X5_digit_16 ?_
      refine r_puti d_X5_digit_17 f_X5_31 (tt_4 _ _) (by decide) (Or.inr ⟨rfl, by omega⟩) ?_
      refine r_iconst d_X5_digit_20 ?_
      refine r_iret d_X5_digit_21 rfl ?_
      exact ⟨_, rfl, rfl, rfl, rfl, pgE_3, fun h => absurd h k, fun _ => ⟨rfl, PGX_3 hP rfl⟩⟩
theorem c_sort (hP : PGX pg len st p I) : Mc g 1 m_X5_sort 0 0 [vr 4] (TT Ls tl) I L (RR tl) (qI fun z T' I' L' R' => T' = TT Ls tl ∧ R' = RR tl ∧ L' = L ∧ pgE I I' ∧ (0 ≤ soS pg len st p → z = soS pg len st p ∧ PGX pg len false (p + 1) I') ∧ (¬ 0 ≤ soS pg len st p → z = 0 ∧ PGX pg len true p I')) := by
  refine Mc_of rfl (Nat.le_of_ble_eq_true rfl) ?_
  obtain ⟨h1, h2, h3, h4, h5, h6⟩ := id hP
  cases st with
  | true =>
    rw [if_pos rfl] at h5
    have e : ¬ 0 ≤ soS pg len true p := by unfold soS; rw [if_neg (by simp)]; omega
    refine r_aload_n d_X5_sort_0 rfl ?_
    refine r_geti d_X5_sort_1 f_X5_31 (tt_4 _ _) (by decide) (by decide) ?_
    rw [h5]
    refine r_if_ne d_X5_sort_4 (by omega) (fun c4 => ?_) (fun c4 => absurd c4 (by decide))
    refine r_iconst d_X5_sort_18 ?_
    refine r_goto d_X5_sort_19 ?_
    refine r_istore_n d_X5_sort_34 (by decide) ?_
    refine r_iload_n d_X5_sort_35 rfl ?_
    refine r_iconst d_X5_sort_36 ?_
    refine r_SN2i d_X5_sort_37 (w_X5_108 _ rfl) (c_isBelow (by omega) (by omega)) (by decide) (Nat.le_of_ble_eq_true rfl) (fun z37 T37 I37 L37 R37 h37 => ?_)
    obtain ⟨rfl, rfl, rfl, rfl, rfl⟩ := h37
    refine r_if_ne d_X5_sort_40 (by split <;> omega) (fun c40 => absurd c40 (by rw [if_neg (by omega)]; decide)) (fun c40 => ?_)
    refine r_aload_n d_X5_sort_43 rfl ?_
    refine r_iconst d_X5_sort_44 ?_
    refine r_puti d_X5_sort_45 f_X5_31 (tt_4 _ _) (by decide) (Or.inr ⟨rfl, by omega⟩) ?_
    refine r_iconst d_X5_sort_48 ?_
    refine r_iret d_X5_sort_49 rfl ?_
    exact ⟨_, rfl, rfl, rfl, rfl, pgE_3, fun h => absurd h e, fun _ => ⟨rfl, PGX_3 hP rfl⟩⟩
  | false =>
    rw [if_neg (by decide)] at h5
    by_cases k1 : p < len
    · obtain ⟨l1, l2, l3⟩ := h6 p k1
      by_cases k2 : 97 ≤ pg p ∧ pg p ≤ 100
      · have e : soS pg len false p = pg p - 97 := by unfold soS; rw [if_pos ⟨rfl, k1, k2⟩]
        refine r_aload_n d_X5_sort_0 rfl ?_
        refine r_geti d_X5_sort_1 f_X5_31 (tt_4 _ _) (by decide) (by decide) ?_
        rw [h5]
        refine r_if_ne d_X5_sort_4 (by omega) (fun c4 => absurd c4 (by decide)) (fun c4 => ?_)
        refine r_aload_n d_X5_sort_7 rfl ?_
        refine r_geti d_X5_sort_8 f_X5_28 (tt_4 _ _) (by decide) (by decide) ?_
        refine r_aload_n d_X5_sort_11 rfl ?_
        refine r_geti d_X5_sort_12 f_X5_22 (tt_4 _ _) (by decide) (by decide) ?_
        rw [h1, h3]
        refine r_icmp_lt d_X5_sort_15 (by omega) (by omega) (fun c15 => ?_) (fun c15 => absurd c15 (by omega))
        refine r_aload_n d_X5_sort_22 rfl ?_
        refine r_getr d_X5_sort_23 f_X5_9 (tt_4 _ _) (by decide) rfl (rr_4_0 _) ?_
        refine r_aload_n d_X5_sort_26 rfl ?_
        refine r_geti d_X5_sort_27 f_X5_28 (tt_4 _ _) (by decide) (by decide) ?_
        rw [h3]
        refine r_caldJ d_X5_sort_30 (tt_5 _ _) rfl (by omega) (kk := ?_)
        rw [l1]
        refine r_bipush d_X5_sort_31 (by decide) ?_
        refine r_isub d_X5_sort_33 ?_
        refine r_istore_n d_X5_sort_34 (by decide) ?_
        refine r_iload_n d_X5_sort_35 rfl ?_
        refine r_iconst d_X5_sort_36 ?_
        refine r_SN2i d_X5_sort_37 (w_X5_108 _ rfl) (c_isBelow (by omega) (by omega)) (by decide) (Nat.le_of_ble_eq_true rfl) (fun z37 T37 I37 L37 R37 h37 => ?_)
        obtain ⟨rfl, rfl, rfl, rfl, rfl⟩ := h37
        refine r_if_ne d_X5_sort_40 (by split <;> omega) (fun c40 => ?_) (fun c40 => absurd c40 (by rw [if_pos (by omega)]; decide))
        refine r_aload_n d_X5_sort_50 rfl ?_
        refine r_dup d_X5_sort_51 rfl ?_
        refine r_geti d_X5_sort_52 f_X5_28 (tt_4 _ _) (by decide) (by decide) ?_
        refine r_iconst d_X5_sort_55 ?_
        refine r_iadd d_X5_sort_56 ?_
        rw [h3]
        refine r_puti d_X5_sort_57 f_X5_28 (tt_4 _ _) (by decide) (Or.inl rfl) ?_
        refine r_iload_n d_X5_sort_60 rfl ?_
        refine r_iret d_X5_sort_61 rfl ?_
        exact ⟨_, rfl, rfl, rfl, rfl, pgE_2, fun _ => ⟨by rw [e], PGX_2 hP rfl (by omega)⟩, fun h => absurd (by omega) h⟩
      · have e : ¬ 0 ≤ soS pg len false p := by unfold soS; rw [if_neg (fun q => k2 q.2.2)]; omega
        refine r_aload_n d_X5_sort_0 rfl ?_
        refine r_geti d_X5_sort_1 f_X5_31 (tt_4 _ _) (by decide) (by decide) ?_
        rw [h5]
        refine r_if_ne d_X5_sort_4 (by omega) (fun c4 => absurd c4 (by decide)) (fun c4 => ?_)
        refine r_aload_n d_X5_sort_7 rfl ?_
        refine r_geti d_X5_sort_8 f_X5_28 (tt_4 _ _) (by decide) (by decide) ?_
        refine r_aload_n d_X5_sort_11 rfl ?_
        refine r_geti d_X5_sort_12 f_X5_22 (tt_4 _ _) (by decide) (by decide) ?_
        rw [h1, h3]
        refine r_icmp_lt d_X5_sort_15 (by omega) (by omega) (fun c15 => ?_) (fun c15 => absurd c15 (by omega))
        refine r_aload_n d_X5_sort_22 rfl ?_
        refine r_getr d_X5_sort_23 f_X5_9 (tt_4 _ _) (by decide) rfl (rr_4_0 _) ?_
        refine r_aload_n d_X5_sort_26 rfl ?_
        refine r_geti d_X5_sort_27 f_X5_28 (tt_4 _ _) (by decide) (by decide) ?_
        rw [h3]
        refine r_caldJ d_X5_sort_30 (tt_5 _ _) rfl (by omega) (kk := ?_)
        rw [l1]
        refine r_bipush d_X5_sort_31 (by decide) ?_
        refine r_isub d_X5_sort_33 ?_
        refine r_istore_n d_X5_sort_34 (by decide) ?_
        refine r_iload_n d_X5_sort_35 rfl ?_
        refine r_iconst d_X5_sort_36 ?_
        refine r_SN2i d_X5_sort_37 (w_X5_108 _ rfl) (c_isBelow (by omega) (by omega)) (by decide) (Nat.le_of_ble_eq_true rfl) (fun z37 T37 I37 L37 R37 h37 => ?_)
        obtain ⟨rfl, rfl, rfl, rfl, rfl⟩ := h37
        refine r_if_ne d_X5_sort_40 (by split <;> omega) (fun c40 => absurd c40 (by rw [if_neg (by omega)]; decide)) (fun c40 => ?_)
        refine r_aload_n d_X5_sort_43 rfl ?_
        refine r_iconst d_X5_sort_44 ?_
        refine r_puti d_X5_sort_45 f_X5_31 (tt_4 _ _) (by decide) (Or.inr ⟨rfl, by omega⟩) ?_
        refine r_iconst d_X5_sort_48 ?_
        refine r_iret d_X5_sort_49 rfl ?_
        exact ⟨_, rfl, rfl, rfl, rfl, pgE_3, fun h => absurd h e, fun _ => ⟨rfl, PGX_3 hP rfl⟩⟩
    · have e : ¬ 0 ≤ soS pg len false p := by unfold soS; rw [if_neg (fun q => k1 q.2.1)]; omega
      refine r_aload_n d_X5_sort_0 rfl ?_
      refine r_geti d_X5_sort_1 f_X5_31 (tt_4 _ _) (by decide) (by decide) ?_
      rw [h5]
      refine r_if_ne d_X5_sort_4 (by omega) (fun c4 => absurd c4 (by decide)) (fun c4 => ?_)
      refine r_aload_n d_X5_sort_7 rfl ?_
      refine r_geti d_X5_sort_8 f_X5_28 (tt_4 _ _) (by decide) (by decide) ?_
      refine r_aload_n d_X5_sort_11 rfl ?_
      refine r_geti d_X5_sort_12 f_X5_22 (tt_4 _ _) (by decide) (by decide) ?_
      rw [h1, h3]
      refine r_icmp_lt d_X5_sort_15 (by omega) (by omega) (fun c15 => absurd c15 (by omega)) (fun c15 => ?_)
      refine r_iconst d_X5_sort_18 ?_
      refine r_goto d_X5_sort_19 ?_
      refine r_istore_n d_X5_sort_34 (by decide) ?_
      refine r_iload_n d_X5_sort_35 rfl ?_
      refine r_iconst d_X5_sort_36 ?_
      refine r_SN2i d_X5_sort_37 (w_X5_108 _ rfl) (c_isBelow (by omega) (by omega)) (by decide) (Nat.le_of_ble_eq_true rfl) (fun z37 T37 I37 L37 R37 h37 => ?_)
      obtain ⟨rfl, rfl, rfl, rfl, rfl⟩ := h37
      refine r_if_ne d_X5_sort_40 (by split <;> omega) (fun c40 => absurd c40 (by rw [if_neg (by omega)]; decide)) (fun c40 => ?_)
      refine r_aload_n d_X5_sort_43 rfl ?_
      refine r_iconst d_X5_sort_44 ?_
      refine r_puti d_X5_sort_45 f_X5_31 (tt_4 _ _) (by decide) (Or.inr ⟨rfl, by omega⟩) ?_
      refine r_iconst d_X5_sort_48 ?_
      refine r_iret d_X5_sort_49 rfl ?_
      exact ⟨_, rfl, rfl, rfl, rfl, pgE_3, fun h => absurd h e, fun _ => ⟨rfl, PGX_3 hP rfl⟩⟩
theorem c_number (hP : PGX pg len st p I) {lo hi : Int} (hl : 0 ≤ lo ∧ lo ≤ 100) (hh : 0 ≤ hi ∧ hi ≤ 100) : Mc g 2 m_X5_number 0 0 [vr 4, vi lo, vi hi] (TT Ls tl) I L (RR tl) (qI fun z T' I' L' R' => T' = TT Ls tl ∧ R' = RR tl ∧ L' = L ∧ pgE I I' ∧ z = (nmS pg len st p lo hi).2.2 ∧ PGX pg len (nmS pg len st p lo hi).1 (nmS pg len st p lo hi).2.1 I') := by
  refine Mc_of rfl (Nat.le_of_ble_eq_true rfl) ?_
  obtain ⟨h1, h2, h3, h4, h5, h6⟩ := id hP
  have hd := dh_rg (pg := pg) (len := len) (p := p) (st := st)
  have hd2 := dh_rg (pg := pg) (len := len) (p := p + 1) (st := false)
  obtain ⟨N, hN⟩ : ∃ N, N = nmS pg len st p lo hi := ⟨_, rfl⟩
  obtain ⟨Q, hQ⟩ : ∃ Q : sQ, Q = (qI fun z T' I' L' R' => T' = TT Ls tl ∧ R' = RR tl ∧ L' = L ∧ pgE I I' ∧ z = N.2.2 ∧ PGX pg len N.1 N.2.1 I') := ⟨_, rfl⟩
  rw [← hN, ← hQ]
  unfold nmS at hN
  have hok : ¬ dhS pg len st p = -1 → st = false ∧ p < len := fun h => by
    have := dh_ok (pg := pg) (len := len) (p := p) (st := st) (by omega); exact ⟨this.1, this.2.1⟩
  have hok2 : ¬ dhS pg len false (p + 1) = -1 → p + 1 < len := fun h => (dh_ok (pg := pg) (len := len) (p := p + 1) (st := false) (by omega)).2.1
  obtain ⟨v, hv⟩ : ∃ v, v = dhS pg len st p := ⟨_, rfl⟩
  obtain ⟨u, hu⟩ : ∃ u, u = dhS pg len false (p + 1) := ⟨_, rfl⟩
  rw [← hv] at hN hd hok
  rw [← hu] at hN hd2 hok2
  have stop : (v = -1 ∨ (¬ (lo ≤ v ∧ v ≤ hi) ∧ ¬ (0 < v ∧ lo ≤ v * 10 + 9 ∧ v * 10 ≤ hi))) → Q (some (vi 0)) (TT Ls tl) (up2 I 4 3 1) L (RR tl) := fun h => by
    rw [if_pos h] at hN
    rw [hQ, hN]
    exact ⟨_, rfl, rfl, rfl, rfl, pgE_3, rfl, PGX_3 hP rfl⟩
  have t74 : ∀ w : Int, w = (if lo ≤ v ∧ v ≤ hi then 1 else 0) → ¬ (v = -1 ∨ (¬ (lo ≤ v ∧ v ≤ hi) ∧ ¬ (0 < v ∧ lo ≤ v * 10 + 9 ∧ v * 10 ≤ hi))) → Cp g 2 m_X5_number 0 0 Q 74 [(0, vr 4), (1, vi lo), (2, vi hi), (3, vi v), (4, vi w)] [] (TT Ls tl) I L (RR tl) := by
    intro w hw hne
    rw [if_neg hne] at hN
    obtain ⟨o1, o2⟩ := hok (fun h => hne (Or.inl h))
    subst o1
    have hP1 : PGX pg len false (p + 1) (up2 I 4 2 ((p : Int) + 1)) := PGX_2 hP rfl (by omega)
    have hw01 : w = 0 ∨ w = 1 := by rw [hw]; split <;> omega
    have hdh := c_digitHere (g := g) (Ls := Ls) (tl := tl) (L := L) hP1
    rw [← hu] at hdh
    by_cases k : u = -1
    · rw [if_pos k] at hN
      refine r_aload_n d_X5_number_74 rfl ?_
      refine r_dup d_X5_number_75 rfl ?_
      refine r_geti d_X5_number_76 f_X5_28 (tt_4 _ _) (by decide) (by decide) ?_
      refine r_iconst d_X5_number_79 ?_
      refine r_iadd d_X5_number_80 ?_
      rw [h3]
      refine r_puti d_X5_number_81 f_X5_28 (tt_4 _ _) (by decide) (Or.inl rfl) ?_
      refine r_aload_n d_X5_number_84 rfl ?_
      refine r_V0i d_X5_number_85 (w_X5_121 _ rfl) (tt_4 _ _) rfl rfl (hdh) (by decide) (Nat.le_of_ble_eq_true rfl) (fun z85 T85 I85 L85 R85 h85 => ?_)
      obtain ⟨rfl, rfl, rfl, rfl, rfl⟩ := h85
      refine r_istore d_X5_number_88 (by decide) ?_
      refine r_iload d_X5_number_90 rfl ?_
      refine r_iconst d_X5_number_92 ?_
      refine r_icmp_ne d_X5_number_93 (by omega) (by omega) (fun c93 => absurd c93 (by omega)) (fun c93 => ?_)
      refine r_aload_n d_X5_number_96 rfl ?_
      refine r_iload d_X5_number_97 rfl ?_
      refine r_if_ne d_X5_number_99 (by omega) (fun c99 => ?_) (fun c99 => ?_)
      · refine r_iconst d_X5_number_106 ?_
        refine r_puti d_X5_number_107 f_X5_31 (tt_4 _ _) (by decide) (Or.inr ⟨rfl, by omega⟩) ?_
        refine r_iload_n d_X5_number_110 rfl ?_
        refine r_iret d_X5_number_111 rfl ?_
        first
        | rw [hQ, hN]
          have e9 : lo ≤ v ∧ v ≤ hi := Classical.byContradiction (fun q => c99 (by rw [hw, if_neg q]))
          exact ⟨_, rfl, rfl, rfl, rfl, pgE_tr pgE_2 pgE_3, rfl, PGX_3 hP1 (by rw [if_neg (by simp [e9])])⟩
        | rw [hQ, hN]
          have e9 : ¬ (lo ≤ v ∧ v ≤ hi) := fun q => by rw [if_pos q] at hw; omega
          exact ⟨_, rfl, rfl, rfl, rfl, pgE_tr pgE_2 pgE_3, rfl, PGX_3 hP1 (by rw [if_pos (by simp only [decide_eq_true_iff]; exact e9)])⟩
      · refine r_iconst d_X5_number_102 ?_
        refine r_goto d_X5_number_103 ?_
        refine r_puti d_X5_number_107 f_X5_31 (tt_4 _ _) (by decide) (Or.inr ⟨rfl, by omega⟩) ?_
        refine r_iload_n d_X5_number_110 rfl ?_
        refine r_iret d_X5_number_111 rfl ?_
        first
        | rw [hQ, hN]
          have e9 : lo ≤ v ∧ v ≤ hi := Classical.byContradiction (fun q => c99 (by rw [hw, if_neg q]))
          exact ⟨_, rfl, rfl, rfl, rfl, pgE_tr pgE_2 pgE_3, rfl, PGX_3 hP1 (by rw [if_neg (by simp [e9])])⟩
        | rw [hQ, hN]
          have e9 : ¬ (lo ≤ v ∧ v ≤ hi) := fun q => by rw [if_pos q] at hw; omega
          exact ⟨_, rfl, rfl, rfl, rfl, pgE_tr pgE_2 pgE_3, rfl, PGX_3 hP1 (by rw [if_pos (by simp only [decide_eq_true_iff]; exact e9)])⟩
    · rw [if_neg k] at hN
      have o3 := hok2 k
      by_cases k2 : v = 0 ∨ v * 10 + u < lo ∨ hi < v * 10 + u
      · rw [if_pos k2] at hN
        refine r_aload_n d_X5_number_74 rfl ?_
        refine r_dup d_X5_number_75 rfl ?_
        refine r_geti d_X5_number_76 f_X5_28 (tt_4 _ _) (by decide) (by decide) ?_
        refine r_iconst d_X5_number_79 ?_
        refine r_iadd d_X5_number_80 ?_
        rw [h3]
        refine r_puti d_X5_number_81 f_X5_28 (tt_4 _ _) (by decide) (Or.inl rfl) ?_
        refine r_aload_n d_X5_number_84 rfl ?_
        refine r_V0i d_X5_number_85 (w_X5_121 _ rfl) (tt_4 _ _) rfl rfl (hdh) (by decide) (Nat.le_of_ble_eq_true rfl) (fun z85 T85 I85 L85 R85 h85 => ?_)
        obtain ⟨rfl, rfl, rfl, rfl, rfl⟩ := h85
        refine r_istore d_X5_number_88 (by decide) ?_
        refine r_iload d_X5_number_90 rfl ?_
        refine r_iconst d_X5_number_92 ?_
        refine r_icmp_ne d_X5_number_93 (by omega) (by omega) (fun c93 => ?_) (fun c93 => absurd c93 (by exact k))
        refine r_iload_n d_X5_number_112 rfl ?_
        refine r_bipush d_X5_number_113 (by decide) ?_
        refine r_imul d_X5_number_115 ?_
        refine r_iload d_X5_number_116 rfl ?_
        refine r_iadd d_X5_number_118 ?_
        refine r_istore d_X5_number_119 (by decide) ?_
        refine r_iload_n d_X5_number_121 rfl ?_
        refine r_if_eq d_X5_number_122 (by omega) (fun c122 => ?_) (fun c122 => ?_)
        · refine r_aload_n d_X5_number_137 rfl ?_
          refine r_iconst d_X5_number_138 ?_
          refine r_puti d_X5_number_139 f_X5_31 (tt_4 _ _) (by decide) (Or.inr ⟨rfl, by omega⟩) ?_
          refine r_iconst d_X5_number_142 ?_
          refine r_iret d_X5_number_143 rfl ?_
          rw [hQ, hN]
          exact ⟨_, rfl, rfl, rfl, rfl, pgE_tr pgE_2 pgE_3, rfl, PGX_3 hP1 rfl⟩
        · refine r_iload d_X5_number_125 rfl ?_
          refine r_iload_n d_X5_number_127 rfl ?_
          refine r_icmp_lt d_X5_number_128 (by omega) (by omega) (fun c128 => ?_) (fun c128 => ?_)
          · refine r_aload_n d_X5_number_137 rfl ?_
            refine r_iconst d_X5_number_138 ?_
            refine r_puti d_X5_number_139 f_X5_31 (tt_4 _ _) (by decide) (Or.inr ⟨rfl, by omega⟩) ?_
            refine r_iconst d_X5_number_142 ?_
            refine r_iret d_X5_number_143 rfl ?_
            rw [hQ, hN]
            exact ⟨_, rfl, rfl, rfl, rfl, pgE_tr pgE_2 pgE_3, rfl, PGX_3 hP1 rfl⟩
          · refine r_iload d_X5_number_131 rfl ?_
            refine r_iload_n d_X5_number_133 rfl ?_
            refine r_icmp_le d_X5_number_134 (by omega) (by omega) (fun c134 => absurd c134 (by omega)) (fun c134 => ?_)
            refine r_aload_n d_X5_number_137 rfl ?_
            refine r_iconst d_X5_number_138 ?_
            refine r_puti d_X5_number_139 f_X5_31 (tt_4 _ _) (by decide) (Or.inr ⟨rfl, by omega⟩) ?_
            refine r_iconst d_X5_number_142 ?_
            refine r_iret d_X5_number_143 rfl ?_
            rw [hQ, hN]
            exact ⟨_, rfl, rfl, rfl, rfl, pgE_tr pgE_2 pgE_3, rfl, PGX_3 hP1 rfl⟩
      · rw [if_neg k2] at hN
        have h31 : up2 I 4 2 ((p : Int) + 1) 4 2 = (p : Int) + 1 := up2_at _ _ _ _
        refine r_aload_n d_X5_number_74 rfl ?_
        refine r_dup d_X5_number_75 rfl ?_
        refine r_geti d_X5_number_76 f_X5_28 (tt_4 _ _) (by decide) (by decide) ?_
        refine r_iconst d_X5_number_79 ?_
        refine r_iadd d_X5_number_80 ?_
        rw [h3]
        refine r_puti d_X5_number_81 f_X5_28 (tt_4 _ _) (by decide) (Or.inl rfl) ?_
        refine r_aload_n d_X5_number_84 rfl ?_
        refine r_V0i d_X5_number_85 (w_X5_121 _ rfl) (tt_4 _ _) rfl rfl (hdh) (by decide) (Nat.le_of_ble_eq_true rfl) (fun z85 T85 I85 L85 R85 h85 => ?_)
        obtain ⟨rfl, rfl, rfl, rfl, rfl⟩ := h85
        refine r_istore d_X5_number_88 (by decide) ?_
        refine r_iload d_X5_number_90 rfl ?_
        refine r_iconst d_X5_number_92 ?_
        refine r_icmp_ne d_X5_number_93 (by omega) (by omega) (fun c93 => ?_) (fun c93 => absurd c93 (by exact k))
        refine r_iload_n d_X5_number_112 rfl ?_
        refine r_bipush d_X5_number_113 (by decide) ?_
        refine r_imul d_X5_number_115 ?_
        refine r_iload d_X5_number_116 rfl ?_
        refine r_iadd d_X5_number_118 ?_
        refine r_istore d_X5_number_119 (by decide) ?_
        refine r_iload_n d_X5_number_121 rfl ?_
        refine r_if_eq d_X5_number_122 (by omega) (fun c122 => absurd c122 (by omega)) (fun c122 => ?_)
        refine r_iload d_X5_number_125 rfl ?_
        refine r_iload_n d_X5_number_127 rfl ?_
        refine r_icmp_lt d_X5_number_128 (by omega) (by omega) (fun c128 => absurd c128 (by omega)) (fun c128 => ?_)
        refine r_iload d_X5_number_131 rfl ?_
        refine r_iload_n d_X5_number_133 rfl ?_
        refine r_icmp_le d_X5_number_134 (by omega) (by omega) (fun c134 => ?_) (fun c134 => absurd c134 (by omega))
        refine r_aload_n d_X5_number_144 rfl ?_
        refine r_dup d_X5_number_145 rfl ?_
        refine r_geti d_X5_number_146 f_X5_28 (tt_4 _ _) (by decide) (by decide) ?_
        refine r_iconst d_X5_number_149 ?_
        refine r_iadd d_X5_number_150 ?_
        rw [h31]
        refine r_puti d_X5_number_151 f_X5_28 (tt_4 _ _) (by decide) (Or.inl rfl) ?_
        refine r_iload d_X5_number_154 rfl ?_
        refine r_iret d_X5_number_156 rfl ?_
        rw [hQ, hN]
        exact ⟨_, rfl, rfl, rfl, rfl, pgE_tr pgE_2 pgE_2, rfl, PGX_2 (p' := p + 2) hP1 (by omega) (by omega)⟩
  have t52 : ∀ w b : Int, w = (if lo ≤ v ∧ v ≤ hi then 1 else 0) → b = (if 0 < v ∧ lo ≤ v * 10 + 9 ∧ v * 10 ≤ hi then 1 else 0) → Cp g 2 m_X5_number 0 0 Q 52 [(0, vr 4), (1, vi lo), (2, vi hi), (3, vi v), (4, vi w), (5, vi b)] [] (TT Ls tl) I L (RR tl) := by
    intro w b hw hb
    have hw01 : w = 0 ∨ w = 1 := by rw [hw]; split <;> omega
    have hb01 : b = 0 ∨ b = 1 := by rw [hb]; split <;> omega
    have w0 : w = 0 → ¬ (lo ≤ v ∧ v ≤ hi) := fun h q => by rw [if_pos q] at hw; omega
    have b0 : b = 0 → ¬ (0 < v ∧ lo ≤ v * 10 + 9 ∧ v * 10 ≤ hi) := fun h q => by rw [if_pos q] at hb; omega
    have w1 : ¬ w = 0 → (lo ≤ v ∧ v ≤ hi) := fun h => Classical.byContradiction (fun q => h (by rw [hw, if_neg q]))
    have b1 : ¬ b = 0 → (0 < v ∧ lo ≤ v * 10 + 9 ∧ v * 10 ≤ hi) := fun h => Classical.byContradiction (fun q => h (by rw [hb, if_neg q]))
    refine r_iload_n d_X5_number_52 rfl ?_
    refine r_iconst d_X5_number_53 ?_
    refine r_icmp_eq d_X5_number_54 (by omega) (by omega) (fun c54 => ?_) (fun c54 => ?_)
    · refine r_aload_n d_X5_number_67 rfl ?_
      refine r_iconst d_X5_number_68 ?_
      refine r_puti d_X5_number_69 f_X5_31 (tt_4 _ _) (by decide) (Or.inr ⟨rfl, by omega⟩) ?_
      refine r_iconst d_X5_number_72 ?_
      refine r_iret d_X5_number_73 rfl ?_
      first
      | exact stop (Or.inl c54)
      | exact stop (Or.inr ⟨w0 (by omega), b0 (by omega)⟩)
    · refine r_iload d_X5_number_57 rfl ?_
      refine r_if_ne d_X5_number_59 (by omega) (fun c59 => ?_) (fun c59 => ?_)
      · first
        | exact CpL (t74 w hw (by have := w1 c59; omega)) (by repeat (first | exact trivial | refine ⟨rfl, ?_⟩))
        | exact CpL (t74 w hw (by have := b1 c64; omega)) (by repeat (first | exact trivial | refine ⟨rfl, ?_⟩))
      · refine r_iload d_X5_number_62 rfl ?_
        refine r_if_ne d_X5_number_64 (by omega) (fun c64 => ?_) (fun c64 => ?_)
        · first
          | exact CpL (t74 w hw (by have := w1 c59; omega)) (by repeat (first | exact trivial | refine ⟨rfl, ?_⟩))
          | exact CpL (t74 w hw (by have := b1 c64; omega)) (by repeat (first | exact trivial | refine ⟨rfl, ?_⟩))
        · refine r_aload_n d_X5_number_67 rfl ?_
          refine r_iconst d_X5_number_68 ?_
          refine r_puti d_X5_number_69 f_X5_31 (tt_4 _ _) (by decide) (Or.inr ⟨rfl, by omega⟩) ?_
          refine r_iconst d_X5_number_72 ?_
          refine r_iret d_X5_number_73 rfl ?_
          first
          | exact stop (Or.inl c54)
          | exact stop (Or.inr ⟨w0 (by omega), b0 (by omega)⟩)
  have t22 : ∀ w : Int, w = (if lo ≤ v ∧ v ≤ hi then 1 else 0) → Cp g 2 m_X5_number 0 0 Q 22 [(0, vr 4), (1, vi lo), (2, vi hi), (3, vi v), (4, vi w)] [] (TT Ls tl) I L (RR tl) := by
    intro w hw
    refine r_iload_n d_X5_number_22 rfl ?_
    refine r_if_le d_X5_number_23 (by omega) (fun c23 => ?_) (fun c23 => ?_)
    · refine r_iconst d_X5_number_49 ?_
      refine r_istore d_X5_number_50 (by decide) ?_
      first
      | exact CpL (t52 w 1 hw (by rw [if_pos (by omega)])) (by repeat (first | exact trivial | refine ⟨rfl, ?_⟩))
      | exact CpL (t52 w 0 hw (by rw [if_neg (by omega)])) (by repeat (first | exact trivial | refine ⟨rfl, ?_⟩))
    · refine r_iload_n d_X5_number_26 rfl ?_
      refine r_bipush d_X5_number_27 (by decide) ?_
      refine r_imul d_X5_number_29 ?_
      refine r_bipush d_X5_number_30 (by decide) ?_
      refine r_iadd d_X5_number_32 ?_
      refine r_iload_n d_X5_number_33 rfl ?_
      refine r_icmp_lt d_X5_number_34 (by omega) (by omega) (fun c34 => ?_) (fun c34 => ?_)
      · refine r_iconst d_X5_number_49 ?_
        refine r_istore d_X5_number_50 (by decide) ?_
        first
        | exact CpL (t52 w 1 hw (by rw [if_pos (by omega)])) (by repeat (first | exact trivial | refine ⟨rfl, ?_⟩))
        | exact CpL (t52 w 0 hw (by rw [if_neg (by omega)])) (by repeat (first | exact trivial | refine ⟨rfl, ?_⟩))
      · refine r_iload_n d_X5_number_37 rfl ?_
        refine r_bipush d_X5_number_38 (by decide) ?_
        refine r_imul d_X5_number_40 ?_
        refine r_iload_n d_X5_number_41 rfl ?_
        refine r_icmp_gt d_X5_number_42 (by omega) (by omega) (fun c42 => ?_) (fun c42 => ?_)
        · refine r_iconst d_X5_number_49 ?_
          refine r_istore d_X5_number_50 (by decide) ?_
          first
          | exact CpL (t52 w 1 hw (by rw [if_pos (by omega)])) (by repeat (first | exact trivial | refine ⟨rfl, ?_⟩))
          | exact CpL (t52 w 0 hw (by rw [if_neg (by omega)])) (by repeat (first | exact trivial | refine ⟨rfl, ?_⟩))
        · refine r_iconst d_X5_number_45 ?_
          refine r_goto d_X5_number_46 ?_
          refine r_istore d_X5_number_50 (by decide) ?_
          first
          | exact CpL (t52 w 1 hw (by rw [if_pos (by omega)])) (by repeat (first | exact trivial | refine ⟨rfl, ?_⟩))
          | exact CpL (t52 w 0 hw (by rw [if_neg (by omega)])) (by repeat (first | exact trivial | refine ⟨rfl, ?_⟩))
  have hdh := c_digitHere (g := g) (Ls := Ls) (tl := tl) (L := L) hP
  rw [← hv] at hdh
  refine r_aload_n d_X5_number_0 rfl ?_
  refine r_V0i d_X5_number_1 (w_X5_121 _ rfl) (tt_4 _ _) rfl rfl (hdh) (by decide) (Nat.le_of_ble_eq_true rfl) (fun z1 T1 I1 L1 R1 h1 => ?_)
  obtain ⟨rfl, rfl, rfl, rfl, rfl⟩ := h1
  refine r_istore_n d_X5_number_4 (by decide) ?_
  refine r_iload_n d_X5_number_5 rfl ?_
  refine r_iload_n d_X5_number_6 rfl ?_
  refine r_icmp_lt d_X5_number_7 (by omega) (by omega) (fun c7 => ?_) (fun c7 => ?_)
  · refine r_iconst d_X5_number_19 ?_
    refine r_istore d_X5_number_20 (by decide) ?_
    first
    | exact CpL (t22 1 (by rw [if_pos (by omega)])) (by repeat (first | exact trivial | refine ⟨rfl, ?_⟩))
    | exact CpL (t22 0 (by rw [if_neg (by omega)])) (by repeat (first | exact trivial | refine ⟨rfl, ?_⟩))
  · refine r_iload_n d_X5_number_10 rfl ?_
    refine r_iload_n d_X5_number_11 rfl ?_
    refine r_icmp_gt d_X5_number_12 (by omega) (by omega) (fun c12 => ?_) (fun c12 => ?_)
    · refine r_iconst d_X5_number_19 ?_
      refine r_istore d_X5_number_20 (by decide) ?_
      first
      | exact CpL (t22 1 (by rw [if_pos (by omega)])) (by repeat (first | exact trivial | refine ⟨rfl, ?_⟩))
      | exact CpL (t22 0 (by rw [if_neg (by omega)])) (by repeat (first | exact trivial | refine ⟨rfl, ?_⟩))
    · refine r_iconst d_X5_number_15 ?_
      refine r_goto d_X5_number_16 ?_
      refine r_istore d_X5_number_20 (by decide) ?_
      first
      | exact CpL (t22 1 (by rw [if_pos (by omega)])) (by repeat (first | exact trivial | refine ⟨rfl, ?_⟩))
      | exact CpL (t22 0 (by rw [if_neg (by omega)])) (by repeat (first | exact trivial | refine ⟨rfl, ?_⟩))
end C62
