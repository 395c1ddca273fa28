/-- what is counted -/
def cntS (σ : Sg) (nr nw ng nu : Nat) (pl q what : Int) : Int := if what = 0 then (nr : Int) else if what = 1 then (nw : Int) else if what = 2 then (ng : Int) else if what = 3 then (nu : Int) else if what = 4 then pl else if what = 5 then (chn σ nr : Int) else if what = 6 then (ltn σ nr : Int) else if what = 7 then q else -102
def asA (kd kind : Int) : Bool := decide (kind = 0 ∨ kind = kd ∨ (kind = 2 ∧ (kd = 2 ∨ kd = 3 ∨ kd = 4)))
def asR (n : Nat) (ukd : Nat → Int) (rule kind : Int) : Int := if 0 ≤ rule ∧ rule < n then (if 0 ≤ kind ∧ kind ≤ 6 then (if asA (ukd rule.toNat) kind = true then rule else -1) else -102) else -101
def aRestore (σ : Sg) (ℓ : Int) (nr : Nat) (kept : Int) (xi : Nat → Int) (ℓi z : Int) (x : Nat → Int) (ℓ' : Int) : Prop := (kept = 0 → z = -103 ∧ x = σ 6 ∧ ℓ' = ℓ) ∧ (kept ≠ 0 → z = (ltn (lateS σ xi) nr : Int) ∧ x = xi ∧ ℓ' = ℓi)
section C60
variable {g : sG} {Ls : Nat} {tl : List Nat} {I L : sI} {σ : Sg} {ℓ : Int} {nr nw ng : Nat} {ukd unn : Nat → Int} {utr utw : Nat → Nat → Nat}
theorem c_blank : Mc g 0 m_X7_blank 0 0 [vr 3] (TT Ls tl) I L (RR tl) (qI fun z T' I' L' R' => z = I 4 1 ∧ TT Ls tl = T' ∧ I' = up2 I 4 1 0 ∧ L = L' ∧ RR tl = R') := by
  refine Mc_of rfl (Nat.le_of_ble_eq_true rfl) ?_
  refine r_aload_n d_X7_blank_0 rfl ?_
  refine r_getr d_X7_blank_1 f_X7_10 (tt_3 _ _) (by decide) rfl (rr_3_0 _) ?_
  refine r_geti d_X7_blank_4 f_X7_68 (tt_4 _ _) (by decide) (by decide) ?_
  refine r_istore_n d_X7_blank_7 (by decide) ?_
  refine r_aload_n d_X7_blank_8 rfl ?_
  refine r_getr d_X7_blank_9 f_X7_10 (tt_3 _ _) (by decide) rfl (rr_3_0 _) ?_
  refine r_iconst d_X7_blank_12 ?_
  refine r_puti d_X7_blank_13 f_X7_68 (tt_4 _ _) (by decide) (Or.inl rfl) ?_
  refine r_iload_n d_X7_blank_16 rfl ?_
  refine r_iret d_X7_blank_17 rfl ?_
  exact ⟨_, rfl, rfl, rfl, rfl, rfl, rfl⟩
theorem c_isA {q tn : Nat} {kd nn kind : Int} {tr tw : Nat → Nat} (hU : UX tl q kd nn tr tw tn I) (hk : 0 ≤ kind ∧ kind ≤ 6) : Mc g 0 m_X6_isA 0 0 [vr (186 + 3 * q), vi kind] (TT Ls tl) I L (RR tl) (qI fun z T' I' L' R' => z = (if asA kd kind = true then 1 else 0) ∧ same (TT Ls tl) I L (RR tl) T' I' L' R') := by
  refine Mc_of rfl (Nat.le_of_ble_eq_true rfl) ?_
  have hq := hU.1
  have ek : I (186 + 3 * q) 0 = kd := hU.2.2.1
  have hkd := hU.2.2.2.2.1
  have fin : ∀ z : Int, z = (if asA kd kind = true then 1 else 0) → (qI fun z T' I' L' R' => z = (if asA kd kind = true then 1 else 0) ∧ same (TT Ls tl) I L (RR tl) T' I' L' R') (some (vi z)) (TT Ls tl) I L (RR tl) := fun z h => ⟨_, rfl, h, same_rf⟩
  unfold asA at fin ⊢
  have tail : ∀ b : Int, b = (if kd = 2 ∨ kd = 3 ∨ kd = 4 then 1 else 0) → Cp g 0 m_X6_isA 0 0 (qI fun z T' I' L' R' => z = (if decide (kind = 0 ∨ kind = kd ∨ (kind = 2 ∧ (kd = 2 ∨ kd = 3 ∨ kd = 4))) = true then 1 else 0) ∧ same (TT Ls tl) I L (RR tl) T' I' L' R') 30 [(0, vr (186 + 3 * q)), (1, vi kind), (2, vi b)] [] (TT Ls tl) I L (RR tl) := by
    intro b hb
    have hb2 : b = 0 ∨ b = 1 := by rw [hb]; split <;> omega
    have hb3 : b ≠ 0 → (kd = 2 ∨ kd = 3 ∨ kd = 4) := fun h => Classical.byContradiction (fun q => h (by rw [hb, if_neg q]))
    have hb4 : b = 0 → ¬ (kd = 2 ∨ kd = 3 ∨ kd = 4) := fun h q => by rw [if_pos q] at hb; omega
    refine r_iload_n d_X6_isA_30 rfl ?_
    refine r_if_eq d_X6_isA_31 (by omega) (fun c31 => ?_) (fun c31 => ?_)
    · refine r_iconst d_X6_isA_51 ?_
      refine r_goto d_X6_isA_52 ?_
      refine r_zret d_X6_isA_56 rfl (by omega) ?_
      first
      | exact fin _ (by rw [if_pos (by rw [decide_eq_true_iff]; omega)])
      | exact fin _ (by rw [if_pos (by rw [decide_eq_true_iff]; have := hb3 c48; omega)])
      | exact fin _ (by rw [if_neg (by rw [decide_eq_true_iff]; omega)])
      | exact fin _ (by rw [if_neg (by rw [decide_eq_true_iff]; have := hb4 c48; omega)])
    · refine r_iload_n d_X6_isA_34 rfl ?_
      refine r_aload_n d_X6_isA_35 rfl ?_
      refine r_geti d_X6_isA_36 f_X6_9 (ttr_0 hq) (by decide) (by decide) ?_
      rw [ek]
      refine r_icmp_eq d_X6_isA_39 (by omega) (by omega) (fun c39 => ?_) (fun c39 => ?_)
      · refine r_iconst d_X6_isA_51 ?_
        refine r_goto d_X6_isA_52 ?_
        refine r_zret d_X6_isA_56 rfl (by omega) ?_
        first
        | exact fin _ (by rw [if_pos (by rw [decide_eq_true_iff]; omega)])
        | exact fin _ (by rw [if_pos (by rw [decide_eq_true_iff]; have := hb3 c48; omega)])
        | exact fin _ (by rw [if_neg (by rw [decide_eq_true_iff]; omega)])
        | exact fin _ (by rw [if_neg (by rw [decide_eq_true_iff]; have := hb4 c48; omega)])
      · refine r_iload_n d_X6_isA_42 rfl ?_
        refine r_iconst d_X6_isA_43 ?_
        refine r_icmp_ne d_X6_isA_44 (by omega) (by omega) (fun c44 => ?_) (fun c44 => ?_)
        · refine r_iconst d_X6_isA_55 ?_
          refine r_zret d_X6_isA_56 rfl (by omega) ?_
          first
          | exact fin _ (by rw [if_pos (by rw [decide_eq_true_iff]; omega)])
          | exact fin _ (by rw [if_pos (by rw [decide_eq_true_iff]; have := hb3 c48; omega)])
          | exact fin _ (by rw [if_neg (by rw [decide_eq_true_iff]; omega)])
          | exact fin _ (by rw [if_neg (by rw [decide_eq_true_iff]; have := hb4 c48; omega)])
        · refine r_iload_n d_X6_isA_47 rfl ?_
          refine r_if_eq d_X6_isA_48 (by omega) (fun c48 => ?_) (fun c48 => ?_)
          · refine r_iconst d_X6_isA_55 ?_
            refine r_zret d_X6_isA_56 rfl (by omega) ?_
            first
            | exact fin _ (by rw [if_pos (by rw [decide_eq_true_iff]; omega)])
            | exact fin _ (by rw [if_pos (by rw [decide_eq_true_iff]; have := hb3 c48; omega)])
            | exact fin _ (by rw [if_neg (by rw [decide_eq_true_iff]; omega)])
            | exact fin _ (by rw [if_neg (by rw [decide_eq_true_iff]; have := hb4 c48; omega)])
          · refine r_iconst d_X6_isA_51 ?_
            refine r_goto d_X6_isA_52 ?_
            refine r_zret d_X6_isA_56 rfl (by omega) ?_
            first
            | exact fin _ (by rw [if_pos (by rw [decide_eq_true_iff]; omega)])
            | exact fin _ (by rw [if_pos (by rw [decide_eq_true_iff]; have := hb3 c48; omega)])
            | exact fin _ (by rw [if_neg (by rw [decide_eq_true_iff]; omega)])
            | exact fin _ (by rw [if_neg (by rw [decide_eq_true_iff]; have := hb4 c48; omega)])
  refine r_aload_n d_X6_isA_0 rfl ?_
  refine r_geti d_X6_isA_1 f_X6_9 (ttr_0 hq) (by decide) (by decide) ?_
  rw [ek]
  refine r_iconst d_X6_isA_4 ?_
  refine r_icmp_eq d_X6_isA_5 (by omega) (by omega) (fun c5 => ?_) (fun c5 => ?_)
  · refine r_iconst d_X6_isA_24 ?_
    refine r_goto d_X6_isA_25 ?_
    refine r_istore_n d_X6_isA_29 (by decide) ?_
    first
    | exact CpL (tail 1 (by rw [if_pos (by omega)])) (by repeat (first | exact trivial | refine ⟨rfl, ?_⟩))
    | exact CpL (tail 0 (by rw [if_neg (by omega)])) (by repeat (first | exact trivial | refine ⟨rfl, ?_⟩))
  · refine r_aload_n d_X6_isA_8 rfl ?_
    refine r_geti d_X6_isA_9 f_X6_9 (ttr_0 hq) (by decide) (by decide) ?_
    rw [ek]
    refine r_iconst d_X6_isA_12 ?_
    refine r_icmp_eq d_X6_isA_13 (by omega) (by omega) (fun c13 => ?_) (fun c13 => ?_)
    · refine r_iconst d_X6_isA_24 ?_
      refine r_goto d_X6_isA_25 ?_
      refine r_istore_n d_X6_isA_29 (by decide) ?_
      first
      | exact CpL (tail 1 (by rw [if_pos (by omega)])) (by repeat (first | exact trivial | refine ⟨rfl, ?_⟩))
      | exact CpL (tail 0 (by rw [if_neg (by omega)])) (by repeat (first | exact trivial | refine ⟨rfl, ?_⟩))
    · refine r_aload_n d_X6_isA_16 rfl ?_
      refine r_geti d_X6_isA_17 f_X6_9 (ttr_0 hq) (by decide) (by decide) ?_
      rw [ek]
      refine r_iconst d_X6_isA_20 ?_
      refine r_icmp_ne d_X6_isA_21 (by omega) (by omega) (fun c21 => ?_) (fun c21 => ?_)
      · refine r_iconst d_X6_isA_28 ?_
        refine r_istore_n d_X6_isA_29 (by decide) ?_
        first
        | exact CpL (tail 1 (by rw [if_pos (by omega)])) (by repeat (first | exact trivial | refine ⟨rfl, ?_⟩))
        | exact CpL (tail 0 (by rw [if_neg (by omega)])) (by repeat (first | exact trivial | refine ⟨rfl, ?_⟩))
      · refine r_iconst d_X6_isA_24 ?_
        refine r_goto d_X6_isA_25 ?_
        refine r_istore_n d_X6_isA_29 (by decide) ?_
        first
        | exact CpL (tail 1 (by rw [if_pos (by omega)])) (by repeat (first | exact trivial | refine ⟨rfl, ?_⟩))
        | exact CpL (tail 0 (by rw [if_neg (by omega)])) (by repeat (first | exact trivial | refine ⟨rfl, ?_⟩))
theorem c_as (hX : XS σ ℓ nr nw ng tl ukd unn utr utw I L) {rule kind : Int} (hr : i32 rule) (hk : i32 kind) : Mc g 2 m_X7_as 0 0 [vr 3, vi rule, vi kind] (TT Ls tl) I L (RR tl) (qI fun z T' I' L' R' => z = asR tl.length ukd rule kind ∧ same (TT Ls tl) I L (RR tl) T' I' L' R') := by
  refine Mc_of rfl (Nat.le_of_ble_eq_true rfl) ?_
  obtain ⟨hB, hR⟩ := id hX
  have hc1 := c_isRule (g := g) (Ls := Ls) (tl := tl) (I := I) (L := L) hR.1 hR.2.1 hr
  have hl8 := hR.2.1
  have hkk : -2147483648 ≤ kind ∧ kind ≤ 2147483647 := hk
  unfold asR
  by_cases k1 : 0 ≤ rule ∧ rule < tl.length
  · rw [if_pos k1] at hc1 ⊢
    obtain ⟨u, rfl⟩ : ∃ u : Nat, rule = (u : Int) := ⟨rule.toNat, by omega⟩
    have hu : u < tl.length := by omega
    have hU := hR.2.2 u hu
    have hql := hU.1
    rw [Int.toNat_natCast]
    by_cases k2 : 0 ≤ kind ∧ kind ≤ 6
    · rw [if_pos k2]
      have hA := c_isA (g := g) (Ls := Ls) (L := L) hU k2
      by_cases k3 : asA (ukd u) kind = true
      · rw [if_pos k3] at hA ⊢
        refine r_aload_n d_X7_as_0 rfl ?_
        refine r_iload_n d_X7_as_1 rfl ?_
        refine r_V1i d_X7_as_2 (w_X7_114 _ rfl) (tt_3 _ _) rfl rfl (hc1) (by decide) (Nat.le_of_ble_eq_true rfl) (fun z2 T2 I2 L2 R2 h2 => ?_)
        obtain ⟨rfl, rfl, rfl, rfl, rfl⟩ := h2
        refine r_if_ne d_X7_as_5 (by omega) (fun c5 => ?_) (fun c5 => absurd c5 (by decide))
        refine r_iload_n d_X7_as_11 rfl ?_
        refine r_if_lt d_X7_as_12 (by omega) (fun c12 => absurd c12 (by omega)) (fun c12 => ?_)
        refine r_iload_n d_X7_as_15 rfl ?_
        refine r_bipush d_X7_as_16 (by decide) ?_
        refine r_icmp_le d_X7_as_18 (by omega) (by omega) (fun c18 => ?_) (fun c18 => absurd c18 (by omega))
        refine r_aload_n d_X7_as_24 rfl ?_
        refine r_getr d_X7_as_25 f_X7_28 (tt_3 _ _) (by decide) rfl (rr_3_3 _) ?_
        refine r_iload_n d_X7_as_28 rfl ?_
        refine r_aaldJ d_X7_as_29 (tt_62 _ _) (by decide) rfl (by omega) (rrr_62 (by exact hu)) (kk := ?_)
        refine r_iload_n d_X7_as_30 rfl ?_
        refine r_V1i d_X7_as_31 (w_X7_118 _ rfl) (ttr_0 hql) rfl rfl (hA) (by decide) (Nat.le_of_ble_eq_true rfl) (fun z31 T31 I31 L31 R31 h31 => ?_)
        obtain ⟨rfl, rfl, rfl, rfl, rfl⟩ := h31
        refine r_if_eq d_X7_as_34 (by omega) (fun c34 => absurd c34 (by decide)) (fun c34 => ?_)
        refine r_iload_n d_X7_as_37 rfl ?_
        refine r_goto d_X7_as_38 ?_
        refine r_iret d_X7_as_42 rfl ?_
        exact ⟨_, rfl, rfl, same_rf⟩
      · rw [if_neg k3] at hA ⊢
        refine r_aload_n d_X7_as_0 rfl ?_
        refine r_iload_n d_X7_as_1 rfl ?_
        refine r_V1i d_X7_as_2 (w_X7_114 _ rfl) (tt_3 _ _) rfl rfl (hc1) (by decide) (Nat.le_of_ble_eq_true rfl) (fun z2 T2 I2 L2 R2 h2 => ?_)
        obtain ⟨rfl, rfl, rfl, rfl, rfl⟩ := h2
        refine r_if_ne d_X7_as_5 (by omega) (fun c5 => ?_) (fun c5 => absurd c5 (by decide))
        refine r_iload_n d_X7_as_11 rfl ?_
        refine r_if_lt d_X7_as_12 (by omega) (fun c12 => absurd c12 (by omega)) (fun c12 => ?_)
        refine r_iload_n d_X7_as_15 rfl ?_
        refine r_bipush d_X7_as_16 (by decide) ?_
        refine r_icmp_le d_X7_as_18 (by omega) (by omega) (fun c18 => ?_) (fun c18 => absurd c18 (by omega))
        refine r_aload_n d_X7_as_24 rfl ?_
        refine r_getr d_X7_as_25 f_X7_28 (tt_3 _ _) (by decide) rfl (rr_3_3 _) ?_
        refine r_iload_n d_X7_as_28 rfl ?_
        refine r_aaldJ d_X7_as_29 (tt_62 _ _) (by decide) rfl (by omega) (rrr_62 (by exact hu)) (kk := ?_)
        refine r_iload_n d_X7_as_30 rfl ?_
        refine r_V1i d_X7_as_31 (w_X7_118 _ rfl) (ttr_0 hql) rfl rfl (hA) (by decide) (Nat.le_of_ble_eq_true rfl) (fun z31 T31 I31 L31 R31 h31 => ?_)
        obtain ⟨rfl, rfl, rfl, rfl, rfl⟩ := h31
        refine r_if_eq d_X7_as_34 (by omega) (fun c34 => ?_) (fun c34 => absurd c34 (by decide))
        refine r_iconst d_X7_as_41 ?_
        refine r_iret d_X7_as_42 rfl ?_
        exact ⟨_, rfl, rfl, same_rf⟩
    · rw [if_neg k2]
      refine r_aload_n d_X7_as_0 rfl ?_
      refine r_iload_n d_X7_as_1 rfl ?_
      refine r_V1i d_X7_as_2 (w_X7_114 _ rfl) (tt_3 _ _) rfl rfl (hc1) (by decide) (Nat.le_of_ble_eq_true rfl) (fun z2 T2 I2 L2 R2 h2 => ?_)
      obtain ⟨rfl, rfl, rfl, rfl, rfl⟩ := h2
      refine r_if_ne d_X7_as_5 (by omega) (fun c5 => ?_) (fun c5 => absurd c5 (by decide))
      refine r_iload_n d_X7_as_11 rfl ?_
      refine r_if_lt d_X7_as_12 (by omega) (fun c12 => ?_) (fun c12 => ?_)
      · refine r_bipush d_X7_as_21 (by decide) ?_
        refine r_iret d_X7_as_23 rfl ?_
        exact ⟨_, rfl, rfl, same_rf⟩
      · refine r_iload_n d_X7_as_15 rfl ?_
        refine r_bipush d_X7_as_16 (by decide) ?_
        refine r_icmp_le d_X7_as_18 (by omega) (by omega) (fun c18 => absurd c18 (by omega)) (fun c18 => ?_)
        refine r_bipush d_X7_as_21 (by decide) ?_
        refine r_iret d_X7_as_23 rfl ?_
        exact ⟨_, rfl, rfl, same_rf⟩
  · rw [if_neg k1] at hc1 ⊢
    refine r_aload_n d_X7_as_0 rfl ?_
    refine r_iload_n d_X7_as_1 rfl ?_
    refine r_V1i d_X7_as_2 (w_X7_114 _ rfl) (tt_3 _ _) rfl rfl (hc1) (by decide) (Nat.le_of_ble_eq_true rfl) (fun z2 T2 I2 L2 R2 h2 => ?_)
    obtain ⟨rfl, rfl, rfl, rfl, rfl⟩ := h2
    refine r_if_ne d_X7_as_5 (by omega) (fun c5 => absurd c5 (by decide)) (fun c5 => ?_)
    refine r_bipush d_X7_as_8 (by decide) ?_
    refine r_iret d_X7_as_10 rfl ?_
    exact ⟨_, rfl, rfl, same_rf⟩
theorem c_count (hX : XS σ ℓ nr nw ng tl ukd unn utr utw I L) {what : Int} (hw : i32 what) : Mc g 1 m_X7_count 0 0 [vr 3, vi what] (TT Ls tl) I L (RR tl) (qI fun z T' I' L' R' => z = cntS σ nr nw ng tl.length (I 4 1) (I 3 12) what ∧ same (TT Ls tl) I L (RR tl) T' I' L' R') := by
  refine Mc_of rfl (Nat.le_of_ble_eq_true rfl) ?_
  obtain ⟨hB, hR⟩ := id hX
  obtain ⟨b1, b2, b3, b4, b5, b6, b7, b8⟩ := id hB
  obtain ⟨Q, hQ⟩ : ∃ Q : sQ, Q = (qI fun z T' I' L' R' => z = cntS σ nr nw ng tl.length (I 4 1) (I 3 12) what ∧ same (TT Ls tl) I L (RR tl) T' I' L' R') := ⟨_, rfl⟩
  have fin : ∀ z : Int, z = cntS σ nr nw ng tl.length (I 4 1) (I 3 12) what → Q (some (vi z)) (TT Ls tl) I L (RR tl) := fun z h => by rw [hQ]; exact ⟨_, rfl, h, same_rf⟩
  unfold cntS at fin
  rw [← hQ]
  have k0 : what = 0 → Cp g 1 m_X7_count 0 0 Q 48 [(0, vr 3), (1, vi what)] [] (TT Ls tl) I L (RR tl) := by
    intro h
    refine r_aload_n d_X7_count_48 rfl ?_
    refine r_getr d_X7_count_49 f_X7_19 (tt_3 _ _) (by decide) rfl (rr_3_1 _) ?_
    refine r_geti d_X7_count_52 f_X7_94 (tt_8 _ _) (by decide) (by decide) ?_
    refine r_iret d_X7_count_55 rfl ?_
    exact fin _ (by rw [if_pos (by omega)]; exact b3.1)
  have k1 : what = 1 → Cp g 1 m_X7_count 0 0 Q 56 [(0, vr 3), (1, vi what)] [] (TT Ls tl) I L (RR tl) := by
    intro h
    refine r_aload_n d_X7_count_56 rfl ?_
    refine r_getr d_X7_count_57 f_X7_19 (tt_3 _ _) (by decide) rfl (rr_3_1 _) ?_
    refine r_geti d_X7_count_60 f_X7_132 (tt_8 _ _) (by decide) (by decide) ?_
    refine r_iret d_X7_count_63 rfl ?_
    exact fin _ (by rw [if_neg (by omega), if_pos (by omega)]; exact b3.2.1)
  have k2 : what = 2 → Cp g 1 m_X7_count 0 0 Q 64 [(0, vr 3), (1, vi what)] [] (TT Ls tl) I L (RR tl) := by
    intro h
    refine r_aload_n d_X7_count_64 rfl ?_
    refine r_getr d_X7_count_65 f_X7_19 (tt_3 _ _) (by decide) rfl (rr_3_1 _) ?_
    refine r_geti d_X7_count_68 f_X7_276 (tt_8 _ _) (by decide) (by decide) ?_
    refine r_iret d_X7_count_71 rfl ?_
    exact fin _ (by rw [if_neg (by omega), if_neg (by omega), if_pos (by omega)]; exact b3.2.2.1)
  have k3 : what = 3 → Cp g 1 m_X7_count 0 0 Q 72 [(0, vr 3), (1, vi what)] [] (TT Ls tl) I L (RR tl) := by
    intro h
    refine r_aload_n d_X7_count_72 rfl ?_
    refine r_geti d_X7_count_73 f_X7_97 (tt_3 _ _) (by decide) (by decide) ?_
    refine r_iret d_X7_count_76 rfl ?_
    exact fin _ (by rw [if_neg (by omega), if_neg (by omega), if_neg (by omega), if_pos (by omega)]; exact hR.1)
  have k4 : what = 4 → Cp g 1 m_X7_count 0 0 Q 77 [(0, vr 3), (1, vi what)] [] (TT Ls tl) I L (RR tl) := by
    intro h
    refine r_aload_n d_X7_count_77 rfl ?_
    refine r_getr d_X7_count_78 f_X7_10 (tt_3 _ _) (by decide) rfl (rr_3_0 _) ?_
    refine r_geti d_X7_count_81 f_X7_68 (tt_4 _ _) (by decide) (by decide) ?_
    refine r_iret d_X7_count_84 rfl ?_
    exact fin _ (by rw [if_neg (by omega), if_neg (by omega), if_neg (by omega), if_neg (by omega), if_pos (by omega)])
  have k5 : what = 5 → Cp g 1 m_X7_count 0 0 Q 85 [(0, vr 3), (1, vi what)] [] (TT Ls tl) I L (RR tl) := by
    intro h
    refine r_aload_n d_X7_count_85 rfl ?_
    refine r_getr d_X7_count_86 f_X7_19 (tt_3 _ _) (by decide) rfl (rr_3_1 _) ?_
    refine r_geti d_X7_count_89 f_X7_228 (tt_8 _ _) (by decide) (by decide) ?_
    refine r_iret d_X7_count_92 rfl ?_
    exact fin _ (by rw [if_neg (by omega), if_neg (by omega), if_neg (by omega), if_neg (by omega), if_neg (by omega), if_pos (by omega)]; exact b3.2.2.2.1)
  have k6 : what = 6 → Cp g 1 m_X7_count 0 0 Q 93 [(0, vr 3), (1, vi what)] [] (TT Ls tl) I L (RR tl) := by
    intro h
    refine r_aload_n d_X7_count_93 rfl ?_
    refine r_getr d_X7_count_94 f_X7_19 (tt_3 _ _) (by decide) rfl (rr_3_1 _) ?_
    refine r_V0i d_X7_count_97 (w_X7_273 _ rfl) (tt_8 _ _) rfl rfl (c_lateCount b1 b3) (by decide) (Nat.le_of_ble_eq_true rfl) (fun z97 T97 I97 L97 R97 h97 => ?_)
    obtain ⟨rfl, rfl, rfl, rfl, rfl⟩ := h97
    refine r_iret d_X7_count_100 rfl ?_
    exact fin _ (by rw [if_neg (by omega), if_neg (by omega), if_neg (by omega), if_neg (by omega), if_neg (by omega), if_neg (by omega), if_pos (by omega)])
  have k7 : what = 7 → Cp g 1 m_X7_count 0 0 Q 101 [(0, vr 3), (1, vi what)] [] (TT Ls tl) I L (RR tl) := by
    intro h
    refine r_aload_n d_X7_count_101 rfl ?_
    refine r_geti d_X7_count_102 f_X7_244 (tt_3 _ _) (by decide) (by decide) ?_
    refine r_iret d_X7_count_105 rfl ?_
    exact fin _ (by rw [if_neg (by omega), if_neg (by omega), if_neg (by omega), if_neg (by omega), if_neg (by omega), if_neg (by omega), if_neg (by omega), if_pos (by omega)])
  refine r_iload_n d_X7_count_0 rfl ?_
  refine r_sw d_X7_count_1 (by exact hw) (fun h1 h2 => ?_) (fun h => ?_)
  · have hc : what = 0 ∨ what = 1 ∨ what = 2 ∨ what = 3 ∨ what = 4 ∨ what = 5 ∨ what = 6 ∨ what = 7 := by omega
    rcases hc with hc | hc | hc | hc | hc | hc | hc | hc
    · rw [show (what - 0).toNat = 0 by omega]; exact k0 hc
    · rw [show (what - 0).toNat = 1 by omega]; exact k1 hc
    · rw [show (what - 0).toNat = 2 by omega]; exact k2 hc
    · rw [show (what - 0).toNat = 3 by omega]; exact k3 hc
    · rw [show (what - 0).toNat = 4 by omega]; exact k4 hc
    · rw [show (what - 0).toNat = 5 by omega]; exact k5 hc
    · rw [show (what - 0).toNat = 6 by omega]; exact k6 hc
    · rw [show (what - 0).toNat = 7 by omega]; exact k7 hc
  · refine r_bipush d_X7_count_106 (by decide) ?_
    refine r_iret d_X7_count_108 rfl ?_
    exact fin _ (by rw [if_neg (by omega), if_neg (by omega), if_neg (by omega), if_neg (by omega), if_neg (by omega), if_neg (by omega), if_neg (by omega), if_neg (by omega)])
theorem c_image (hX : XS σ ℓ nr nw ng tl ukd unn utr utw I L) : Mc g 1 m_X7_image 0 0 [vr 3] (TT Ls tl) I L (RR tl) (qI fun z T' I' L' R' => T' = TT Ls tl ∧ R' = RR tl ∧ L' = L ∧ (∀ a, a ≠ 3 → a ≠ 138 → I' a = I a) ∧ (∀ k, k ≠ 10 → k ≠ 11 → I' 3 k = I 3 k) ∧ XS σ ℓ nr nw ng tl ukd unn utr utw I' L' ∧ (¬ 0 < nr → z = -103 ∧ I' = I) ∧ (0 < nr → z = (ltn σ nr : Int) ∧ I' 3 10 = ℓ ∧ I' 3 11 = 1 ∧ ∀ r, r < nr → I' 138 r = σ 6 r)) := by
  refine Mc_of rfl (Nat.le_of_ble_eq_true rfl) ?_
  obtain ⟨hB, hR⟩ := id hX
  obtain ⟨b1, b2, b3, b4, b5, b6, b7, b8⟩ := id hB
  obtain ⟨v1, v2, v3, v4, v5, v6, v7⟩ := id b1
  have e3 : I 8 3 = (nr : Int) := b3.1
  have hc2 := c_isHoused (g := g) (Ls := Ls) (tl := tl) (I := I) (L := L) (by omega)
  rw [e3] at hc2
  by_cases k2 : 0 < nr
  · rw [if_pos (by omega)] at hc2
    obtain ⟨Q, hQ⟩ : ∃ Q : sQ, Q = (qI fun z T' I' L' R' => T' = TT Ls tl ∧ R' = RR tl ∧ L' = L ∧ (∀ a, a ≠ 3 → a ≠ 138 → I' a = I a) ∧ (∀ k, k ≠ 10 → k ≠ 11 → I' 3 k = I 3 k) ∧ XS σ ℓ nr nw ng tl ukd unn utr utw I' L' ∧ (¬ 0 < nr → z = -103 ∧ I' = I) ∧ (0 < nr → z = (ltn σ nr : Int) ∧ I' 3 10 = ℓ ∧ I' 3 11 = 1 ∧ ∀ r, r < nr → I' 138 r = σ 6 r)) := ⟨_, rfl⟩
    rw [← hQ]
    have loop : ∀ (k b : Nat) (I1 : sI), b + k = nr → (∀ a, a ≠ 138 → I1 a = I a) → (∀ r, r < b → I1 138 r = σ 6 r) → Cp g 1 m_X7_image 0 0 Q 12 [(0, vr 3), (1, vi (b : Int))] [] (TT Ls tl) I1 L (RR tl) := by
      intro k
      induction k with
      | zero =>
        intro b I1 hbk f hr
        have e31 : I1 8 3 = (nr : Int) := by rw [f 8 (by omega)]; exact e3
        have e63 : I1 63 0 = ℓ := by rw [f 63 (by omega)]; exact b5.2.2.1
        have hX2 : XS σ ℓ nr nw ng tl ukd unn utr utw (up2 (up2 I1 3 10 ℓ) 3 11 1) L := XS_off hX (fun a ha => by rw [up2_ne _ _ (by omega), up2_ne _ _ (by omega), f a (by omega)]) (by rw [up2_nj _ _ (by omega), up2_nj _ _ (by omega), f 3 (by omega)]) rfl
        refine r_iload_n d_X7_image_12 rfl ?_
        refine r_aload_n d_X7_image_13 rfl ?_
        refine r_getr d_X7_image_14 f_X7_19 (tt_3 _ _) (by decide) rfl (rr_3_1 _) ?_
        refine r_geti d_X7_image_17 f_X7_94 (tt_8 _ _) (by decide) (by decide) ?_
        refine r_icmp_ge d_X7_image_20 (by omega) (by omega) (fun c20 => ?_) (fun c20 => absurd c20 (by omega))
        refine r_aload_n d_X7_image_47 rfl ?_
        refine r_aload_n d_X7_image_48 rfl ?_
        refine r_getr d_X7_image_49 f_X7_37 (tt_3 _ _) (by decide) rfl (rr_3_5 _) ?_
        refine r_geti d_X7_image_52 f_X7_147 (tt_63 _ _) (by decide) (by decide) ?_
        rw [e63]
        refine r_puti d_X7_image_55 f_X7_270 (tt_3 _ _) (by decide) (Or.inl rfl) ?_
        refine r_aload_n d_X7_image_58 rfl ?_
        refine r_iconst d_X7_image_59 ?_
        refine r_puti d_X7_image_60 f_X7_87 (tt_3 _ _) (by decide) (Or.inr ⟨rfl, by omega⟩) ?_
        refine r_aload_n d_X7_image_63 rfl ?_
        refine r_getr d_X7_image_64 f_X7_19 (tt_3 _ _) (by decide) rfl (rr_3_1 _) ?_
        refine r_V0i d_X7_image_67 (w_X7_273 _ rfl) (tt_8 _ _) rfl rfl (c_lateCount b1 hX2.1.2.2.1) (by decide) (Nat.le_of_ble_eq_true rfl) (fun z67 T67 I67 L67 R67 h67 => ?_)
        obtain ⟨rfl, rfl, rfl, rfl, rfl⟩ := h67
        refine r_iret d_X7_image_70 rfl ?_
        rw [hQ]
        refine ⟨_, rfl, rfl, rfl, rfl, fun a h1 h2 => ?_, fun k h1 h2 => ?_, hX2, fun h => absurd k2 h, fun _ => ⟨rfl, ?_, up2_at _ _ _ _, fun r hr2 => ?_⟩⟩
        · rw [up2_ne _ _ h1, up2_ne _ _ h1]; exact f a h2
        · rw [up2_nj _ _ h2, up2_nj _ _ h1, f 3 (by omega)]
        · rw [up2_nj _ _ (by omega), up2_at]
        · rw [up2_ne _ _ (by omega), up2_ne _ _ (by omega)]; exact hr r (by omega)
      | succ k ih =>
        intro b I1 hbk f hr
        have e31 : I1 8 3 = (nr : Int) := by rw [f 8 (by omega)]; exact e3
        have e6 : I1 (10 + b) 6 = σ 6 b := by rw [f (10 + b) (by omega)]; exact HXr b3 (by omega) (by omega)
        refine r_iload_n d_X7_image_12 rfl ?_
        refine r_aload_n d_X7_image_13 rfl ?_
        refine r_getr d_X7_image_14 f_X7_19 (tt_3 _ _) (by decide) rfl (rr_3_1 _) ?_
        refine r_geti d_X7_image_17 f_X7_94 (tt_8 _ _) (by decide) (by decide) ?_
        refine r_icmp_ge d_X7_image_20 (by omega) (by omega) (fun c20 => absurd c20 (by omega)) (fun c20 => ?_)
        refine r_aload_n d_X7_image_23 rfl ?_
        refine r_getr d_X7_image_24 f_X7_61 (tt_3 _ _) (by decide) rfl (rr_3_9 _) ?_
        refine r_iload_n d_X7_image_27 rfl ?_
        refine r_aload_n d_X7_image_28 rfl ?_
        refine r_getr d_X7_image_29 f_X7_19 (tt_3 _ _) (by decide) rfl (rr_3_1 _) ?_
        refine r_getr d_X7_image_32 f_X7_128 (tt_8 _ _) (by decide) rfl (rr_8_0 _) ?_
        refine r_iload_n d_X7_image_35 rfl ?_
        refine r_aaldJ d_X7_image_36 (tt_9 _ _) (by decide) rfl (by omega) (rr2_9 _ (by omega)) (kk := ?_)
        refine r_bipush d_X7_image_37 (by decide) ?_
        refine r_ialdJ (j := 6) d_X7_image_39 (tt2_9 _ _ (by omega)) rfl (by omega) (kk := ?_)
        rw [e6]
        refine r_iastJ d_X7_image_40 (tt_138 _ _) (by omega) rfl (by omega) (kk := ?_)
        refine r_iinc d_X7_image_41 rfl (by decide) ?_
        refine r_goto d_X7_image_44 ?_
        refine CpL (ih (b + 1) _ (by omega) (fun a ha => ?_) (fun r hr2 => ?_)) (by repeat (first | exact trivial | refine ⟨rfl, ?_⟩))
        · rw [up2_ne _ _ ha]; exact f a ha
        · by_cases e : r = b
          · rw [e]; exact up2_at _ _ _ _
          · rw [up2_nj _ _ e]; exact hr r (by omega)
    refine r_aload_n d_X7_image_0 rfl ?_
    refine r_V0i d_X7_image_1 (w_X7_157 _ rfl) (tt_3 _ _) rfl rfl (hc2) (by decide) (Nat.le_of_ble_eq_true rfl) (fun z1 T1 I1 L1 R1 h1 => ?_)
    obtain ⟨rfl, rfl, rfl, rfl, rfl⟩ := h1
    refine r_if_ne d_X7_image_4 (by omega) (fun c4 => ?_) (fun c4 => absurd c4 (by decide))
    refine r_iconst d_X7_image_10 ?_
    refine r_istore_n d_X7_image_11 (by decide) ?_
    exact CpL (loop nr 0 I (by omega) (fun _ _ => rfl) (fun r h => absurd h (by omega))) (by repeat (first | exact trivial | refine ⟨rfl, ?_⟩))
  · rw [if_neg (by omega)] at hc2
    refine r_aload_n d_X7_image_0 rfl ?_
    refine r_V0i d_X7_image_1 (w_X7_157 _ rfl) (tt_3 _ _) rfl rfl (hc2) (by decide) (Nat.le_of_ble_eq_true rfl) (fun z1 T1 I1 L1 R1 h1 => ?_)
    obtain ⟨rfl, rfl, rfl, rfl, rfl⟩ := h1
    refine r_if_ne d_X7_image_4 (by omega) (fun c4 => absurd c4 (by decide)) (fun c4 => ?_)
    refine r_bipush d_X7_image_7 (by decide) ?_
    refine r_iret d_X7_image_9 rfl ?_
    exact ⟨_, rfl, rfl, rfl, rfl, fun _ _ _ => rfl, fun _ _ _ => rfl, hX, fun _ => ⟨rfl, rfl⟩, fun h => absurd h k2⟩
theorem c_restore (hX : XS σ ℓ nr nw ng tl ukd unn utr utw I L) {kept ℓi : Int} {xi : Nat → Int} (hk : I 3 11 = kept) (hk2 : kept = 0 ∨ kept = 1) (hx : kept ≠ 0 → I 3 10 = ℓi ∧ (1 ≤ ℓi ∧ ℓi ≤ 6) ∧ ∀ r, r < nr → I 138 r = xi r ∧ -1 ≤ xi r ∧ xi r ≤ 44) : Mc g 1 m_X7_restore 0 0 [vr 3] (TT Ls tl) I L (RR tl) (AL σ nr nw ng Ls tl ukd unn utr utw I L (aRestore σ ℓ nr kept xi ℓi)) := by
  refine Mc_of rfl (Nat.le_of_ble_eq_true rfl) ?_
  obtain ⟨hB, hR⟩ := id hX
  obtain ⟨b1, b2, b3, b4, b5, b6, b7, b8⟩ := id hB
  obtain ⟨v1, v2, v3, v4, v5, v6, v7⟩ := id b1
  have e3 : I 8 3 = (nr : Int) := b3.1
  by_cases k2 : kept = 0
  · skip
    refine r_aload_n d_X7_restore_0 rfl ?_
    refine r_geti d_X7_restore_1 f_X7_87 (tt_3 _ _) (by decide) (by decide) ?_
    rw [hk]
    refine r_if_ne d_X7_restore_4 (by omega) (fun c4 => absurd c4 (by omega)) (fun c4 => ?_)
    refine r_bipush d_X7_restore_7 (by decide) ?_
    refine r_iret d_X7_restore_9 rfl ?_
    exact ⟨_, rfl, rfl, rfl, fun _ _ _ _ => rfl, rfl, σ 6, ℓ, by rw [lateS_id]; exact hX, fun _ => ⟨rfl, rfl, rfl⟩, fun h => absurd k2 h⟩
  · obtain ⟨y1, y2, y3⟩ := hx k2
    obtain ⟨Q, hQ⟩ : ∃ Q : sQ, Q = AL σ nr nw ng Ls tl ukd unn utr utw I L (aRestore σ ℓ nr kept xi ℓi) := ⟨_, rfl⟩
    rw [← hQ]
    have loop : ∀ (k b : Nat) (I1 : sI), b + k = nr → (∀ a, (a < 10 ∨ 18 ≤ a) → I1 a = I a) → (∀ r, r < nr → ∀ k, k ≠ 6 → I1 (10 + r) k = I (10 + r) k) → (∀ r, r < b → I1 (10 + r) 6 = xi r) → Cp g 1 m_X7_restore 0 0 Q 12 [(0, vr 3), (1, vi (b : Int))] [] (TT Ls tl) I1 L (RR tl) := by
      intro k
      induction k with
      | zero =>
        intro b I1 hbk f fr hr
        have hb : b = nr := by omega
        have e31 : I1 8 3 = (nr : Int) := by rw [f 8 (by omega)]; exact e3
        have e10 : I1 3 10 = ℓi := by rw [f 3 (by omega)]; exact y1
        refine r_iload_n d_X7_restore_12 rfl ?_
        refine r_aload_n d_X7_restore_13 rfl ?_
        refine r_getr d_X7_restore_14 f_X7_19 (tt_3 _ _) (by decide) rfl (rr_3_1 _) ?_
        refine r_geti d_X7_restore_17 f_X7_94 (tt_8 _ _) (by decide) (by decide) ?_
        refine r_icmp_ge d_X7_restore_20 (by omega) (by omega) (fun c20 => ?_) (fun c20 => absurd c20 (by omega))
        refine r_aload_n d_X7_restore_47 rfl ?_
        refine r_getr d_X7_restore_48 f_X7_37 (tt_3 _ _) (by decide) rfl (rr_3_5 _) ?_
        refine r_aload_n d_X7_restore_51 rfl ?_
        refine r_geti d_X7_restore_52 f_X7_270 (tt_3 _ _) (by decide) (by decide) ?_
        rw [e10]
        refine r_puti d_X7_restore_55 f_X7_147 (tt_63 _ _) (by decide) (Or.inl rfl) ?_
        refine r_aload_n d_X7_restore_58 rfl ?_
        refine r_getr d_X7_restore_59 f_X7_53 (tt_3 _ _) (by decide) rfl (rr_3_7 _) ?_
        refine r_V0v d_X7_restore_62 (w_X7_144 _ rfl) (tt_122 _ _) rfl rfl (c_forget) (by decide) (Nat.le_of_ble_eq_true rfl) (fun T62 I62 L62 R62 h62 => ?_)
        obtain ⟨rfl, rfl, rfl, k1, k2', k3⟩ := h62
        have hX2 : XS (lateS σ xi) ℓi nr nw ng tl ukd unn utr utw I62 L62 := by
          refine XS_late hX (fun r hr => (y3 r hr).2) y2 (fun a h1 h2 h3 => ?_) (fun r hr2 => ⟨fun k hk => ?_, ?_⟩) ?_ (fun k hk => ?_) k2' k3
          · rw [k1 a h3, up2_ne _ _ h2]; exact f a h1
          · rw [k1 (10 + r) (by omega), up2_ne _ _ (by omega)]; exact fr r hr2 k hk
          · rw [k1 (10 + r) (by omega), up2_ne _ _ (by omega)]; exact hr r (by omega)
          · rw [k1 63 (by omega)]; exact up2_at _ _ _ _
          · rw [k1 63 (by omega), up2_nj _ _ hk, f 63 (by omega)]
        refine r_aload_n d_X7_restore_65 rfl ?_
        refine r_getr d_X7_restore_66 f_X7_19 (tt_3 _ _) (by decide) rfl (rr_3_1 _) ?_
        refine r_V0i d_X7_restore_69 (w_X7_273 _ rfl) (tt_8 _ _) rfl rfl (c_lateCount hX2.1.1 hX2.1.2.2.1) (by decide) (Nat.le_of_ble_eq_true rfl) (fun z69 T69 I69 L69 R69 h69 => ?_)
        obtain ⟨rfl, rfl, rfl, rfl, rfl⟩ := h69
        refine r_iret d_X7_restore_72 rfl ?_
        rw [hQ]
        refine ⟨_, rfl, rfl, rfl, fun a h1 h2 h3 => ?_, rfl, xi, ℓi, hX2, fun h => absurd h k2, fun _ => ⟨rfl, rfl, rfl⟩⟩
        rw [k1 a h3, up2_ne _ _ h2]; exact f a h1
      | succ k ih =>
        intro b I1 hbk f fr hr
        have e31 : I1 8 3 = (nr : Int) := by rw [f 8 (by omega)]; exact e3
        have e6 : I1 138 b = xi b := by rw [f 138 (by omega)]; exact (y3 b (by omega)).1
        refine r_iload_n d_X7_restore_12 rfl ?_
        refine r_aload_n d_X7_restore_13 rfl ?_
        refine r_getr d_X7_restore_14 f_X7_19 (tt_3 _ _) (by decide) rfl (rr_3_1 _) ?_
        refine r_geti d_X7_restore_17 f_X7_94 (tt_8 _ _) (by decide) (by decide) ?_
        refine r_icmp_ge d_X7_restore_20 (by omega) (by omega) (fun c20 => absurd c20 (by omega)) (fun c20 => ?_)
        refine r_aload_n d_X7_restore_23 rfl ?_
        refine r_getr d_X7_restore_24 f_X7_19 (tt_3 _ _) (by decide) rfl (rr_3_1 _) ?_
        refine r_getr d_X7_restore_27 f_X7_128 (tt_8 _ _) (by decide) rfl (rr_8_0 _) ?_
        refine r_iload_n d_X7_restore_30 rfl ?_
        refine r_aaldJ d_X7_restore_31 (tt_9 _ _) (by decide) rfl (by omega) (rr2_9 _ (by omega)) (kk := ?_)
        refine r_bipush d_X7_restore_32 (by decide) ?_
        refine r_aload_n d_X7_restore_34 rfl ?_
        refine r_getr d_X7_restore_35 f_X7_61 (tt_3 _ _) (by decide) rfl (rr_3_9 _) ?_
        refine r_iload_n d_X7_restore_38 rfl ?_
        refine r_ialdJ d_X7_restore_39 (tt_138 _ _) rfl (by omega) (kk := ?_)
        rw [e6]
        refine r_iastJ (j := 6) d_X7_restore_40 (tt2_9 _ _ (by omega)) (by omega) rfl (by omega) (kk := ?_)
        refine r_iinc d_X7_restore_41 rfl (by decide) ?_
        refine r_goto d_X7_restore_44 ?_
        refine CpL (ih (b + 1) _ (by omega) (fun a ha => ?_) (fun r hr2 k hk => ?_) (fun r hr2 => ?_)) (by repeat (first | exact trivial | refine ⟨rfl, ?_⟩))
        · rw [up2_ne _ _ (by omega)]; exact f a ha
        · rw [up2_nj _ _ hk]; exact fr r hr2 k hk
        · by_cases e : r = b
          · rw [e]; exact up2_at _ _ _ _
          · rw [up2_ne _ _ (by omega)]; exact hr r (by omega)
    refine r_aload_n d_X7_restore_0 rfl ?_
    refine r_geti d_X7_restore_1 f_X7_87 (tt_3 _ _) (by decide) (by decide) ?_
    rw [hk]
    refine r_if_ne d_X7_restore_4 (by omega) (fun c4 => ?_) (fun c4 => absurd c4 (by omega))
    refine r_iconst d_X7_restore_10 ?_
    refine r_istore_n d_X7_restore_11 (by decide) ?_
    exact CpL (loop nr 0 I (by omega) (fun _ _ => rfl) (fun _ _ _ _ => rfl) (fun r h => absurd h (by omega))) (by repeat (first | exact trivial | refine ⟨rfl, ?_⟩))
end C60
