def rkS (j : Nat) : Int := 9 ^ (7 - j)
def RKX (L : sI) : Prop := ∀ j, j < 8 → L 2 j = rkS j
/-- what a room that is ready then gains at a guest -/
def gnS (σ : Sg) (ng : Nat) (fm : Nat → Nat) (rd : Int) (r j : Nat) : Int := if j < ng ∧ (fm j).testBit r = true then (44 - (if rd < σ 10 j then σ 10 j else rd)) * σ 13 j * 43046721 + (8 - (r : Int)) * rkS j else 0
theorem rkS_bd : ∀ j, j < 8 → 1 ≤ rkS j ∧ rkS j ≤ 4782969 := by decide
theorem mul_bd {a b A B : Int} (ha : 0 ≤ a ∧ a ≤ A) (hb : 0 ≤ b ∧ b ≤ B) : 0 ≤ a * b ∧ a * b ≤ A * B := ⟨Int.mul_nonneg ha.1 hb.1, Int.mul_le_mul ha.2 hb.2 hb.1 (by omega)⟩
theorem gnS_bd {σ : Sg} {ng : Nat} {fm : Nat → Nat} {rd : Int} {r j : Nat} (hg : ∀ q, q < ng → GV σ q) (hj : j < 8) (hr : r < 8) (hrd : -1 ≤ rd ∧ rd ≤ 44) : 0 ≤ gnS σ ng fm rd r j ∧ gnS σ ng fm rd r j ≤ 17200000000 := by
  unfold gnS
  by_cases h : j < ng ∧ (fm j).testBit r = true
  · rw [if_pos h]
    have hv := hg j h.1
    unfold GV at hv
    have h0 : 0 ≤ 44 - (if rd < σ 10 j then σ 10 j else rd) ∧ 44 - (if rd < σ 10 j then σ 10 j else rd) ≤ 44 := by split <;> omega
    have h1 := mul_bd h0 (show 0 ≤ σ 13 j ∧ σ 13 j ≤ 9 by omega)
    have h2 := rkS_bd j hj
    have h3 := mul_bd (show 0 ≤ 8 - (r : Int) ∧ 8 - (r : Int) ≤ 8 by omega) (show 0 ≤ rkS j ∧ rkS j ≤ 4782969 by omega)
    omega
  · rw [if_neg h]; omega
def FX (ng : Nat) (fm : Nat → Nat) (I : sI) : Prop := ∀ j, j < ng → I 32 j = (fm j : Int) ∧ fm j < 256
section K1
variable {g : sG} {Ls : Nat} {tl : List Nat} {I L : sI} {σ : Sg} {nr ng P : Nat} {fm : Nat → Nat}
theorem c_begin (h1 : I 8 3 = (nr : Int)) (h2 : I 8 5 = (ng : Int)) (h3 : nr ≤ 8 ∧ ng ≤ 8) (hP : P = max ng nr) : Mc g 1 m_X3_begin 0 0 [vr 79] (TT Ls tl) I L (RR tl) (qV fun T' I' L' R' => T' = TT Ls tl ∧ R' = RR tl ∧ I' 79 1 = (P : Int) ∧ (∀ a, ¬ (a = 79 ∨ a = 110) → I' a = I a) ∧ (∀ a, ¬ (a = 90 ∨ a = 100) → L' a = L a) ∧ (∀ j, j < P → L' 90 j = 0 ∧ L' 100 j = 0 ∧ I' 110 j = -1)) := by
  refine Mc_of rfl (Nat.le_of_ble_eq_true rfl) ?_
  have loop : ∀ (k b : Nat) (I1 L1 : sI), b + k = P → I1 79 1 = (P : Int) → (∀ a, ¬ (a = 79 ∨ a = 110) → I1 a = I a) → (∀ a, ¬ (a = 90 ∨ a = 100) → L1 a = L a) → (∀ j, j < b → L1 90 j = 0 ∧ L1 100 j = 0 ∧ I1 110 j = -1) → Cp g 1 m_X3_begin 0 0 (qV fun T' I' L' R' => T' = TT Ls tl ∧ R' = RR tl ∧ I' 79 1 = (P : Int) ∧ (∀ a, ¬ (a = 79 ∨ a = 110) → I' a = I a) ∧ (∀ a, ¬ (a = 90 ∨ a = 100) → L' a = L a) ∧ (∀ j, j < P → L' 90 j = 0 ∧ L' 100 j = 0 ∧ I' 110 j = -1)) 28 [(0, vr 79), (1, vi (b : Int))] [] (TT Ls tl) I1 L1 (RR tl) := by
    intro k
    induction k with
    | zero =>
      intro b I1 L1 hbk hp hf hg hj
      refine r_iload_n d_X3_begin_28 rfl ?_
      refine r_aload_n d_X3_begin_29 rfl ?_
      refine r_geti d_X3_begin_30 f_X3_61 (tt_79 _ _) (by decide) (by decide) ?_
      refine r_icmp_ge d_X3_begin_33 (by omega) (by omega) (fun c33 => ?_) (fun c33 => absurd c33 (by omega))
      refine r_vret d_X3_begin_69 rfl ?_
      exact ⟨rfl, rfl, rfl, hp, hf, hg, fun j hj' => hj j (by omega)⟩
    | succ k ih =>
      intro b I1 L1 hbk hp hf hg hj
      refine r_iload_n d_X3_begin_28 rfl ?_
      refine r_aload_n d_X3_begin_29 rfl ?_
      refine r_geti d_X3_begin_30 f_X3_61 (tt_79 _ _) (by decide) (by decide) ?_
      refine r_icmp_ge d_X3_begin_33 (by omega) (by omega) (fun c33 => absurd c33 (by omega)) (fun c33 => ?_)
      refine r_aload_n d_X3_begin_36 rfl ?_
      refine r_getr d_X3_begin_37 f_X3_16 (tt_79 _ _) (by decide) rfl (rr_79_3 _) ?_
      refine r_iconst d_X3_begin_40 ?_
      refine r_aaldJ (j := 0) d_X3_begin_41 (tt_89 _ _) (by decide) rfl (by omega) (rr2_89 _ (by omega)) (kk := ?_)
      refine r_iload_n d_X3_begin_42 rfl ?_
      refine r_lconst (z := 0) d_X3_begin_43 rfl ?_
      refine r_lastJ d_X3_begin_44 (tt2_89 _ _ (by omega)) (by omega) rfl (by omega) (kk := ?_)
      refine r_aload_n d_X3_begin_45 rfl ?_
      refine r_getr d_X3_begin_46 f_X3_19 (tt_79 _ _) (by decide) rfl (rr_79_4 _) ?_
      refine r_iconst d_X3_begin_49 ?_
      refine r_aaldJ (j := 0) d_X3_begin_50 (tt_99 _ _) (by decide) rfl (by omega) (rr2_99 _ (by omega)) (kk := ?_)
      refine r_iload_n d_X3_begin_51 rfl ?_
      refine r_lconst (z := 0) d_X3_begin_52 rfl ?_
      refine r_lastJ d_X3_begin_53 (tt2_99 _ _ (by omega)) (by omega) rfl (by omega) (kk := ?_)
      refine r_aload_n d_X3_begin_54 rfl ?_
      refine r_getr d_X3_begin_55 f_X3_24 (tt_79 _ _) (by decide) rfl (rr_79_5 _) ?_
      refine r_iconst d_X3_begin_58 ?_
      refine r_aaldJ (j := 0) d_X3_begin_59 (tt_109 _ _) (by decide) rfl (by omega) (rr2_109 _ (by omega)) (kk := ?_)
      refine r_iload_n d_X3_begin_60 rfl ?_
      refine r_iconst d_X3_begin_61 ?_
      refine r_iastJ d_X3_begin_62 (tt2_109 _ _ (by omega)) (by omega) rfl (by omega) (kk := ?_)
      refine r_iinc d_X3_begin_63 rfl (by decide) ?_
      refine r_goto d_X3_begin_66 ?_
      refine CpL (ih (b + 1) _ _ (by omega) ?_ ?_ ?_ ?_) (by repeat (first | exact trivial | refine ⟨rfl, ?_⟩))
      · rw [up2_ne _ _ (by omega)]; exact hp
      · intro a ha; rw [up2_ne _ _ (by omega)]; exact hf a ha
      · intro a ha; rw [up2_ne _ _ (by omega), up2_ne _ _ (by omega)]; exact hg a ha
      · intro j hjb
        by_cases e : j = b
        · subst e
          simp [up2]
        · have := hj j (by omega)
          simp [up2, e, this]
  have hmx : (if (nr : Int) < (ng : Int) then (ng : Int) else (nr : Int)) = (P : Int) := by split <;> omega
  refine r_aload_n d_X3_begin_0 rfl ?_
  refine r_bipush d_X3_begin_1 (by decide) ?_
  refine r_aload_n d_X3_begin_3 rfl ?_
  refine r_getr d_X3_begin_4 f_X3_39 (tt_79 _ _) (by decide) rfl (rr_79_0 _) ?_
  refine r_geti d_X3_begin_7 f_X3_43 (tt_8 _ _) (by decide) (by decide) ?_
  refine r_aload_n d_X3_begin_10 rfl ?_
  refine r_getr d_X3_begin_11 f_X3_39 (tt_79 _ _) (by decide) rfl (rr_79_0 _) ?_
  refine r_geti d_X3_begin_14 f_X3_49 (tt_8 _ _) (by decide) (by decide) ?_
  refine r_mmax d_X3_begin_17 (w_X3_52 _ rfl) (by decide) (Nat.le_of_ble_eq_true rfl) (by omega) (by omega) ?_
  refine r_mmin d_X3_begin_20 (w_X3_58 _ rfl) (by decide) (Nat.le_of_ble_eq_true rfl) (by omega) (by split <;> omega) ?_
  refine r_puti d_X3_begin_23 f_X3_61 (tt_79 _ _) (by decide) (Or.inl rfl) ?_
  refine r_iconst d_X3_begin_26 ?_
  refine r_istore_n d_X3_begin_27 (by decide) ?_
  refine CpL (loop P 0 _ L (by omega) ?_ ?_ (fun _ _ => rfl) (fun j hj => absurd hj (by omega))) (by repeat (first | exact trivial | refine ⟨rfl, ?_⟩))
  · rw [up2_at, h1, h2]
    split <;> split <;> omega
  · intro a ha; rw [up2_ne _ _ (by omega)]
theorem c_keep (h1 : I 79 1 = (P : Int)) (hP : P ≤ 8) {lv : Nat} (hl : lv < 8) : Mc g 1 m_X3_keep 0 0 [vr 79, vi (lv : Int)] (TT Ls tl) I L (RR tl) (qV fun T' I' L' R' => T' = TT Ls tl ∧ R' = RR tl ∧ (∀ a, ¬ a = 111 + lv → I' a = I a) ∧ (∀ a, ¬ (a = 91 + lv ∨ a = 101 + lv) → L' a = L a) ∧ (∀ j, j < P → L' (91 + lv) j = L (90 + lv) j ∧ L' (101 + lv) j = L (100 + lv) j ∧ I' (111 + lv) j = I (110 + lv) j)) := by
  refine Mc_of rfl (Nat.le_of_ble_eq_true rfl) ?_
  refine r_iload_n d_X3_keep_0 rfl ?_
  refine r_bipush d_X3_keep_1 (by decide) ?_
  refine r_SN2i d_X3_keep_3 (w_X3_64 _ rfl) (c_isBelow (by omega) (by omega)) (by decide) (Nat.le_of_ble_eq_true rfl) (fun z3 T3 I3 L3 R3 h3 => ?_)
  obtain ⟨rfl, rfl, rfl, rfl, rfl⟩ := h3
  refine r_if_eq d_X3_keep_6 (by split <;> omega) (fun c6 => absurd c6 (by rw [if_pos (by omega)]; decide)) (fun c6 => ?_)
  refine r_aload_n d_X3_keep_9 rfl ?_
  refine r_getr d_X3_keep_10 f_X3_16 (tt_79 _ _) (by decide) rfl (rr_79_3 _) ?_
  refine r_iload_n d_X3_keep_13 rfl ?_
  refine r_aaldJ d_X3_keep_14 (tt_89 _ _) (by decide) rfl (by omega) (rr2_89 _ (by omega)) (kk := ?_)
  refine r_iconst d_X3_keep_15 ?_
  refine r_aload_n d_X3_keep_16 rfl ?_
  refine r_getr d_X3_keep_17 f_X3_16 (tt_79 _ _) (by decide) rfl (rr_79_3 _) ?_
  refine r_iload_n d_X3_keep_20 rfl ?_
  refine r_iconst d_X3_keep_21 ?_
  refine r_iadd d_X3_keep_22 ?_
  refine r_aaldJ (j := lv + 1) d_X3_keep_23 (tt_89 _ _) (by decide) (by omega) (by omega) (rr2_89 _ (by omega)) (kk := ?_)
  refine r_iconst d_X3_keep_24 ?_
  refine r_aload_n d_X3_keep_25 rfl ?_
  refine r_geti d_X3_keep_26 f_X3_61 (tt_79 _ _) (by decide) (by decide) ?_
  refine r_acpl d_X3_keep_29 (w_X3_68 _ rfl) (by decide) rfl (tt2_89 _ _ (by omega)) (by omega) (tt2_89 _ _ (by omega)) (by omega) (by omega) (by omega) (by decide) ?_
  refine r_aload_n d_X3_keep_32 rfl ?_
  refine r_getr d_X3_keep_33 f_X3_19 (tt_79 _ _) (by decide) rfl (rr_79_4 _) ?_
  refine r_iload_n d_X3_keep_36 rfl ?_
  refine r_aaldJ d_X3_keep_37 (tt_99 _ _) (by decide) rfl (by omega) (rr2_99 _ (by omega)) (kk := ?_)
  refine r_iconst d_X3_keep_38 ?_
  refine r_aload_n d_X3_keep_39 rfl ?_
  refine r_getr d_X3_keep_40 f_X3_19 (tt_79 _ _) (by decide) rfl (rr_79_4 _) ?_
  refine r_iload_n d_X3_keep_43 rfl ?_
  refine r_iconst d_X3_keep_44 ?_
  refine r_iadd d_X3_keep_45 ?_
  refine r_aaldJ (j := lv + 1) d_X3_keep_46 (tt_99 _ _) (by decide) (by omega) (by omega) (rr2_99 _ (by omega)) (kk := ?_)
  refine r_iconst d_X3_keep_47 ?_
  refine r_aload_n d_X3_keep_48 rfl ?_
  refine r_geti d_X3_keep_49 f_X3_61 (tt_79 _ _) (by decide) (by decide) ?_
  refine r_acpl d_X3_keep_52 (w_X3_68 _ rfl) (by decide) rfl (tt2_99 _ _ (by omega)) (by omega) (tt2_99 _ _ (by omega)) (by omega) (by omega) (by omega) (by decide) ?_
  refine r_aload_n d_X3_keep_55 rfl ?_
  refine r_getr d_X3_keep_56 f_X3_24 (tt_79 _ _) (by decide) rfl (rr_79_5 _) ?_
  refine r_iload_n d_X3_keep_59 rfl ?_
  refine r_aaldJ d_X3_keep_60 (tt_109 _ _) (by decide) rfl (by omega) (rr2_109 _ (by omega)) (kk := ?_)
  refine r_iconst d_X3_keep_61 ?_
  refine r_aload_n d_X3_keep_62 rfl ?_
  refine r_getr d_X3_keep_63 f_X3_24 (tt_79 _ _) (by decide) rfl (rr_79_5 _) ?_
  refine r_iload_n d_X3_keep_66 rfl ?_
  refine r_iconst d_X3_keep_67 ?_
  refine r_iadd d_X3_keep_68 ?_
  refine r_aaldJ (j := lv + 1) d_X3_keep_69 (tt_109 _ _) (by decide) (by omega) (by omega) (rr2_109 _ (by omega)) (kk := ?_)
  refine r_iconst d_X3_keep_70 ?_
  refine r_aload_n d_X3_keep_71 rfl ?_
  refine r_geti d_X3_keep_72 f_X3_61 (tt_79 _ _) (by decide) (by decide) ?_
  refine r_acpi d_X3_keep_75 (w_X3_68 _ rfl) (by decide) rfl (tt2_109 _ _ (by omega)) (by omega) (tt2_109 _ _ (by omega)) (by omega) (by omega) (by omega) (by decide) ?_
  refine r_vret d_X3_keep_78 rfl ?_
  refine ⟨rfl, rfl, rfl, ?_, ?_, ?_⟩
  · intro a ha
    rw [cpy2_ne (by omega)]
  · intro a ha
    rw [cpy2_ne (by omega), cpy2_ne (by omega)]
  · intro j hj
    have hj0 : j < ((P : Int)).toNat := by omega
    have n1 : ¬ 90 + (lv + 1) = 100 + (lv + 1) := by omega
    simp [cpy2, h1, hj, show 91 + lv = 90 + (lv + 1) by omega, show 101 + lv = 100 + (lv + 1) by omega, show 111 + lv = 110 + (lv + 1) by omega]
    intro h; omega
theorem c_weigh (h1 : I 79 1 = (P : Int)) (hP : P ≤ 8) (h2 : I 8 5 = (ng : Int)) (h8 : ng ≤ 8) (hg : ∀ q, q < ng → GV σ q) (hI : ∀ q, q < ng → ∀ k, k < 4 → I (23 + q) k = σ (10 + k) q) (hF : FX ng fm I) (hR : RKX L) {r : Nat} {rd : Int} (hr : r < 8) (hrd : -1 ≤ rd ∧ rd ≤ 44) : Mc g 1 m_X3_weigh 0 0 [vr 79, vi (r : Int), vi rd] (TT Ls tl) I L (RR tl) (qV fun T' I' L' R' => T' = TT Ls tl ∧ R' = RR tl ∧ I' = I ∧ (∀ a, ¬ a = 81 + r → L' a = L a) ∧ (∀ j, j < P → L' (81 + r) j = gnS σ ng fm rd r j)) := by
  refine Mc_of rfl (Nat.le_of_ble_eq_true rfl) ?_
  have loop : ∀ (k b : Nat) (L1 : sI), b + k = P → (∀ a, ¬ a = 81 + r → L1 a = L a) → (∀ j, j < b → L1 (81 + r) j = gnS σ ng fm rd r j) → Cp g 1 m_X3_weigh 0 0 (qV fun T' I' L' R' => T' = TT Ls tl ∧ R' = RR tl ∧ I' = I ∧ (∀ a, ¬ a = 81 + r → L' a = L a) ∧ (∀ j, j < P → L' (81 + r) j = gnS σ ng fm rd r j)) 2 [(0, vr 79), (1, vi (r : Int)), (2, vi rd), (3, vi (b : Int))] [] (TT Ls tl) I L1 (RR tl) := by
    intro k
    induction k with
    | zero =>
      intro b L1 hbk hf hj
      refine r_iload_n d_X3_weigh_2 rfl ?_
      refine r_aload_n d_X3_weigh_3 rfl ?_
      refine r_geti d_X3_weigh_4 f_X3_61 (tt_79 _ _) (by decide) (by decide) ?_
      refine r_icmp_ge d_X3_weigh_7 (by omega) (by omega) (fun c7 => ?_) (fun c7 => absurd c7 (by omega))
      refine r_vret d_X3_weigh_109 rfl ?_
      exact ⟨rfl, rfl, rfl, rfl, hf, fun j hj' => hj j (by omega)⟩
    | succ k ih =>
      intro b L1 hbk hf hj
      have nxt : ∀ L2 : sI, (∀ a, ¬ a = 81 + r → L2 a = L a) → (∀ j, j ≠ b → L2 (81 + r) j = L1 (81 + r) j) → L2 (81 + r) b = gnS σ ng fm rd r b → (∀ a, ¬ a = 81 + r → L2 a = L a) ∧ (∀ j, j < b + 1 → L2 (81 + r) j = gnS σ ng fm rd r j) := fun L2 q1 q2 q3 => ⟨q1, fun j hjb => by
        by_cases e : j = b
        · rw [e]; exact q3
        · rw [q2 j e]; exact hj j (by omega)⟩
      have skp : ¬ (b < ng ∧ (fm b).testBit r = true) → (∀ a, ¬ a = 81 + r → (up2 L1 (81 + r) b 0) a = L a) ∧ (∀ j, j < b + 1 → (up2 L1 (81 + r) b 0) (81 + r) j = gnS σ ng fm rd r j) := fun h => nxt _ (fun a ha => by rw [up2_ne _ _ ha]; exact hf a ha) (fun j hj => up2_nj _ _ hj) (by rw [up2_at]; unfold gnS; rw [if_neg h])
      refine r_iload_n d_X3_weigh_2 rfl ?_
      refine r_aload_n d_X3_weigh_3 rfl ?_
      refine r_geti d_X3_weigh_4 f_X3_61 (tt_79 _ _) (by decide) (by decide) ?_
      refine r_icmp_ge d_X3_weigh_7 (by omega) (by omega) (fun c7 => absurd c7 (by omega)) (fun c7 => ?_)
      refine r_aload_n d_X3_weigh_10 rfl ?_
      refine r_getr d_X3_weigh_11 f_X3_11 (tt_79 _ _) (by decide) rfl (rr_79_2 _) ?_
      refine r_iload_n d_X3_weigh_14 rfl ?_
      refine r_aaldJ d_X3_weigh_15 (tt_80 _ _) (by decide) rfl (by omega) (rr2_80 _ (by omega)) (kk := ?_)
      refine r_iload_n d_X3_weigh_16 rfl ?_
      refine r_lconst (z := 0) d_X3_weigh_17 rfl ?_
      refine r_lastJ d_X3_weigh_18 (tt2_80 _ _ (by omega)) (by omega) rfl (by omega) (kk := ?_)
      refine r_iload_n d_X3_weigh_19 rfl ?_
      refine r_aload_n d_X3_weigh_20 rfl ?_
      refine r_getr d_X3_weigh_21 f_X3_39 (tt_79 _ _) (by decide) rfl (rr_79_0 _) ?_
      refine r_geti d_X3_weigh_24 f_X3_43 (tt_8 _ _) (by decide) (by decide) ?_
      refine r_icmp_ge d_X3_weigh_27 (by omega) (by omega) (fun c27 => ?_) (fun c27 => ?_)
      · obtain ⟨s1, s2⟩ := skp (by omega)
        skip
        refine r_iinc d_X3_weigh_103 rfl (by decide) ?_
        refine r_goto d_X3_weigh_106 ?_
        first
        | exact CpL (ih (b + 1) _ (by omega) s1 s2) (by repeat (first | exact trivial | refine ⟨rfl, ?_⟩))
        | (refine CpL (ih (b + 1) _ (by omega) (fun a ha => ?_) (fun j hjb => ?_)) (by repeat (first | exact trivial | refine ⟨rfl, ?_⟩))
           · rw [up2_ne _ _ ha, up2_ne _ _ ha]; exact hf a ha
           · by_cases e : j = b
             · rw [e, up2_at]
               have eg : gnS σ ng fm rd r b = (44 - (if rd < σ 10 b then σ 10 b else rd)) * σ 13 b * 43046721 + (8 - (r : Int)) * rkS b := by unfold gnS; exact if_pos ⟨hbn, htb⟩
               rw [eg, up2_ne _ _ (by omega), hf 2 (by omega), hR b (by omega)]
             · rw [up2_nj _ _ e, up2_nj _ _ e]; exact hj j (by omega))
      · have hbn : b < ng := by omega
        obtain ⟨ef, hfm⟩ := hF b hbn
        have et : sand (sshr (I 32 b) (r : Int)) 1 = if (fm b).testBit r then 1 else 0 := by rw [ef]; exact bit_tst (by omega) (by omega)
        have hv := hg b hbn
        unfold GV at hv
        have e10 : I (23 + b) 0 = σ 10 b := hI b hbn 0 (by omega)
        have e13 : I (23 + b) 3 = σ 13 b := hI b hbn 3 (by omega)
        refine r_aload_n d_X3_weigh_30 rfl ?_
        refine r_getr d_X3_weigh_31 f_X3_39 (tt_79 _ _) (by decide) rfl (rr_79_0 _) ?_
        refine r_getr d_X3_weigh_34 f_X3_92 (tt_8 _ _) (by decide) rfl (rr_8_8 _) ?_
        refine r_iload_n d_X3_weigh_37 rfl ?_
        refine r_ialdJ d_X3_weigh_38 (tt_32 _ _) rfl (by omega) (kk := ?_)
        refine r_iload_n d_X3_weigh_39 rfl ?_
        refine r_ishr d_X3_weigh_40 ?_
        refine r_iconst d_X3_weigh_41 ?_
        refine r_iand d_X3_weigh_42 ?_
        refine r_iconst d_X3_weigh_43 ?_
        refine r_icmp_ne d_X3_weigh_44 (by rw [et]; split <;> omega) (by omega) (fun c44 => ?_) (fun c44 => ?_)
        · obtain ⟨s1, s2⟩ := skp (fun q => c44 (by rw [et, if_pos q.2]))
          skip
          refine r_iinc d_X3_weigh_103 rfl (by decide) ?_
          refine r_goto d_X3_weigh_106 ?_
          first
          | exact CpL (ih (b + 1) _ (by omega) s1 s2) (by repeat (first | exact trivial | refine ⟨rfl, ?_⟩))
          | (refine CpL (ih (b + 1) _ (by omega) (fun a ha => ?_) (fun j hjb => ?_)) (by repeat (first | exact trivial | refine ⟨rfl, ?_⟩))
             · rw [up2_ne _ _ ha, up2_ne _ _ ha]; exact hf a ha
             · by_cases e : j = b
               · rw [e, up2_at]
                 have eg : gnS σ ng fm rd r b = (44 - (if rd < σ 10 b then σ 10 b else rd)) * σ 13 b * 43046721 + (8 - (r : Int)) * rkS b := by unfold gnS; exact if_pos ⟨hbn, htb⟩
                 rw [eg, up2_ne _ _ (by omega), hf 2 (by omega), hR b (by omega)]
               · rw [up2_nj _ _ e, up2_nj _ _ e]; exact hj j (by omega))
        · have htb : (fm b).testBit r = true := by
            cases q : (fm b).testBit r with
            | true => rfl
            | false => rw [et, q] at c44; exact absurd c44 (by decide)
          have h0 : 0 ≤ 44 - (if rd < σ 10 b then σ 10 b else rd) ∧ 44 - (if rd < σ 10 b then σ 10 b else rd) ≤ 44 := by split <;> omega
          have h9 := mul_bd h0 (show 0 ≤ σ 13 b ∧ σ 13 b ≤ 9 by omega)
          refine r_aload_n d_X3_weigh_47 rfl ?_
          refine r_getr d_X3_weigh_48 f_X3_39 (tt_79 _ _) (by decide) rfl (rr_79_0 _) ?_
          refine r_getr d_X3_weigh_51 f_X3_95 (tt_8 _ _) (by decide) rfl (rr_8_2 _) ?_
          refine r_iload_n d_X3_weigh_54 rfl ?_
          refine r_aaldJ d_X3_weigh_55 (tt_22 _ _) (by decide) rfl (by omega) (rr2_22 _ (by omega)) (kk := ?_)
          refine r_astore d_X3_weigh_56 (by decide) ?_
          refine r_bipush d_X3_weigh_58 (by decide) ?_
          refine r_iload_n d_X3_weigh_60 rfl ?_
          refine r_aload d_X3_weigh_61 rfl ?_
          refine r_iconst d_X3_weigh_63 ?_
          refine r_ialdJ (j := 0) d_X3_weigh_64 (tt2_22 _ _ (by omega)) rfl (by omega) (kk := ?_)
          refine r_mmax d_X3_weigh_65 (w_X3_52 _ rfl) (by decide) (Nat.le_of_ble_eq_true rfl) (by omega) (by omega) ?_
          refine r_isub d_X3_weigh_68 ?_
          refine r_aload d_X3_weigh_69 rfl ?_
          refine r_iconst d_X3_weigh_71 ?_
          refine r_ialdJ (j := 3) d_X3_weigh_72 (tt2_22 _ _ (by omega)) rfl (by omega) (kk := ?_)
          refine r_imul d_X3_weigh_73 ?_
          refine r_istore d_X3_weigh_74 (by decide) ?_
          refine r_aload_n d_X3_weigh_76 rfl ?_
          refine r_getr d_X3_weigh_77 f_X3_11 (tt_79 _ _) (by decide) rfl (rr_79_2 _) ?_
          refine r_iload_n d_X3_weigh_80 rfl ?_
          refine r_aaldJ d_X3_weigh_81 (tt_80 _ _) (by decide) rfl (by omega) (rr2_80 _ (by omega)) (kk := ?_)
          refine r_iload_n d_X3_weigh_82 rfl ?_
          refine r_iload d_X3_weigh_83 rfl ?_
          rw [e10, e13]
          refine r_i2l d_X3_weigh_85 (by omega) ?_
          refine r_ldc2 d_X3_weigh_86 (k_X3_98 _ rfl) ?_
          refine r_lmul d_X3_weigh_89 ?_
          refine r_bipush d_X3_weigh_90 (by decide) ?_
          refine r_iload_n d_X3_weigh_92 rfl ?_
          refine r_isub d_X3_weigh_93 ?_
          refine r_i2l d_X3_weigh_94 (by omega) ?_
          refine r_getsR d_X3_weigh_95 (s_X3_100 _ rfl) ?_
          refine r_iload_n d_X3_weigh_98 rfl ?_
          refine r_laldJ d_X3_weigh_99 (tt_2 _ _) rfl (by omega) (kk := ?_)
          refine r_lmul d_X3_weigh_100 ?_
          refine r_ladd d_X3_weigh_101 ?_
          refine r_lastJ d_X3_weigh_102 (tt2_80 _ _ (by omega)) (by omega) rfl (by omega) (kk := ?_)
          skip
          refine r_iinc d_X3_weigh_103 rfl (by decide) ?_
          refine r_goto d_X3_weigh_106 ?_
          first
          | exact CpL (ih (b + 1) _ (by omega) s1 s2) (by repeat (first | exact trivial | refine ⟨rfl, ?_⟩))
          | (refine CpL (ih (b + 1) _ (by omega) (fun a ha => ?_) (fun j hjb => ?_)) (by repeat (first | exact trivial | refine ⟨rfl, ?_⟩))
             · rw [up2_ne _ _ ha, up2_ne _ _ ha]; exact hf a ha
             · by_cases e : j = b
               · rw [e, up2_at]
                 have eg : gnS σ ng fm rd r b = (44 - (if rd < σ 10 b then σ 10 b else rd)) * σ 13 b * 43046721 + (8 - (r : Int)) * rkS b := by unfold gnS; exact if_pos ⟨hbn, htb⟩
                 rw [eg, up2_ne _ _ (by omega), hf 2 (by omega), hR b (by omega)]
               · rw [up2_nj _ _ e, up2_nj _ _ e]; exact hj j (by omega))
  refine r_iconst d_X3_weigh_0 ?_
  refine r_istore_n d_X3_weigh_1 (by decide) ?_
  exact CpL (loop P 0 L (by omega) (fun _ _ => rfl) (fun j hj => absurd hj (by omega))) (by repeat (first | exact trivial | refine ⟨rfl, ?_⟩))
end K1
