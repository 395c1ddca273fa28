/-! the reference: its house, its women, its day -/
def MX (σ : Sg) (nr nW ng : Nat) (I : sI) : Prop := I 139 0 = (nr : Int) ∧ I 139 12 = (ng : Int) ∧ (∀ r, r < nr → ∀ k, k < 7 → I (140 + k) r = σ k r) ∧ (∀ w, w < nW → ∀ k, k < 3 → I (147 + k) w = σ (7 + k) w) ∧ (∀ q, q < ng → ∀ k, k < 4 → I (150 + k) q = σ (10 + k) q)
def MV (σ : Sg) (ℓ : Int) (nr nW ng : Nat) : Prop := SV σ ℓ nr nW ∧ ng ≤ 8 ∧ (∀ q, q < ng → GV σ q) ∧ chn σ nr ≤ 3
def MK (ℓ ab : Int) (nW : Nat) (I : sI) : Prop := I 139 17 = ℓ ∧ I 139 55 = ab ∧ I 139 56 = (nW : Int)
def DM (δ : Sg) (nr nW : Nat) (I : sI) : Prop := (∀ r, r < nr → I 174 r = δ 0 r ∧ I 177 r = δ 1 r ∧ I 178 r = δ 2 r ∧ I 179 r = δ 3 r) ∧ (∀ w, w < nW → I 176 w = δ 4 w ∧ I 175 w = δ 5 w)
theorem MX_fr {σ : Sg} {nr nW ng : Nat} {I I' : sI} (h : MX σ nr nW ng I) (f : ∀ a, 140 ≤ a → a < 154 → I' a = I a) (f0 : I' 139 0 = I 139 0) (f12 : I' 139 12 = I 139 12) : MX σ nr nW ng I' := by
  obtain ⟨h1, h2, h3, h4, h5⟩ := h
  exact ⟨by rw [f0]; exact h1, by rw [f12]; exact h2, fun r hr k hk => by rw [f (140 + k) (by omega) (by omega)]; exact h3 r hr k hk, fun w hw k hk => by rw [f (147 + k) (by omega) (by omega)]; exact h4 w hw k hk, fun q hq k hk => by rw [f (150 + k) (by omega) (by omega)]; exact h5 q hq k hk⟩
theorem MX_frb {σ : Sg} {nr nW ng : Nat} {I I' : sI} {lo hi : Nat} (h : MX σ nr nW ng I) (f : frb lo hi I I') (hlo : 154 ≤ lo) : MX σ nr nW ng I' := MX_fr h (fun a h1 h2 => f a (by omega)) (by rw [f 139 (by omega)]) (by rw [f 139 (by omega)])
theorem MK_frb {ℓ ab : Int} {nW : Nat} {I I' : sI} {lo hi : Nat} (h : MK ℓ ab nW I) (f : frb lo hi I I') (hlo : 140 ≤ lo) : MK ℓ ab nW I' := by
  unfold MK
  rw [f 139 (by omega)]; exact h
section X75
variable {g : sG} {Ls : Nat} {tl : List Nat} {T : sT} {R : sR} {I L : sI} {σ δ : Sg} {ℓ ab : Int} {nr nW ng : Nat}
theorem x_within {a lo hi : Int} (ha : -2147483648 ≤ a ∧ a ≤ 2147483647) (hl : -2147483648 ≤ lo ∧ lo ≤ 2147483647) (hh : -2147483648 ≤ hi ∧ hi ≤ 2147483647) : Mc g 0 m_X8_within 0 0 [vi a, vi lo, vi hi] T I L R (qI fun z T' I' L' R' => z = (if lo ≤ a ∧ a ≤ hi then 1 else 0) ∧ same T I L R T' I' L' R') := by
  refine Mc_of rfl (Nat.le_of_ble_eq_true rfl) ?_
  refine r_iload_n d_X8_within_0 rfl ?_
  refine r_iload_n d_X8_within_1 rfl ?_
  refine r_icmp_lt d_X8_within_2 (by omega) (by omega) (fun c2 => ?_) (fun c2 => ?_)
  · refine r_iconst d_X8_within_14 ?_
    refine r_zret d_X8_within_15 rfl (by omega) ?_
    exact ⟨_, rfl, by first | rw [if_pos (by omega)] | rw [if_neg (by omega)], same_rf⟩
  · refine r_iload_n d_X8_within_5 rfl ?_
    refine r_iload_n d_X8_within_6 rfl ?_
    refine r_icmp_gt d_X8_within_7 (by omega) (by omega) (fun c7 => ?_) (fun c7 => ?_)
    · refine r_iconst d_X8_within_14 ?_
      refine r_zret d_X8_within_15 rfl (by omega) ?_
      exact ⟨_, rfl, by first | rw [if_pos (by omega)] | rw [if_neg (by omega)], same_rf⟩
    · refine r_iconst d_X8_within_10 ?_
      refine r_goto d_X8_within_11 ?_
      refine r_zret d_X8_within_15 rfl (by omega) ?_
      exact ⟨_, rfl, by first | rw [if_pos (by omega)] | rw [if_neg (by omega)], same_rf⟩
theorem x_size {a : Int} (ha : -2147483647 ≤ a ∧ a ≤ 2147483647) : Mc g 0 m_X8_size 0 0 [vi a] T I L R (qI fun z T' I' L' R' => z = absI a ∧ same T I L R T' I' L' R') := by
  refine Mc_of rfl (Nat.le_of_ble_eq_true rfl) ?_
  unfold absI
  refine r_iload_n d_X8_size_0 rfl ?_
  refine r_if_ge d_X8_size_1 (by omega) (fun c1 => ?_) (fun c1 => ?_)
  · refine r_iload_n d_X8_size_9 rfl ?_
    refine r_iret d_X8_size_10 rfl ?_
    exact ⟨_, rfl, by first | rw [if_pos (by omega)] | rw [if_neg (by omega)], same_rf⟩
  · refine r_iload_n d_X8_size_4 rfl ?_
    refine r_ineg d_X8_size_5 ?_
    refine r_goto d_X8_size_6 ?_
    refine r_iret d_X8_size_10 rfl ?_
    exact ⟨_, rfl, by first | rw [if_pos (by omega)] | rw [if_neg (by omega)], same_rf⟩
theorem x_greater {a b : Int} (ha : -2147483648 ≤ a ∧ a ≤ 2147483647) (hb : -2147483648 ≤ b ∧ b ≤ 2147483647) : Mc g 0 m_X8_greater 0 0 [vi a, vi b] T I L R (qI fun z T' I' L' R' => z = (if a < b then b else a) ∧ same T I L R T' I' L' R') := by
  refine Mc_of rfl (Nat.le_of_ble_eq_true rfl) ?_
  refine r_iload_n d_X8_greater_0 rfl ?_
  refine r_iload_n d_X8_greater_1 rfl ?_
  refine r_icmp_le d_X8_greater_2 (by omega) (by omega) (fun c2 => ?_) (fun c2 => ?_)
  · refine r_iload_n d_X8_greater_9 rfl ?_
    refine r_iret d_X8_greater_10 rfl ?_
    exact ⟨_, rfl, by first | rw [if_pos (by omega)] | rw [if_neg (by omega)] | (split <;> omega), same_rf⟩
  · refine r_iload_n d_X8_greater_5 rfl ?_
    refine r_goto d_X8_greater_6 ?_
    refine r_iret d_X8_greater_10 rfl ?_
    exact ⟨_, rfl, by first | rw [if_pos (by omega)] | rw [if_neg (by omega)] | (split <;> omega), same_rf⟩
theorem x_isGiving {a : Int} (ha : -2147483648 ≤ a ∧ a ≤ 2147483647) : Mc g 1 m_X8_isGiving 0 0 [vi a] T I L R (qI fun z T' I' L' R' => z = (if a = 0 ∨ a = 1 then 1 else 0) ∧ same T I L R T' I' L' R') := by
  refine Mc_of rfl (Nat.le_of_ble_eq_true rfl) ?_
  refine r_iload_n d_X8_isGiving_0 rfl ?_
  refine r_iconst d_X8_isGiving_1 ?_
  refine r_iconst d_X8_isGiving_2 ?_
  refine r_S3i d_X8_isGiving_3 (w_X8_162 _ rfl) (x_within ha (by omega) (by omega)) (by decide) (Nat.le_of_ble_eq_true rfl) (fun z3 T3 I3 L3 R3 h3 => ?_)
  obtain ⟨rfl, rfl, rfl, rfl, rfl⟩ := h3
  refine r_zret d_X8_isGiving_6 rfl (by split <;> omega) ?_
  refine ⟨_, rfl, ?_, same_rf⟩
  by_cases h : a = 0 ∨ a = 1
  · rw [if_pos h, if_pos (by omega)]
  · rw [if_neg h, if_neg (by omega)]
theorem x_asWay {a : Int} (ha : -2147483648 ≤ a ∧ a ≤ 2147483647) : Mc g 0 m_X8_asWay 0 0 [vi a] T I L R (qI fun z T' I' L' R' => z = (if a = -1 then -2 else a) ∧ same T I L R T' I' L' R') := by
  refine Mc_of rfl (Nat.le_of_ble_eq_true rfl) ?_
  refine r_iload_n d_X8_asWay_0 rfl ?_
  refine r_iconst d_X8_asWay_1 ?_
  refine r_icmp_ne d_X8_asWay_2 (by omega) (by omega) (fun c2 => ?_) (fun c2 => ?_)
  · refine r_iload_n d_X8_asWay_10 rfl ?_
    refine r_iret d_X8_asWay_11 rfl ?_
    exact ⟨_, rfl, by first | rw [if_pos (by omega)] | rw [if_neg (by omega)], same_rf⟩
  · refine r_bipush d_X8_asWay_5 (by decide) ?_
    refine r_goto d_X8_asWay_7 ?_
    refine r_iret d_X8_asWay_11 rfl ?_
    exact ⟨_, rfl, by first | rw [if_pos (by omega)] | rw [if_neg (by omega)], same_rf⟩
theorem x_isRoom {r : Int} (hr : -2147483648 ≤ r ∧ r ≤ 2147483647) (h : I 139 0 = (nr : Int)) (h8 : nr ≤ 8) : Mc g 1 m_X8_isRoom 0 0 [vr 139, vi r] (TT Ls tl) I L (RR tl) (qI fun z T' I' L' R' => z = (if 0 ≤ r ∧ r < nr then 1 else 0) ∧ same (TT Ls tl) I L (RR tl) T' I' L' R') := by
  refine Mc_of rfl (Nat.le_of_ble_eq_true rfl) ?_
  refine r_iload_n d_X8_isRoom_0 rfl ?_
  refine r_iconst d_X8_isRoom_1 ?_
  refine r_aload_n d_X8_isRoom_2 rfl ?_
  refine r_geti d_X8_isRoom_3 f_X8_232 (tt_139 _ _) (by decide) (by decide) ?_
  rw [h]
  refine r_iconst d_X8_isRoom_6 ?_
  refine r_isub d_X8_isRoom_7 ?_
  refine r_S3i d_X8_isRoom_8 (w_X8_162 _ rfl) (x_within hr (by omega) (by omega)) (by decide) (Nat.le_of_ble_eq_true rfl) (fun z8 T8 I8 L8 R8 h8 => ?_)
  obtain ⟨rfl, rfl, rfl, rfl, rfl⟩ := h8
  refine r_zret d_X8_isRoom_11 rfl (by split <;> omega) ?_
  refine ⟨_, rfl, ?_, same_rf⟩
  by_cases h : 0 ≤ r ∧ r < nr
  · rw [if_pos h, if_pos (by omega)]
  · rw [if_neg h, if_neg (by omega)]
theorem x_isGuest {r : Int} (hr : -2147483648 ≤ r ∧ r ≤ 2147483647) (h : I 139 12 = (ng : Int)) (h8 : ng ≤ 8) : Mc g 1 m_X8_isGuest 0 0 [vr 139, vi r] (TT Ls tl) I L (RR tl) (qI fun z T' I' L' R' => z = (if 0 ≤ r ∧ r < ng then 1 else 0) ∧ same (TT Ls tl) I L (RR tl) T' I' L' R') := by
  refine Mc_of rfl (Nat.le_of_ble_eq_true rfl) ?_
  refine r_iload_n d_X8_isGuest_0 rfl ?_
  refine r_iconst d_X8_isGuest_1 ?_
  refine r_aload_n d_X8_isGuest_2 rfl ?_
  refine r_geti d_X8_isGuest_3 f_X8_238 (tt_139 _ _) (by decide) (by decide) ?_
  rw [h]
  refine r_iconst d_X8_isGuest_6 ?_
  refine r_isub d_X8_isGuest_7 ?_
  refine r_S3i d_X8_isGuest_8 (w_X8_162 _ rfl) (x_within hr (by omega) (by omega)) (by decide) (Nat.le_of_ble_eq_true rfl) (fun z8 T8 I8 L8 R8 h8 => ?_)
  obtain ⟨rfl, rfl, rfl, rfl, rfl⟩ := h8
  refine r_zret d_X8_isGuest_11 rfl (by split <;> omega) ?_
  refine ⟨_, rfl, ?_, same_rf⟩
  by_cases h : 0 ≤ r ∧ r < ng
  · rw [if_pos h, if_pos (by omega)]
  · rw [if_neg h, if_neg (by omega)]
theorem x_isRule {n : Nat} {r : Int} (hr : -2147483648 ≤ r ∧ r ≤ 2147483647) (h : I 139 19 = (n : Int)) (h8 : n ≤ 8) : Mc g 1 m_X8_isRule 0 0 [vr 139, vi r] (TT Ls tl) I L (RR tl) (qI fun z T' I' L' R' => z = (if 0 ≤ r ∧ r < n then 1 else 0) ∧ same (TT Ls tl) I L (RR tl) T' I' L' R') := by
  refine Mc_of rfl (Nat.le_of_ble_eq_true rfl) ?_
  refine r_iload_n d_X8_isRule_0 rfl ?_
  refine r_iconst d_X8_isRule_1 ?_
  refine r_aload_n d_X8_isRule_2 rfl ?_
  refine r_geti d_X8_isRule_3 f_X8_247 (tt_139 _ _) (by decide) (by decide) ?_
  rw [h]
  refine r_iconst d_X8_isRule_6 ?_
  refine r_isub d_X8_isRule_7 ?_
  refine r_S3i d_X8_isRule_8 (w_X8_162 _ rfl) (x_within hr (by omega) (by omega)) (by decide) (Nat.le_of_ble_eq_true rfl) (fun z8 T8 I8 L8 R8 h8 => ?_)
  obtain ⟨rfl, rfl, rfl, rfl, rfl⟩ := h8
  refine r_zret d_X8_isRule_11 rfl (by split <;> omega) ?_
  refine ⟨_, rfl, ?_, same_rf⟩
  by_cases h : 0 ≤ r ∧ r < n
  · rw [if_pos h, if_pos (by omega)]
  · rw [if_neg h, if_neg (by omega)]
theorem x_change : Mc g 0 m_X8_change 0 0 [vr 139] (TT Ls tl) I L (RR tl) (qV fun T' I' L' R' => TT Ls tl = T' ∧ RR tl = R' ∧ L = L' ∧ I' = up2 (up2 I 173 0 0) 173 1 0) := by
  refine Mc_of rfl (Nat.le_of_ble_eq_true rfl) ?_
  refine r_aload_n d_X8_change_0 rfl ?_
  refine r_getr d_X8_change_1 f_X8_115 (tt_139 _ _) (by decide) rfl (rr_139_53 _) ?_
  refine r_iconst d_X8_change_4 ?_
  refine r_iconst d_X8_change_5 ?_
  refine r_zastJ (j := 0) d_X8_change_6 (tt_173 _ _) (by omega) rfl (by omega) (by omega) (kk := ?_)
  refine r_aload_n d_X8_change_7 rfl ?_
  refine r_getr d_X8_change_8 f_X8_115 (tt_139 _ _) (by decide) rfl (rr_139_53 _) ?_
  refine r_iconst d_X8_change_11 ?_
  refine r_iconst d_X8_change_12 ?_
  refine r_zastJ (j := 1) d_X8_change_13 (tt_173 _ _) (by omega) rfl (by omega) (by omega) (kk := ?_)
  refine r_vret d_X8_change_14 rfl ?_
  exact ⟨rfl, rfl, rfl, rfl, rfl⟩
theorem x_allWomen : Mc g 0 m_X8_allWomen 0 0 [vr 139] (TT Ls tl) I L (RR tl) (qV fun T' I' L' R' => TT Ls tl = T' ∧ RR tl = R' ∧ L = L' ∧ I' = up2 (up2 I 139 56 (I 139 8)) 139 55 (-1)) := by
  refine Mc_of rfl (Nat.le_of_ble_eq_true rfl) ?_
  refine r_aload_n d_X8_allWomen_0 rfl ?_
  refine r_aload_n d_X8_allWomen_1 rfl ?_
  refine r_geti d_X8_allWomen_2 f_X8_235 (tt_139 _ _) (by decide) (by decide) ?_
  refine r_puti d_X8_allWomen_5 f_X8_278 (tt_139 _ _) (by decide) (Or.inl rfl) ?_
  refine r_aload_n d_X8_allWomen_8 rfl ?_
  refine r_iconst d_X8_allWomen_9 ?_
  refine r_puti d_X8_allWomen_10 f_X8_121 (tt_139 _ _) (by decide) (Or.inl rfl) ?_
  refine r_vret d_X8_allWomen_13 rfl ?_
  exact ⟨rfl, rfl, rfl, rfl, rfl⟩
theorem x_chanceMany (hV : MV σ ℓ nr nW ng) (hX : MX σ nr nW ng I) : Mc g 0 m_X8_chanceMany 0 0 [vr 139] (TT Ls tl) I L (RR tl) (qI fun z T' I' L' R' => z = (chn σ nr : Int) ∧ same (TT Ls tl) I L (RR tl) T' I' L' R') := by
  refine Mc_of rfl (Nat.le_of_ble_eq_true rfl) ?_
  obtain ⟨⟨s1, s2, s3, s4, s5⟩, v2, v3, v4⟩ := hV
  have e0 := hX.1
  have loop : ∀ (k b : Nat), b + k = nr → Cp g 0 m_X8_chanceMany 0 0 (qI fun z T' I' L' R' => z = (chn σ nr : Int) ∧ same (TT Ls tl) I L (RR tl) T' I' L' R') 4 [(0, vr 139), (1, vi (chn σ b : Int)), (2, vi (b : Int))] [] (TT Ls tl) I L (RR tl) := by
    intro k
    induction k with
    | zero =>
      intro b hb
      have hb2 : b = nr := by omega
      refine r_iload_n d_X8_chanceMany_4 rfl ?_
      refine r_aload_n d_X8_chanceMany_5 rfl ?_
      refine r_geti d_X8_chanceMany_6 f_X8_232 (tt_139 _ _) (by decide) (by decide) ?_
      refine r_icmp_ge d_X8_chanceMany_9 (by omega) (by omega) (fun c9 => ?_) (fun c9 => absurd c9 (by omega))
      refine r_iload_n d_X8_chanceMany_36 rfl ?_
      refine r_iret d_X8_chanceMany_37 rfl ?_
      exact ⟨_, rfl, by rw [hb2], same_rf⟩
    | succ k ih =>
      intro b hb
      have e4 : I 144 b = σ 4 b := hX.2.2.1 b (by omega) 4 (by omega)
      have rv := s3 b (by omega)
      unfold RV at rv
      have es : chn σ (b + 1) = chn σ b + (if σ 4 b = -1 then 0 else 1) := rfl
      have e9 : σ 4 b = -1 → chn σ (b + 1) = chn σ b := fun h => by rw [es, if_pos h, Nat.add_zero]
      have e8 : ¬ σ 4 b = -1 → chn σ (b + 1) = chn σ b + 1 := fun h => by rw [es, if_neg h]
      refine r_iload_n d_X8_chanceMany_4 rfl ?_
      refine r_aload_n d_X8_chanceMany_5 rfl ?_
      refine r_geti d_X8_chanceMany_6 f_X8_232 (tt_139 _ _) (by decide) (by decide) ?_
      refine r_icmp_ge d_X8_chanceMany_9 (by omega) (by omega) (fun c9 => absurd c9 (by omega)) (fun c9 => ?_)
      refine r_iload_n d_X8_chanceMany_12 rfl ?_
      refine r_aload_n d_X8_chanceMany_13 rfl ?_
      refine r_getr d_X8_chanceMany_14 f_X8_22 (tt_139 _ _) (by decide) rfl (rr_139_5 _) ?_
      refine r_iload_n d_X8_chanceMany_17 rfl ?_
      refine r_ialdJ d_X8_chanceMany_18 (tt_144 _ _) rfl (by omega) (kk := ?_)
      rw [e4]
      refine r_iconst d_X8_chanceMany_19 ?_
      refine r_icmp_ne d_X8_chanceMany_20 (by omega) (by omega) (fun c20 => ?_) (fun c20 => ?_)
      · refine r_iconst d_X8_chanceMany_27 ?_
        refine r_iadd d_X8_chanceMany_28 ?_
        refine r_istore_n d_X8_chanceMany_29 (by decide) ?_
        refine r_iinc d_X8_chanceMany_30 rfl (by decide) ?_
        refine r_goto d_X8_chanceMany_33 ?_
        first
        | have e7 := e9 (by omega)
          exact CpL (ih (b + 1) (by omega)) (by repeat (first | exact trivial | refine ⟨rfl, ?_⟩ | refine ⟨by rw [e7]; rfl, ?_⟩))
        | have e7 := e8 (by omega)
          exact CpL (ih (b + 1) (by omega)) (by repeat (first | exact trivial | refine ⟨rfl, ?_⟩ | refine ⟨by rw [e7]; rfl, ?_⟩))
      · refine r_iconst d_X8_chanceMany_23 ?_
        refine r_goto d_X8_chanceMany_24 ?_
        refine r_iadd d_X8_chanceMany_28 ?_
        refine r_istore_n d_X8_chanceMany_29 (by decide) ?_
        refine r_iinc d_X8_chanceMany_30 rfl (by decide) ?_
        refine r_goto d_X8_chanceMany_33 ?_
        first
        | have e7 := e9 (by omega)
          exact CpL (ih (b + 1) (by omega)) (by repeat (first | exact trivial | refine ⟨rfl, ?_⟩ | refine ⟨by rw [e7]; rfl, ?_⟩))
        | have e7 := e8 (by omega)
          exact CpL (ih (b + 1) (by omega)) (by repeat (first | exact trivial | refine ⟨rfl, ?_⟩ | refine ⟨by rw [e7]; rfl, ?_⟩))
  refine r_iconst d_X8_chanceMany_0 ?_
  refine r_istore_n d_X8_chanceMany_1 (by decide) ?_
  refine r_iconst d_X8_chanceMany_2 ?_
  refine r_istore_n d_X8_chanceMany_3 (by decide) ?_
  exact CpL (loop nr 0 (by omega)) (by repeat (first | exact trivial | refine ⟨rfl, ?_⟩))
theorem x_lateMany (hV : MV σ ℓ nr nW ng) (hX : MX σ nr nW ng I) : Mc g 0 m_X8_lateMany 0 0 [vr 139] (TT Ls tl) I L (RR tl) (qI fun z T' I' L' R' => z = (ltn σ nr : Int) ∧ same (TT Ls tl) I L (RR tl) T' I' L' R') := by
  refine Mc_of rfl (Nat.le_of_ble_eq_true rfl) ?_
  obtain ⟨⟨s1, s2, s3, s4, s5⟩, v2, v3, v4⟩ := hV
  have e0 := hX.1
  have loop : ∀ (k b : Nat), b + k = nr → Cp g 0 m_X8_lateMany 0 0 (qI fun z T' I' L' R' => z = (ltn σ nr : Int) ∧ same (TT Ls tl) I L (RR tl) T' I' L' R') 4 [(0, vr 139), (1, vi (ltn σ b : Int)), (2, vi (b : Int))] [] (TT Ls tl) I L (RR tl) := by
    intro k
    induction k with
    | zero =>
      intro b hb
      have hb2 : b = nr := by omega
      refine r_iload_n d_X8_lateMany_4 rfl ?_
      refine r_aload_n d_X8_lateMany_5 rfl ?_
      refine r_geti d_X8_lateMany_6 f_X8_232 (tt_139 _ _) (by decide) (by decide) ?_
      refine r_icmp_ge d_X8_lateMany_9 (by omega) (by omega) (fun c9 => ?_) (fun c9 => absurd c9 (by omega))
      refine r_iload_n d_X8_lateMany_36 rfl ?_
      refine r_iret d_X8_lateMany_37 rfl ?_
      exact ⟨_, rfl, by rw [hb2], same_rf⟩
    | succ k ih =>
      intro b hb
      have e4 : I 146 b = σ 6 b := hX.2.2.1 b (by omega) 6 (by omega)
      have rv := s3 b (by omega)
      unfold RV at rv
      have es : ltn σ (b + 1) = ltn σ b + (if σ 6 b = -1 then 0 else 1) := rfl
      have e9 : σ 6 b = -1 → ltn σ (b + 1) = ltn σ b := fun h => by rw [es, if_pos h, Nat.add_zero]
      have e8 : ¬ σ 6 b = -1 → ltn σ (b + 1) = ltn σ b + 1 := fun h => by rw [es, if_neg h]
      refine r_iload_n d_X8_lateMany_4 rfl ?_
      refine r_aload_n d_X8_lateMany_5 rfl ?_
      refine r_geti d_X8_lateMany_6 f_X8_232 (tt_139 _ _) (by decide) (by decide) ?_
      refine r_icmp_ge d_X8_lateMany_9 (by omega) (by omega) (fun c9 => absurd c9 (by omega)) (fun c9 => ?_)
      refine r_iload_n d_X8_lateMany_12 rfl ?_
      refine r_aload_n d_X8_lateMany_13 rfl ?_
      refine r_getr d_X8_lateMany_14 f_X8_28 (tt_139 _ _) (by decide) rfl (rr_139_7 _) ?_
      refine r_iload_n d_X8_lateMany_17 rfl ?_
      refine r_ialdJ d_X8_lateMany_18 (tt_146 _ _) rfl (by omega) (kk := ?_)
      rw [e4]
      refine r_iconst d_X8_lateMany_19 ?_
      refine r_icmp_ne d_X8_lateMany_20 (by omega) (by omega) (fun c20 => ?_) (fun c20 => ?_)
      · refine r_iconst d_X8_lateMany_27 ?_
        refine r_iadd d_X8_lateMany_28 ?_
        refine r_istore_n d_X8_lateMany_29 (by decide) ?_
        refine r_iinc d_X8_lateMany_30 rfl (by decide) ?_
        refine r_goto d_X8_lateMany_33 ?_
        first
        | have e7 := e9 (by omega)
          exact CpL (ih (b + 1) (by omega)) (by repeat (first | exact trivial | refine ⟨rfl, ?_⟩ | refine ⟨by rw [e7]; rfl, ?_⟩))
        | have e7 := e8 (by omega)
          exact CpL (ih (b + 1) (by omega)) (by repeat (first | exact trivial | refine ⟨rfl, ?_⟩ | refine ⟨by rw [e7]; rfl, ?_⟩))
      · refine r_iconst d_X8_lateMany_23 ?_
        refine r_goto d_X8_lateMany_24 ?_
        refine r_iadd d_X8_lateMany_28 ?_
        refine r_istore_n d_X8_lateMany_29 (by decide) ?_
        refine r_iinc d_X8_lateMany_30 rfl (by decide) ?_
        refine r_goto d_X8_lateMany_33 ?_
        first
        | have e7 := e9 (by omega)
          exact CpL (ih (b + 1) (by omega)) (by repeat (first | exact trivial | refine ⟨rfl, ?_⟩ | refine ⟨by rw [e7]; rfl, ?_⟩))
        | have e7 := e8 (by omega)
          exact CpL (ih (b + 1) (by omega)) (by repeat (first | exact trivial | refine ⟨rfl, ?_⟩ | refine ⟨by rw [e7]; rfl, ?_⟩))
  refine r_iconst d_X8_lateMany_0 ?_
  refine r_istore_n d_X8_lateMany_1 (by decide) ?_
  refine r_iconst d_X8_lateMany_2 ?_
  refine r_istore_n d_X8_lateMany_3 (by decide) ?_
  exact CpL (loop nr 0 (by omega)) (by repeat (first | exact trivial | refine ⟨rfl, ?_⟩))
theorem x_bitOf (hV : MV σ ℓ nr nW ng) (hX : MX σ nr nW ng I) {room : Nat} (hr : room ≤ nr) : Mc g 0 m_X8_bitOf 0 0 [vr 139, vi (room : Int)] (TT Ls tl) I L (RR tl) (qI fun z T' I' L' R' => z = (chn σ room : Int) ∧ same (TT Ls tl) I L (RR tl) T' I' L' R') := by
  refine Mc_of rfl (Nat.le_of_ble_eq_true rfl) ?_
  obtain ⟨⟨s1, s2, s3, s4, s5⟩, v2, v3, v4⟩ := hV
  have loop : ∀ (k b : Nat), b + k = room → Cp g 0 m_X8_bitOf 0 0 (qI fun z T' I' L' R' => z = (chn σ room : Int) ∧ same (TT Ls tl) I L (RR tl) T' I' L' R') 4 [(0, vr 139), (1, vi (room : Int)), (2, vi (chn σ b : Int)), (3, vi (b : Int))] [] (TT Ls tl) I L (RR tl) := by
    intro k
    induction k with
    | zero =>
      intro b hb
      have hb2 : b = room := by omega
      refine r_iload_n d_X8_bitOf_4 rfl ?_
      refine r_iload_n d_X8_bitOf_5 rfl ?_
      refine r_icmp_ge d_X8_bitOf_6 (by omega) (by omega) (fun c6 => ?_) (fun c6 => absurd c6 (by omega))
      refine r_iload_n d_X8_bitOf_33 rfl ?_
      refine r_iret d_X8_bitOf_34 rfl ?_
      exact ⟨_, rfl, by rw [hb2], same_rf⟩
    | succ k ih =>
      intro b hb
      have e4 : I 144 b = σ 4 b := hX.2.2.1 b (by omega) 4 (by omega)
      have rv := s3 b (by omega)
      unfold RV at rv
      have es : chn σ (b + 1) = chn σ b + (if σ 4 b = -1 then 0 else 1) := rfl
      have e9 : σ 4 b = -1 → chn σ (b + 1) = chn σ b := fun h => by rw [es, if_pos h, Nat.add_zero]
      have e8 : ¬ σ 4 b = -1 → chn σ (b + 1) = chn σ b + 1 := fun h => by rw [es, if_neg h]
      refine r_iload_n d_X8_bitOf_4 rfl ?_
      refine r_iload_n d_X8_bitOf_5 rfl ?_
      refine r_icmp_ge d_X8_bitOf_6 (by omega) (by omega) (fun c6 => absurd c6 (by omega)) (fun c6 => ?_)
      refine r_iload_n d_X8_bitOf_9 rfl ?_
      refine r_aload_n d_X8_bitOf_10 rfl ?_
      refine r_getr d_X8_bitOf_11 f_X8_22 (tt_139 _ _) (by decide) rfl (rr_139_5 _) ?_
      refine r_iload_n d_X8_bitOf_14 rfl ?_
      refine r_ialdJ d_X8_bitOf_15 (tt_144 _ _) rfl (by omega) (kk := ?_)
      rw [e4]
      refine r_iconst d_X8_bitOf_16 ?_
      refine r_icmp_ne d_X8_bitOf_17 (by omega) (by omega) (fun c17 => ?_) (fun c17 => ?_)
      · refine r_iconst d_X8_bitOf_24 ?_
        refine r_iadd d_X8_bitOf_25 ?_
        refine r_istore_n d_X8_bitOf_26 (by decide) ?_
        refine r_iinc d_X8_bitOf_27 rfl (by decide) ?_
        refine r_goto d_X8_bitOf_30 ?_
        first
        | have e7 := e9 (by omega)
          exact CpL (ih (b + 1) (by omega)) (by repeat (first | exact trivial | refine ⟨rfl, ?_⟩ | refine ⟨by rw [e7]; rfl, ?_⟩))
        | have e7 := e8 (by omega)
          exact CpL (ih (b + 1) (by omega)) (by repeat (first | exact trivial | refine ⟨rfl, ?_⟩ | refine ⟨by rw [e7]; rfl, ?_⟩))
      · refine r_iconst d_X8_bitOf_20 ?_
        refine r_goto d_X8_bitOf_21 ?_
        refine r_iadd d_X8_bitOf_25 ?_
        refine r_istore_n d_X8_bitOf_26 (by decide) ?_
        refine r_iinc d_X8_bitOf_27 rfl (by decide) ?_
        refine r_goto d_X8_bitOf_30 ?_
        first
        | have e7 := e9 (by omega)
          exact CpL (ih (b + 1) (by omega)) (by repeat (first | exact trivial | refine ⟨rfl, ?_⟩ | refine ⟨by rw [e7]; rfl, ?_⟩))
        | have e7 := e8 (by omega)
          exact CpL (ih (b + 1) (by omega)) (by repeat (first | exact trivial | refine ⟨rfl, ?_⟩ | refine ⟨by rw [e7]; rfl, ?_⟩))
  refine r_iconst d_X8_bitOf_0 ?_
  refine r_istore_n d_X8_bitOf_1 (by decide) ?_
  refine r_iconst d_X8_bitOf_2 ?_
  refine r_istore_n d_X8_bitOf_3 (by decide) ?_
  exact CpL (loop room 0 (by omega)) (by repeat (first | exact trivial | refine ⟨rfl, ?_⟩))
theorem x_isWay (hV : MV σ ℓ nr nW ng) (hX : MX σ nr nW ng I) {way : Int} (hw : -2147483648 ≤ way ∧ way ≤ 2147483647) : Mc g 1 m_X8_isWay 0 0 [vr 139, vi way] (TT Ls tl) I L (RR tl) (qI fun z T' I' L' R' => z = (if 0 ≤ way ∧ way < ((2 ^ chn σ nr : Nat) : Int) then 1 else 0) ∧ same (TT Ls tl) I L (RR tl) T' I' L' R') := by
  refine Mc_of rfl (Nat.le_of_ble_eq_true rfl) ?_
  have hp := p2 hV.2.2.2
  have es : sshl 1 (chn σ nr : Int) = ((2 ^ chn σ nr : Nat) : Int) := sshl_one _ (by have := hV.2.2.2; omega)
  refine r_iload_n d_X8_isWay_0 rfl ?_
  refine r_iconst d_X8_isWay_1 ?_
  refine r_iconst d_X8_isWay_2 ?_
  refine r_aload_n d_X8_isWay_3 rfl ?_
  refine r_V0i d_X8_isWay_4 (w_X8_268 _ rfl) (tt_139 _ _) rfl rfl (x_chanceMany hV hX) (by decide) (Nat.le_of_ble_eq_true rfl) (fun z4 T4 I4 L4 R4 h4 => ?_)
  obtain ⟨rfl, rfl, rfl, rfl, rfl⟩ := h4
  refine r_ishl d_X8_isWay_7 ?_
  rw [es]
  refine r_iconst d_X8_isWay_8 ?_
  refine r_isub d_X8_isWay_9 ?_
  refine r_S3i d_X8_isWay_10 (w_X8_162 _ rfl) (x_within hw (by omega) (by omega)) (by decide) (Nat.le_of_ble_eq_true rfl) (fun z10 T10 I10 L10 R10 h10 => ?_)
  obtain ⟨rfl, rfl, rfl, rfl, rfl⟩ := h10
  refine r_zret d_X8_isWay_13 rfl (by split <;> omega) ?_
  refine ⟨_, rfl, ?_, same_rf⟩
  by_cases h : 0 ≤ way ∧ way < ((2 ^ chn σ nr : Nat) : Int)
  · rw [if_pos h, if_pos (by omega)]
  · rw [if_neg h, if_neg (by omega)]
theorem x_whole (hV : MV σ ℓ nr nW ng) (hX : MX σ nr nW ng I) : Mc g 1 m_X8_whole 0 0 [vr 139] (TT Ls tl) I L (RR tl) (qI fun z T' I' L' R' => z = 10 ^ chn σ nr ∧ same (TT Ls tl) I L (RR tl) T' I' L' R') := by
  refine Mc_of rfl (Nat.le_of_ble_eq_true rfl) ?_
  have h3 := hV.2.2.2
  have loop : ∀ (k b : Nat), b + k = chn σ nr → Cp g 1 m_X8_whole 0 0 (qI fun z T' I' L' R' => z = 10 ^ chn σ nr ∧ same (TT Ls tl) I L (RR tl) T' I' L' R') 4 [(0, vr 139), (1, vi (10 ^ b)), (2, vi (b : Int))] [] (TT Ls tl) I L (RR tl) := by
    intro k
    induction k with
    | zero =>
      intro b hb
      have hb2 : b = chn σ nr := by omega
      refine r_iload_n d_X8_whole_4 rfl ?_
      refine r_aload_n d_X8_whole_5 rfl ?_
      refine r_V0i d_X8_whole_6 (w_X8_268 _ rfl) (tt_139 _ _) rfl rfl (x_chanceMany hV hX) (by decide) (Nat.le_of_ble_eq_true rfl) (fun z6 T6 I6 L6 R6 h6 => ?_)
      obtain ⟨rfl, rfl, rfl, rfl, rfl⟩ := h6
      refine r_icmp_ge d_X8_whole_9 (by omega) (by omega) (fun c9 => ?_) (fun c9 => absurd c9 (by omega))
      refine r_iload_n d_X8_whole_23 rfl ?_
      refine r_iret d_X8_whole_24 rfl ?_
      exact ⟨_, rfl, by rw [hb2], same_rf⟩
    | succ k ih =>
      intro b hb
      have es : (10 : Int) ^ b * 10 = 10 ^ (b + 1) := (Int.pow_succ 10 b).symm
      refine r_iload_n d_X8_whole_4 rfl ?_
      refine r_aload_n d_X8_whole_5 rfl ?_
      refine r_V0i d_X8_whole_6 (w_X8_268 _ rfl) (tt_139 _ _) rfl rfl (x_chanceMany hV hX) (by decide) (Nat.le_of_ble_eq_true rfl) (fun z6 T6 I6 L6 R6 h6 => ?_)
      obtain ⟨rfl, rfl, rfl, rfl, rfl⟩ := h6
      refine r_icmp_ge d_X8_whole_9 (by omega) (by omega) (fun c9 => absurd c9 (by omega)) (fun c9 => ?_)
      refine r_iload_n d_X8_whole_12 rfl ?_
      refine r_bipush d_X8_whole_13 (by decide) ?_
      refine r_imul d_X8_whole_15 ?_
      rw [es]
      refine r_istore_n d_X8_whole_16 (by decide) ?_
      refine r_iinc d_X8_whole_17 rfl (by decide) ?_
      refine r_goto d_X8_whole_20 ?_
      exact CpL (ih (b + 1) (by omega)) (by repeat (first | exact trivial | refine ⟨rfl, ?_⟩))
  refine r_iconst d_X8_whole_0 ?_
  refine r_istore_n d_X8_whole_1 (by decide) ?_
  refine r_iconst d_X8_whole_2 ?_
  refine r_istore_n d_X8_whole_3 (by decide) ?_
  exact CpL (loop (chn σ nr) 0 (by omega)) (by repeat (first | exact trivial | refine ⟨rfl, ?_⟩))
theorem x_layGone (hV : MV σ ℓ nr nW ng) (hX : MX σ nr nW ng I) {way : Nat} (hw : way < 8) : Mc g 0 m_X8_layGone 0 0 [vr 139, vi (way : Int)] (TT Ls tl) I L (RR tl) (qV fun T' I' L' R' => T' = TT Ls tl ∧ R' = RR tl ∧ L' = L ∧ frb 174 175 I I' ∧ ∀ r, r < nr → I' 174 r = goneS σ way r) := by
  refine Mc_of rfl (Nat.le_of_ble_eq_true rfl) ?_
  obtain ⟨⟨s1, s2, s3, s4, s5⟩, v2, v3, v4⟩ := id hV
  obtain ⟨Q, hQ⟩ : ∃ Q : sQ, Q = (qV fun T' I' L' R' => T' = TT Ls tl ∧ R' = RR tl ∧ L' = L ∧ frb 174 175 I I' ∧ ∀ r, r < nr → I' 174 r = goneS σ way r) := ⟨_, rfl⟩
  rw [← hQ]
  have loop : ∀ (k b : Nat) (I1 : sI), b + k = nr → frb 174 175 I I1 → (∀ r, r < b → I1 174 r = goneS σ way r) → Cp g 0 m_X8_layGone 0 0 Q 4 [(0, vr 139), (1, vi (way : Int)), (2, vi (chn σ b : Int)), (3, vi (b : Int))] [] (TT Ls tl) I1 L (RR tl) := by
    intro k
    induction k with
    | zero =>
      intro b I1 hb f hg
      have e0 : I1 139 0 = (nr : Int) := by rw [f 139 (by omega)]; exact hX.1
      refine r_iload_n d_X8_layGone_4 rfl ?_
      refine r_aload_n d_X8_layGone_5 rfl ?_
      refine r_geti d_X8_layGone_6 f_X8_232 (tt_139 _ _) (by decide) (by decide) ?_
      refine r_icmp_ge d_X8_layGone_9 (by omega) (by omega) (fun c9 => ?_) (fun c9 => absurd c9 (by omega))
      refine r_vret d_X8_layGone_104 rfl ?_
      rw [hQ]
      exact ⟨rfl, rfl, rfl, rfl, f, fun r hr => hg r (by omega)⟩
    | succ k ih =>
      intro b I1 hb f hg
      have hX1 := MX_frb hX f (by omega)
      have e0 : I1 139 0 = (nr : Int) := hX1.1
      have e3 : I1 143 b = σ 3 b := hX1.2.2.1 b (by omega) 3 (by omega)
      have e4 : ∀ x, up2 I1 174 b x 144 b = σ 4 b := fun x => by rw [up2_ne _ _ (by omega)]; exact hX1.2.2.1 b (by omega) 4 (by omega)
      have e3b : ∀ x, up2 I1 174 b x 143 b = σ 3 b := fun x => by rw [up2_ne _ _ (by omega)]; exact hX1.2.2.1 b (by omega) 3 (by omega)
      have e6 : ∀ x, up2 I1 174 b x 146 b = σ 6 b := fun x => by rw [up2_ne _ _ (by omega)]; exact hX1.2.2.1 b (by omega) 6 (by omega)
      have rv := s3 b (by omega)
      unfold RV at rv
      have hcb : chn σ b ≤ 3 := Nat.le_trans (chn_mono σ (by omega)) v4
      have es : chn σ (b + 1) = chn σ b + (if σ 4 b = -1 then 0 else 1) := rfl
      have hbit := bit_tst (m := way) (r := chn σ b) (by omega) (by omega)
      have t67 : ∀ (x : Int) (c : Nat), x = (if σ 4 b ≠ -1 ∧ way.testBit (chn σ b) = true then σ 4 b else σ 3 b) → c = chn σ (b + 1) → Cp g 0 m_X8_layGone 0 0 Q 67 [(0, vr 139), (1, vi (way : Int)), (2, vi (c : Int)), (3, vi (b : Int))] [] (TT Ls tl) (up2 I1 174 b x) L (RR tl) := by
        intro x c hx hc
        have fin : ∀ y : Int, y = goneS σ way b → Cp g 0 m_X8_layGone 0 0 Q 4 [(0, vr 139), (1, vi (way : Int)), (2, vi (c : Int)), (3, vi ((b : Int) + 1))] [] (TT Ls tl) (up2 (up2 I1 174 b x) 174 b y) L (RR tl) := by
          intro y hy
          subst hc
          refine CpL (ih (b + 1) _ (by omega) (frb_up (frb_up f (by omega)) (by omega)) (fun r hr => ?_)) (by repeat (first | exact trivial | refine ⟨rfl, ?_⟩))
          by_cases e : r = b
          · rw [e, up2_at]; exact hy
          · rw [up2_nj _ _ e, up2_nj _ _ e]; exact hg r (by omega)
        have hxx : up2 I1 174 b x 174 b = x := up2_at _ _ _ _
        refine r_aload_n d_X8_layGone_67 rfl ?_
        refine r_getr d_X8_layGone_68 f_X8_118 (tt_139 _ _) (by decide) rfl (rr_139_54 _) ?_
        refine r_iload_n d_X8_layGone_71 rfl ?_
        refine r_aload_n d_X8_layGone_72 rfl ?_
        refine r_getr d_X8_layGone_73 f_X8_28 (tt_139 _ _) (by decide) rfl (rr_139_7 _) ?_
        refine r_iload_n d_X8_layGone_76 rfl ?_
        refine r_ialdJ d_X8_layGone_77 (tt_146 _ _) rfl (by omega) (kk := ?_)
        rw [e6]
        refine r_iconst d_X8_layGone_78 ?_
        refine r_icmp_ne d_X8_layGone_79 (by omega) (by omega) (fun c79 => ?_) (fun c79 => ?_)
        · refine r_aload_n d_X8_layGone_91 rfl ?_
          refine r_getr d_X8_layGone_92 f_X8_28 (tt_139 _ _) (by decide) rfl (rr_139_7 _) ?_
          refine r_iload_n d_X8_layGone_95 rfl ?_
          refine r_ialdJ d_X8_layGone_96 (tt_146 _ _) rfl (by omega) (kk := ?_)
          try rw [e6]
          refine r_iastJ d_X8_layGone_97 (tt_174 _ _) (by omega) rfl (by omega) (kk := ?_)
          refine r_iinc d_X8_layGone_98 rfl (by decide) ?_
          refine r_goto d_X8_layGone_101 ?_
          first
          | exact CpL (fin _ (by unfold goneS; rw [if_neg (by omega)])) (by repeat (first | exact trivial | refine ⟨rfl, ?_⟩))
          | exact CpL (fin _ (by unfold goneS; rw [if_pos (by omega)]; exact hx)) (by repeat (first | exact trivial | refine ⟨rfl, ?_⟩))
        · refine r_aload_n d_X8_layGone_82 rfl ?_
          refine r_getr d_X8_layGone_83 f_X8_118 (tt_139 _ _) (by decide) rfl (rr_139_54 _) ?_
          refine r_iload_n d_X8_layGone_86 rfl ?_
          refine r_ialdJ d_X8_layGone_87 (tt_174 _ _) rfl (by omega) (kk := ?_)
          rw [hxx]
          refine r_goto d_X8_layGone_88 ?_
          try rw [e6]
          refine r_iastJ d_X8_layGone_97 (tt_174 _ _) (by omega) rfl (by omega) (kk := ?_)
          refine r_iinc d_X8_layGone_98 rfl (by decide) ?_
          refine r_goto d_X8_layGone_101 ?_
          first
          | exact CpL (fin _ (by unfold goneS; rw [if_neg (by omega)])) (by repeat (first | exact trivial | refine ⟨rfl, ?_⟩))
          | exact CpL (fin _ (by unfold goneS; rw [if_pos (by omega)]; exact hx)) (by repeat (first | exact trivial | refine ⟨rfl, ?_⟩))
      by_cases k4 : σ 4 b = -1
      · rw [if_pos k4] at es
        refine r_iload_n d_X8_layGone_4 rfl ?_
        refine r_aload_n d_X8_layGone_5 rfl ?_
        refine r_geti d_X8_layGone_6 f_X8_232 (tt_139 _ _) (by decide) (by decide) ?_
        refine r_icmp_ge d_X8_layGone_9 (by omega) (by omega) (fun c9 => absurd c9 (by omega)) (fun c9 => ?_)
        refine r_aload_n d_X8_layGone_12 rfl ?_
        refine r_getr d_X8_layGone_13 f_X8_118 (tt_139 _ _) (by decide) rfl (rr_139_54 _) ?_
        refine r_iload_n d_X8_layGone_16 rfl ?_
        refine r_aload_n d_X8_layGone_17 rfl ?_
        refine r_getr d_X8_layGone_18 f_X8_19 (tt_139 _ _) (by decide) rfl (rr_139_4 _) ?_
        refine r_iload_n d_X8_layGone_21 rfl ?_
        refine r_ialdJ d_X8_layGone_22 (tt_143 _ _) rfl (by omega) (kk := ?_)
        rw [e3]
        refine r_iastJ d_X8_layGone_23 (tt_174 _ _) (by omega) rfl (by omega) (kk := ?_)
        refine r_aload_n d_X8_layGone_24 rfl ?_
        refine r_getr d_X8_layGone_25 f_X8_22 (tt_139 _ _) (by decide) rfl (rr_139_5 _) ?_
        refine r_iload_n d_X8_layGone_28 rfl ?_
        refine r_ialdJ d_X8_layGone_29 (tt_144 _ _) rfl (by omega) (kk := ?_)
        rw [e4]
        refine r_iconst d_X8_layGone_30 ?_
        refine r_icmp_eq d_X8_layGone_31 (by omega) (by omega) (fun c31 => ?_) (fun c31 => absurd c31 (by exact fun q => q k4))
        exact CpL (t67 (σ 3 b) (chn σ b) (by rw [if_neg (fun q => q.1 k4)]) (by omega)) (by repeat (first | exact trivial | refine ⟨rfl, ?_⟩))
      · rw [if_neg k4] at es
        cases ht : way.testBit (chn σ b) with
        | true =>
          rw [ht, if_pos rfl] at hbit
          refine r_iload_n d_X8_layGone_4 rfl ?_
          refine r_aload_n d_X8_layGone_5 rfl ?_
          refine r_geti d_X8_layGone_6 f_X8_232 (tt_139 _ _) (by decide) (by decide) ?_
          refine r_icmp_ge d_X8_layGone_9 (by omega) (by omega) (fun c9 => absurd c9 (by omega)) (fun c9 => ?_)
          refine r_aload_n d_X8_layGone_12 rfl ?_
          refine r_getr d_X8_layGone_13 f_X8_118 (tt_139 _ _) (by decide) rfl (rr_139_54 _) ?_
          refine r_iload_n d_X8_layGone_16 rfl ?_
          refine r_aload_n d_X8_layGone_17 rfl ?_
          refine r_getr d_X8_layGone_18 f_X8_19 (tt_139 _ _) (by decide) rfl (rr_139_4 _) ?_
          refine r_iload_n d_X8_layGone_21 rfl ?_
          refine r_ialdJ d_X8_layGone_22 (tt_143 _ _) rfl (by omega) (kk := ?_)
          rw [e3]
          refine r_iastJ d_X8_layGone_23 (tt_174 _ _) (by omega) rfl (by omega) (kk := ?_)
          refine r_aload_n d_X8_layGone_24 rfl ?_
          refine r_getr d_X8_layGone_25 f_X8_22 (tt_139 _ _) (by decide) rfl (rr_139_5 _) ?_
          refine r_iload_n d_X8_layGone_28 rfl ?_
          refine r_ialdJ d_X8_layGone_29 (tt_144 _ _) rfl (by omega) (kk := ?_)
          rw [e4]
          refine r_iconst d_X8_layGone_30 ?_
          refine r_icmp_eq d_X8_layGone_31 (by omega) (by omega) (fun c31 => absurd c31 (by exact k4)) (fun c31 => ?_)
          refine r_aload_n d_X8_layGone_34 rfl ?_
          refine r_getr d_X8_layGone_35 f_X8_118 (tt_139 _ _) (by decide) rfl (rr_139_54 _) ?_
          refine r_iload_n d_X8_layGone_38 rfl ?_
          refine r_iload_n d_X8_layGone_39 rfl ?_
          refine r_iload_n d_X8_layGone_40 rfl ?_
          refine r_ishr d_X8_layGone_41 ?_
          refine r_iconst d_X8_layGone_42 ?_
          refine r_iand d_X8_layGone_43 ?_
          rw [hbit]
          refine r_iconst d_X8_layGone_44 ?_
          refine r_icmp_ne d_X8_layGone_45 (by omega) (by omega) (fun c45 => absurd c45 (by decide)) (fun c45 => ?_)
          refine r_aload_n d_X8_layGone_48 rfl ?_
          refine r_getr d_X8_layGone_49 f_X8_22 (tt_139 _ _) (by decide) rfl (rr_139_5 _) ?_
          refine r_iload_n d_X8_layGone_52 rfl ?_
          refine r_ialdJ d_X8_layGone_53 (tt_144 _ _) rfl (by omega) (kk := ?_)
          rw [e4]
          refine r_goto d_X8_layGone_54 ?_
          refine r_iastJ d_X8_layGone_63 (tt_174 _ _) (by omega) rfl (by omega) (kk := ?_)
          refine r_iinc d_X8_layGone_64 rfl (by decide) ?_
          rw [up2_up2]
          exact CpL (t67 (σ 4 b) (chn σ b + 1) (by rw [if_pos ⟨k4, ht⟩]) (by omega)) (by repeat (first | exact trivial | refine ⟨rfl, ?_⟩))
        | false =>
          rw [ht, if_neg (by decide)] at hbit
          refine r_iload_n d_X8_layGone_4 rfl ?_
          refine r_aload_n d_X8_layGone_5 rfl ?_
          refine r_geti d_X8_layGone_6 f_X8_232 (tt_139 _ _) (by decide) (by decide) ?_
          refine r_icmp_ge d_X8_layGone_9 (by omega) (by omega) (fun c9 => absurd c9 (by omega)) (fun c9 => ?_)
          refine r_aload_n d_X8_layGone_12 rfl ?_
          refine r_getr d_X8_layGone_13 f_X8_118 (tt_139 _ _) (by decide) rfl (rr_139_54 _) ?_
          refine r_iload_n d_X8_layGone_16 rfl ?_
          refine r_aload_n d_X8_layGone_17 rfl ?_
          refine r_getr d_X8_layGone_18 f_X8_19 (tt_139 _ _) (by decide) rfl (rr_139_4 _) ?_
          refine r_iload_n d_X8_layGone_21 rfl ?_
          refine r_ialdJ d_X8_layGone_22 (tt_143 _ _) rfl (by omega) (kk := ?_)
          rw [e3]
          refine r_iastJ d_X8_layGone_23 (tt_174 _ _) (by omega) rfl (by omega) (kk := ?_)
          refine r_aload_n d_X8_layGone_24 rfl ?_
          refine r_getr d_X8_layGone_25 f_X8_22 (tt_139 _ _) (by decide) rfl (rr_139_5 _) ?_
          refine r_iload_n d_X8_layGone_28 rfl ?_
          refine r_ialdJ d_X8_layGone_29 (tt_144 _ _) rfl (by omega) (kk := ?_)
          rw [e4]
          refine r_iconst d_X8_layGone_30 ?_
          refine r_icmp_eq d_X8_layGone_31 (by omega) (by omega) (fun c31 => absurd c31 (by exact k4)) (fun c31 => ?_)
          refine r_aload_n d_X8_layGone_34 rfl ?_
          refine r_getr d_X8_layGone_35 f_X8_118 (tt_139 _ _) (by decide) rfl (rr_139_54 _) ?_
          refine r_iload_n d_X8_layGone_38 rfl ?_
          refine r_iload_n d_X8_layGone_39 rfl ?_
          refine r_iload_n d_X8_layGone_40 rfl ?_
          refine r_ishr d_X8_layGone_41 ?_
          refine r_iconst d_X8_layGone_42 ?_
          refine r_iand d_X8_layGone_43 ?_
          rw [hbit]
          refine r_iconst d_X8_layGone_44 ?_
          refine r_icmp_ne d_X8_layGone_45 (by omega) (by omega) (fun c45 => ?_) (fun c45 => absurd c45 (by decide))
          refine r_aload_n d_X8_layGone_57 rfl ?_
          refine r_getr d_X8_layGone_58 f_X8_19 (tt_139 _ _) (by decide) rfl (rr_139_4 _) ?_
          refine r_iload_n d_X8_layGone_61 rfl ?_
          refine r_ialdJ d_X8_layGone_62 (tt_143 _ _) rfl (by omega) (kk := ?_)
          rw [e3b]
          refine r_iastJ d_X8_layGone_63 (tt_174 _ _) (by omega) rfl (by omega) (kk := ?_)
          refine r_iinc d_X8_layGone_64 rfl (by decide) ?_
          rw [up2_up2]
          exact CpL (t67 (σ 3 b) (chn σ b + 1) (by rw [if_neg (fun q => by rw [ht] at q; cases q.2)]) (by omega)) (by repeat (first | exact trivial | refine ⟨rfl, ?_⟩))
  refine r_iconst d_X8_layGone_0 ?_
  refine r_istore_n d_X8_layGone_1 (by decide) ?_
  refine r_iconst d_X8_layGone_2 ?_
  refine r_istore_n d_X8_layGone_3 (by decide) ?_
  exact CpL (loop nr 0 I (by omega) frb_rf (fun r h => absurd h (by omega))) (by repeat (first | exact trivial | refine ⟨rfl, ?_⟩))
theorem wtM_bd {way : Nat} : ∀ n, (∀ r, r < n → RV σ r) → 0 ≤ wtM σ way n ∧ wtM σ way n ≤ 10 ^ chn σ n
  | 0, _ => by simp [wtM, chn]
  | n + 1, h => by
    obtain ⟨h1, h2⟩ := wtM_bd (way := way) n (fun r hr => h r (by omega))
    have hv := h n (by omega)
    unfold RV at hv
    by_cases h4 : σ 4 n = -1
    · simp only [wtM, chn, h4, if_true, Int.mul_one, Nat.add_zero]
      exact ⟨h1, h2⟩
    · have hf : 0 ≤ fcM σ way n ∧ fcM σ way n ≤ 10 := by unfold fcM; split <;> omega
      simp only [wtM, chn, h4, if_false]
      refine ⟨Int.mul_nonneg h1 hf.1, ?_⟩
      rw [Int.pow_succ]
      exact Int.mul_le_mul h2 hf.2 hf.1 (Int.pow_nonneg (by omega))
theorem x_weight (hV : MV σ ℓ nr nW ng) (hX : MX σ nr nW ng I) {way : Nat} (hw : way < 8) : Mc g 0 m_X8_weight 0 0 [vr 139, vi (way : Int)] (TT Ls tl) I L (RR tl) (qI fun z T' I' L' R' => z = wtM σ way nr ∧ same (TT Ls tl) I L (RR tl) T' I' L' R') := by
  refine Mc_of rfl (Nat.le_of_ble_eq_true rfl) ?_
  obtain ⟨⟨s1, s2, s3, s4, s5⟩, v2, v3, v4⟩ := id hV
  have e0 := hX.1
  have loop : ∀ (k b : Nat), b + k = nr → Cp g 0 m_X8_weight 0 0 (qI fun z T' I' L' R' => z = wtM σ way nr ∧ same (TT Ls tl) I L (RR tl) T' I' L' R') 7 [(0, vr 139), (1, vi (way : Int)), (2, vi (wtM σ way b)), (3, vi (chn σ b : Int)), (4, vi (b : Int))] [] (TT Ls tl) I L (RR tl) := by
    intro k
    induction k with
    | zero =>
      intro b hb
      have hb2 : b = nr := by omega
      refine r_iload d_X8_weight_7 rfl ?_
      refine r_aload_n d_X8_weight_9 rfl ?_
      refine r_geti d_X8_weight_10 f_X8_232 (tt_139 _ _) (by decide) (by decide) ?_
      refine r_icmp_ge d_X8_weight_13 (by omega) (by omega) (fun c13 => ?_) (fun c13 => absurd c13 (by omega))
      refine r_iload_n d_X8_weight_68 rfl ?_
      refine r_iret d_X8_weight_69 rfl ?_
      exact ⟨_, rfl, by rw [hb2], same_rf⟩
    | succ k ih =>
      intro b hb
      have e4 : I 144 b = σ 4 b := hX.2.2.1 b (by omega) 4 (by omega)
      have e5 : I 145 b = σ 5 b := hX.2.2.1 b (by omega) 5 (by omega)
      have rv := s3 b (by omega)
      unfold RV at rv
      have hcb : chn σ b ≤ 3 := Nat.le_trans (chn_mono σ (by omega)) v4
      have es : chn σ (b + 1) = chn σ b + (if σ 4 b = -1 then 0 else 1) := rfl
      have ew : wtM σ way (b + 1) = wtM σ way b * (if σ 4 b = -1 then 1 else fcM σ way b) := rfl
      have hbit := bit_tst (m := way) (r := chn σ b) (by omega) (by omega)
      by_cases k4 : σ 4 b = -1
      · rw [if_pos k4] at es ew
        rw [Int.mul_one] at ew
        refine r_iload d_X8_weight_7 rfl ?_
        refine r_aload_n d_X8_weight_9 rfl ?_
        refine r_geti d_X8_weight_10 f_X8_232 (tt_139 _ _) (by decide) (by decide) ?_
        refine r_icmp_ge d_X8_weight_13 (by omega) (by omega) (fun c13 => absurd c13 (by omega)) (fun c13 => ?_)
        refine r_aload_n d_X8_weight_16 rfl ?_
        refine r_getr d_X8_weight_17 f_X8_22 (tt_139 _ _) (by decide) rfl (rr_139_5 _) ?_
        refine r_iload d_X8_weight_20 rfl ?_
        refine r_ialdJ d_X8_weight_22 (tt_144 _ _) rfl (by omega) (kk := ?_)
        rw [e4]
        refine r_iconst d_X8_weight_23 ?_
        refine r_icmp_eq d_X8_weight_24 (by omega) (by omega) (fun c24 => ?_) (fun c24 => absurd c24 (by exact fun q => q k4))
        refine r_iinc d_X8_weight_62 rfl (by decide) ?_
        refine r_goto d_X8_weight_65 ?_
        exact CpL (ih (b + 1) (by omega)) (by repeat (first | exact trivial | refine ⟨rfl, ?_⟩ | refine ⟨by rw [es]; rfl, ?_⟩ | refine ⟨by rw [ew]; rfl, ?_⟩))
      · rw [if_neg k4] at es ew
        unfold fcM at ew
        cases ht : way.testBit (chn σ b) with
        | true =>
          rw [ht, if_pos rfl] at hbit ew
          refine r_iload d_X8_weight_7 rfl ?_
          refine r_aload_n d_X8_weight_9 rfl ?_
          refine r_geti d_X8_weight_10 f_X8_232 (tt_139 _ _) (by decide) (by decide) ?_
          refine r_icmp_ge d_X8_weight_13 (by omega) (by omega) (fun c13 => absurd c13 (by omega)) (fun c13 => ?_)
          refine r_aload_n d_X8_weight_16 rfl ?_
          refine r_getr d_X8_weight_17 f_X8_22 (tt_139 _ _) (by decide) rfl (rr_139_5 _) ?_
          refine r_iload d_X8_weight_20 rfl ?_
          refine r_ialdJ d_X8_weight_22 (tt_144 _ _) rfl (by omega) (kk := ?_)
          rw [e4]
          refine r_iconst d_X8_weight_23 ?_
          refine r_icmp_eq d_X8_weight_24 (by omega) (by omega) (fun c24 => absurd c24 (by exact k4)) (fun c24 => ?_)
          refine r_iload_n d_X8_weight_27 rfl ?_
          refine r_iload_n d_X8_weight_28 rfl ?_
          refine r_iload_n d_X8_weight_29 rfl ?_
          refine r_ishr d_X8_weight_30 ?_
          refine r_iconst d_X8_weight_31 ?_
          refine r_iand d_X8_weight_32 ?_
          rw [hbit]
          refine r_iconst d_X8_weight_33 ?_
          refine r_icmp_ne d_X8_weight_34 (by omega) (by omega) (fun c34 => absurd c34 (by decide)) (fun c34 => ?_)
          refine r_bipush d_X8_weight_37 (by decide) ?_
          refine r_aload_n d_X8_weight_39 rfl ?_
          refine r_getr d_X8_weight_40 f_X8_25 (tt_139 _ _) (by decide) rfl (rr_139_6 _) ?_
          refine r_iload d_X8_weight_43 rfl ?_
          refine r_ialdJ d_X8_weight_45 (tt_145 _ _) rfl (by omega) (kk := ?_)
          rw [e5]
          refine r_isub d_X8_weight_46 ?_
          refine r_goto d_X8_weight_47 ?_
          refine r_imul d_X8_weight_57 ?_
          rw [← ew]
          refine r_istore_n d_X8_weight_58 (by decide) ?_
          refine r_iinc d_X8_weight_59 rfl (by decide) ?_
          refine r_iinc d_X8_weight_62 rfl (by decide) ?_
          refine r_goto d_X8_weight_65 ?_
          exact CpL (ih (b + 1) (by omega)) (by repeat (first | exact trivial | refine ⟨rfl, ?_⟩ | refine ⟨by rw [es]; rfl, ?_⟩))
        | false =>
          rw [ht, if_neg (by decide)] at hbit ew
          refine r_iload d_X8_weight_7 rfl ?_
          refine r_aload_n d_X8_weight_9 rfl ?_
          refine r_geti d_X8_weight_10 f_X8_232 (tt_139 _ _) (by decide) (by decide) ?_
          refine r_icmp_ge d_X8_weight_13 (by omega) (by omega) (fun c13 => absurd c13 (by omega)) (fun c13 => ?_)
          refine r_aload_n d_X8_weight_16 rfl ?_
          refine r_getr d_X8_weight_17 f_X8_22 (tt_139 _ _) (by decide) rfl (rr_139_5 _) ?_
          refine r_iload d_X8_weight_20 rfl ?_
          refine r_ialdJ d_X8_weight_22 (tt_144 _ _) rfl (by omega) (kk := ?_)
          rw [e4]
          refine r_iconst d_X8_weight_23 ?_
          refine r_icmp_eq d_X8_weight_24 (by omega) (by omega) (fun c24 => absurd c24 (by exact k4)) (fun c24 => ?_)
          refine r_iload_n d_X8_weight_27 rfl ?_
          refine r_iload_n d_X8_weight_28 rfl ?_
          refine r_iload_n d_X8_weight_29 rfl ?_
          refine r_ishr d_X8_weight_30 ?_
          refine r_iconst d_X8_weight_31 ?_
          refine r_iand d_X8_weight_32 ?_
          rw [hbit]
          refine r_iconst d_X8_weight_33 ?_
          refine r_icmp_ne d_X8_weight_34 (by omega) (by omega) (fun c34 => ?_) (fun c34 => absurd c34 (by decide))
          refine r_aload_n d_X8_weight_50 rfl ?_
          refine r_getr d_X8_weight_51 f_X8_25 (tt_139 _ _) (by decide) rfl (rr_139_6 _) ?_
          refine r_iload d_X8_weight_54 rfl ?_
          refine r_ialdJ d_X8_weight_56 (tt_145 _ _) rfl (by omega) (kk := ?_)
          rw [e5]
          refine r_imul d_X8_weight_57 ?_
          rw [← ew]
          refine r_istore_n d_X8_weight_58 (by decide) ?_
          refine r_iinc d_X8_weight_59 rfl (by decide) ?_
          refine r_iinc d_X8_weight_62 rfl (by decide) ?_
          refine r_goto d_X8_weight_65 ?_
          exact CpL (ih (b + 1) (by omega)) (by repeat (first | exact trivial | refine ⟨rfl, ?_⟩ | refine ⟨by rw [es]; rfl, ?_⟩))
  refine r_iconst d_X8_weight_0 ?_
  refine r_istore_n d_X8_weight_1 (by decide) ?_
  refine r_iconst d_X8_weight_2 ?_
  refine r_istore_n d_X8_weight_3 (by decide) ?_
  refine r_iconst d_X8_weight_4 ?_
  refine r_istore d_X8_weight_5 (by decide) ?_
  exact CpL (loop nr 0 (by omega)) (by repeat (first | exact trivial | refine ⟨rfl, ?_⟩))
end X75
