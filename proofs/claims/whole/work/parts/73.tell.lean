theorem RR_snoc {tl : List Nat} {m n : Nat} {R : sR} (hn : n = tl.length) (h1 : ∀ a, a < 186 + 3 * n → R a = RR tl a) (h2 : ∀ k, R (186 + 3 * n) k = none) (h3 : ∀ k, R (186 + 3 * n + 1) k = none) (h4 : ∀ k, R (186 + 3 * n + 2) k = none) : ∀ a, a < 186 + 3 * (tl ++ [m]).length → up2 (up2 (up2 R (186 + 3 * n) 2 (some (186 + 3 * n + 1))) (186 + 3 * n) 3 (some (186 + 3 * n + 2))) 62 n (some (186 + 3 * n)) a = RR (tl ++ [m]) a := by
  intro a ha
  rw [List.length_append] at ha
  have ha2 : a < 186 + 3 * (tl.length + 1) := ha
  funext k
  by_cases e62 : a = 62
  · subst e62
    have er : RR (tl ++ [m]) 62 k = if k < tl.length + 1 then some (186 + 3 * k) else none := by
      show (if 62 < 186 then (if 62 = 62 then (if k < (tl ++ [m]).length then some (186 + 3 * k) else none) else _) else _) = _
      rw [List.length_append]; rfl
    have er2 : RR tl 62 k = if k < tl.length then some (186 + 3 * k) else none := rfl
    rw [er]
    by_cases ek : k = n
    · rw [ek, up2_at, if_pos (by omega)]
    · rw [up2_nj _ _ ek, up2_ne _ _ (by omega), up2_ne _ _ (by omega), h1 62 (by omega), er2]
      by_cases hk : k < tl.length
      · rw [if_pos hk, if_pos (by omega)]
      · rw [if_neg hk, if_neg (by omega)]
  · rw [up2_ne _ _ e62]
    by_cases el : a < 186 + 3 * n
    · rw [up2_ne _ _ (by omega), up2_ne _ _ (by omega), h1 a el]
      unfold RR
      rw [if_neg e62, if_neg e62]
    · have hc : a = 186 + 3 * n ∨ a = 186 + 3 * n + 1 ∨ a = 186 + 3 * n + 2 := by omega
      have er : ∀ a k, 186 ≤ a → RR (tl ++ [m]) a k = if (a - 186) % 3 = 0 then (if k = 2 then some (a + 1) else if k = 3 then some (a + 2) else none) else none := fun a k h => by
        unfold RR; rw [if_neg (by omega)]
      rw [er a k (by omega)]
      rcases hc with rfl | rfl | rfl
      · rw [if_pos (by omega)]
        by_cases k3 : k = 3
        · rw [k3, up2_at, if_neg (by omega), if_pos rfl]
        · rw [up2_nj _ _ k3]
          by_cases k2 : k = 2
          · rw [k2, up2_at, if_pos rfl]
          · rw [up2_nj _ _ k2, h2, if_neg k2, if_neg k3]
      · rw [up2_ne _ _ (by omega), up2_ne _ _ (by omega), h3, if_neg (by omega)]
      · rw [up2_ne _ _ (by omega), up2_ne _ _ (by omega), h4, if_neg (by omega)]
def rlF (kind n : Int) (nu : Nat) : Int := if (0 ≤ kind ∧ kind ≤ 5) ∧ (0 ≤ n ∧ n ≤ (if kind = 5 then 1 else 0)) then (if nu < 8 then 0 else -104) else -102
/-- one rule more, in memory -/
def NEWU (σ : Sg) (ℓ : Int) (nr nw ng Ls m : Nat) (tl : List Nat) (ukd unn : Nat → Int) (utr utw : Nat → Nat → Nat) (kd nn : Int) (tr tw : Nat → Nat) (L : sI) (T' : sT) (I' L' : sI) (R' : sR) : Prop := T' = TT Ls (tl ++ [m]) ∧ (∀ a, a < 186 + 3 * (tl ++ [m]).length → R' a = RR (tl ++ [m]) a) ∧ (∀ a, a < 186 + 3 * tl.length → L' a = L a) ∧ XS σ ℓ nr nw ng (tl ++ [m]) (upN ukd tl.length kd) (upN unn tl.length nn) (upN utr tl.length tr) (upN utw tl.length tw) I' L'
theorem stpT_ex {pg : Nat → Int} : ∀ len : Nat, ∃ p s, stpT pg len p s
  | 0 => ⟨0, _, rfl, Nat.le_refl _, Or.inl rfl⟩
  | n + 1 => by
    obtain ⟨p, s, h1, h2, h3⟩ := stpT_ex (pg := pg) n
    by_cases e : tstT s (pg p) = none
    · exact ⟨p, s, h1, by omega, Or.inr e⟩
    · have hp : p = n := by
        rcases h3 with h | h
        · exact h
        · exact absurd h e
      cases hs : tstT s (pg p) with
      | none => exact absurd hs e
      | some t => exact ⟨p + 1, t, runT_suc h1 hs, by omega, Or.inl (by omega)⟩
section C73
variable {g : sG} {Ls : Nat} {tl : List Nat} {I L : sI} {σ : Sg} {ℓ : Int} {nr nw ng : Nat} {ukd unn : Nat → Int} {utr utw : Nat → Nat → Nat}
theorem c_rule_no (hX : XS σ ℓ nr nw ng tl ukd unn utr utw I L) {kind n : Int} (hk : i32 kind) (hn : i32 n) (hz : rlF kind n tl.length ≠ 0) : Mc g 0 m_X7_rule 0 0 [vr 3, vi kind, vi n] (TT Ls tl) I L (RR tl) (qI fun z T' I' L' R' => z = rlF kind n tl.length ∧ same (TT Ls tl) I L (RR tl) T' I' L' R') := by
  refine Mc_of rfl (Nat.le_of_ble_eq_true rfl) ?_
  have hk2 : -2147483648 ≤ kind ∧ kind ≤ 2147483647 := hk
  have hn2 : -2147483648 ≤ n ∧ n ≤ 2147483647 := hn
  have e4 : I 3 4 = (tl.length : Int) := hX.2.1
  have h8 := hX.2.2.1
  unfold rlF at hz ⊢
  by_cases c : (0 ≤ kind ∧ kind ≤ 5) ∧ (0 ≤ n ∧ n ≤ (if kind = 5 then 1 else 0))
  · rw [if_pos c] at hz ⊢
    by_cases c8 : tl.length < 8
    · rw [if_pos c8] at hz; exact absurd rfl hz
    · rw [if_neg c8]
      by_cases k5 : kind = 5
      · rw [if_pos k5] at c
        refine r_iload_n d_X7_rule_0 rfl ?_
        refine r_if_lt d_X7_rule_1 (by omega) (fun c1 => absurd c1 (by omega)) (fun c1 => ?_)
        refine r_iload_n d_X7_rule_4 rfl ?_
        refine r_iconst d_X7_rule_5 ?_
        refine r_icmp_gt d_X7_rule_6 (by omega) (by omega) (fun c6 => absurd c6 (by omega)) (fun c6 => ?_)
        refine r_iload_n d_X7_rule_9 rfl ?_
        refine r_if_lt d_X7_rule_10 (by omega) (fun c10 => absurd c10 (by omega)) (fun c10 => ?_)
        refine r_iload_n d_X7_rule_13 rfl ?_
        refine r_iload_n d_X7_rule_14 rfl ?_
        refine r_iconst d_X7_rule_15 ?_
        refine r_icmp_ne d_X7_rule_16 (by omega) (by omega) (fun c16 => absurd c16 (by omega)) (fun c16 => ?_)
        refine r_iconst d_X7_rule_19 ?_
        refine r_goto d_X7_rule_20 ?_
        refine r_icmp_le d_X7_rule_24 (by omega) (by omega) (fun c24 => ?_) (fun c24 => absurd c24 (by omega))
        refine r_aload_n d_X7_rule_30 rfl ?_
        refine r_geti d_X7_rule_31 f_X7_97 (tt_3 _ _) (by decide) (by decide) ?_
        rw [e4]
        refine r_bipush d_X7_rule_34 (by decide) ?_
        refine r_icmp_lt d_X7_rule_36 (by omega) (by omega) (fun c36 => absurd c36 (by omega)) (fun c36 => ?_)
        refine r_bipush d_X7_rule_39 (by decide) ?_
        refine r_iret d_X7_rule_41 rfl ?_
        exact ⟨_, rfl, rfl, same_rf⟩
      · rw [if_neg k5] at c
        refine r_iload_n d_X7_rule_0 rfl ?_
        refine r_if_lt d_X7_rule_1 (by omega) (fun c1 => absurd c1 (by omega)) (fun c1 => ?_)
        refine r_iload_n d_X7_rule_4 rfl ?_
        refine r_iconst d_X7_rule_5 ?_
        refine r_icmp_gt d_X7_rule_6 (by omega) (by omega) (fun c6 => absurd c6 (by omega)) (fun c6 => ?_)
        refine r_iload_n d_X7_rule_9 rfl ?_
        refine r_if_lt d_X7_rule_10 (by omega) (fun c10 => absurd c10 (by omega)) (fun c10 => ?_)
        refine r_iload_n d_X7_rule_13 rfl ?_
        refine r_iload_n d_X7_rule_14 rfl ?_
        refine r_iconst d_X7_rule_15 ?_
        refine r_icmp_ne d_X7_rule_16 (by omega) (by omega) (fun c16 => ?_) (fun c16 => absurd c16 (by omega))
        refine r_iconst d_X7_rule_23 ?_
        refine r_icmp_le d_X7_rule_24 (by omega) (by omega) (fun c24 => ?_) (fun c24 => absurd c24 (by omega))
        refine r_aload_n d_X7_rule_30 rfl ?_
        refine r_geti d_X7_rule_31 f_X7_97 (tt_3 _ _) (by decide) (by decide) ?_
        rw [e4]
        refine r_bipush d_X7_rule_34 (by decide) ?_
        refine r_icmp_lt d_X7_rule_36 (by omega) (by omega) (fun c36 => absurd c36 (by omega)) (fun c36 => ?_)
        refine r_bipush d_X7_rule_39 (by decide) ?_
        refine r_iret d_X7_rule_41 rfl ?_
        exact ⟨_, rfl, rfl, same_rf⟩
  · rw [if_neg c]
    by_cases k5 : kind = 5
    · rw [if_pos k5] at c
      refine r_iload_n d_X7_rule_0 rfl ?_
      refine r_if_lt d_X7_rule_1 (by omega) (fun c1 => ?_) (fun c1 => ?_)
      · refine r_bipush d_X7_rule_27 (by decide) ?_
        refine r_iret d_X7_rule_29 rfl ?_
        exact ⟨_, rfl, rfl, same_rf⟩
      · refine r_iload_n d_X7_rule_4 rfl ?_
        refine r_iconst d_X7_rule_5 ?_
        refine r_icmp_gt d_X7_rule_6 (by omega) (by omega) (fun c6 => ?_) (fun c6 => ?_)
        · refine r_bipush d_X7_rule_27 (by decide) ?_
          refine r_iret d_X7_rule_29 rfl ?_
          exact ⟨_, rfl, rfl, same_rf⟩
        · refine r_iload_n d_X7_rule_9 rfl ?_
          refine r_if_lt d_X7_rule_10 (by omega) (fun c10 => ?_) (fun c10 => ?_)
          · refine r_bipush d_X7_rule_27 (by decide) ?_
            refine r_iret d_X7_rule_29 rfl ?_
            exact ⟨_, rfl, rfl, same_rf⟩
          · refine r_iload_n d_X7_rule_13 rfl ?_
            refine r_iload_n d_X7_rule_14 rfl ?_
            refine r_iconst d_X7_rule_15 ?_
            refine r_icmp_ne d_X7_rule_16 (by omega) (by omega) (fun c16 => absurd c16 (by omega)) (fun c16 => ?_)
            refine r_iconst d_X7_rule_19 ?_
            refine r_goto d_X7_rule_20 ?_
            refine r_icmp_le d_X7_rule_24 (by omega) (by omega) (fun c24 => absurd c24 (by omega)) (fun c24 => ?_)
            refine r_bipush d_X7_rule_27 (by decide) ?_
            refine r_iret d_X7_rule_29 rfl ?_
            exact ⟨_, rfl, rfl, same_rf⟩
    · rw [if_neg k5] at c
      refine r_iload_n d_X7_rule_0 rfl ?_
      refine r_if_lt d_X7_rule_1 (by omega) (fun c1 => ?_) (fun c1 => ?_)
      · refine r_bipush d_X7_rule_27 (by decide) ?_
        refine r_iret d_X7_rule_29 rfl ?_
        exact ⟨_, rfl, rfl, same_rf⟩
      · refine r_iload_n d_X7_rule_4 rfl ?_
        refine r_iconst d_X7_rule_5 ?_
        refine r_icmp_gt d_X7_rule_6 (by omega) (by omega) (fun c6 => ?_) (fun c6 => ?_)
        · refine r_bipush d_X7_rule_27 (by decide) ?_
          refine r_iret d_X7_rule_29 rfl ?_
          exact ⟨_, rfl, rfl, same_rf⟩
        · refine r_iload_n d_X7_rule_9 rfl ?_
          refine r_if_lt d_X7_rule_10 (by omega) (fun c10 => ?_) (fun c10 => ?_)
          · refine r_bipush d_X7_rule_27 (by decide) ?_
            refine r_iret d_X7_rule_29 rfl ?_
            exact ⟨_, rfl, rfl, same_rf⟩
          · refine r_iload_n d_X7_rule_13 rfl ?_
            refine r_iload_n d_X7_rule_14 rfl ?_
            refine r_iconst d_X7_rule_15 ?_
            refine r_icmp_ne d_X7_rule_16 (by omega) (by omega) (fun c16 => ?_) (fun c16 => absurd c16 (by omega))
            refine r_iconst d_X7_rule_23 ?_
            refine r_icmp_le d_X7_rule_24 (by omega) (by omega) (fun c24 => absurd c24 (by omega)) (fun c24 => ?_)
            refine r_bipush d_X7_rule_27 (by decide) ?_
            refine r_iret d_X7_rule_29 rfl ?_
            exact ⟨_, rfl, rfl, same_rf⟩
theorem c_rule (hX : XS σ ℓ nr nw ng tl ukd unn utr utw I L) {kind n : Int} (hk : i32 kind) (hn : i32 n) (hz : rlF kind n tl.length = 0) : Mc g 2 m_X7_rule 3 4 [vr 3, vi kind, vi n] (TT Ls tl) I L (RR tl) (qI fun z T' I' L' R' => z = (tl.length : Int) ∧ NEWU σ ℓ nr nw ng Ls 0 tl ukd unn utr utw kind n (fun _ => 0) (fun _ => 0) L T' I' L' R' ∧ (∀ a, a ≠ 3 → a < 186 + 3 * tl.length → I' a = I a) ∧ (∀ k, k ≠ 4 → I' 3 k = I 3 k)) := by
  refine Mc_of rfl (Nat.le_of_ble_eq_true rfl) ?_
  have hk2 : -2147483648 ≤ kind ∧ kind ≤ 2147483647 := hk
  have hn2 : -2147483648 ≤ n ∧ n ≤ 2147483647 := hn
  have e4 : I 3 4 = (tl.length : Int) := hX.2.1
  have h8 := hX.2.2.1
  have hc : ((0 ≤ kind ∧ kind ≤ 5) ∧ (0 ≤ n ∧ n ≤ (if kind = 5 then 1 else 0))) ∧ tl.length < 8 := by
    unfold rlF at hz
    by_cases c : (0 ≤ kind ∧ kind ≤ 5) ∧ (0 ≤ n ∧ n ≤ (if kind = 5 then 1 else 0))
    · rw [if_pos c] at hz
      by_cases c8 : tl.length < 8
      · exact ⟨c, c8⟩
      · rw [if_neg c8] at hz; omega
    · rw [if_neg c] at hz; omega
  obtain ⟨c, c8⟩ := hc
  have hTl := TT_len Ls tl
  have t42 : Cp g 2 m_X7_rule 3 4 (qI fun z T' I' L' R' => z = (tl.length : Int) ∧ NEWU σ ℓ nr nw ng Ls 0 tl ukd unn utr utw kind n (fun _ => 0) (fun _ => 0) L T' I' L' R' ∧ (∀ a, a ≠ 3 → a < 186 + 3 * tl.length → I' a = I a) ∧ (∀ k, k ≠ 4 → I' 3 k = I 3 k)) 42 [(0, vr 3), (1, vi kind), (2, vi n)] [] (TT Ls tl) I L (RR tl) := by
    have L1 : (TT Ls tl ++ [(6, 4)]).length = 186 + 3 * tl.length + 1 := by rw [List.length_append, hTl]; rfl
    have L2 : (TT Ls tl ++ [(6, 4)] ++ [(10, 0)]).length = 186 + 3 * tl.length + 2 := by rw [List.length_append, L1]; rfl
    refine r_aload_n d_X7_rule_42 rfl ?_
    refine r_new (c := 6) d_X7_rule_43 rfl rfl (n_X7_26 _ rfl) (by decide) ?_
    refine r_dup d_X7_rule_46 rfl ?_
    refine r_iload_n d_X7_rule_47 rfl ?_
    refine r_iload_n d_X7_rule_48 rfl ?_
    refine r_iconst d_X7_rule_49 ?_
    refine r_newa (kd := 10) (N := 0) d_X7_rule_50 (Or.inl ⟨rfl, rfl⟩) ac_int (by omega) rfl ?_
    refine r_iconst d_X7_rule_52 ?_
    refine r_newa (kd := 10) (N := 0) d_X7_rule_53 (Or.inl ⟨rfl, rfl⟩) ac_int (by omega) rfl ?_
    refine r_I4v d_X7_rule_55 (w_X7_107 _ rfl) (c_Rule (tapp (tapp tlast))) (by decide) (Nat.le_of_ble_eq_true rfl) (fun T55 I55 L55 R55 h55 => ?_)
    obtain ⟨rfl, rfl, rfl, rfl⟩ := h55
    rw [L1, L2, hTl]
    have i3 : ∀ x y : Int, up2 (up2 (zrf (zrf (zrf I (186 + 3 * tl.length)) (186 + 3 * tl.length + 1)) (186 + 3 * tl.length + 2)) (186 + 3 * tl.length) 0 x) (186 + 3 * tl.length) 1 y 3 4 = (tl.length : Int) := fun x y => by
      rw [up2_ne _ _ (by omega), up2_ne _ _ (by omega), zrf_lt (by omega), zrf_lt (by omega), zrf_lt (by omega)]; exact e4
    have hTa : (TT Ls tl ++ [(6, 4)] ++ [(10, 0)] ++ [(10, 0)])[186 + 3 * tl.length]? = some (6, 4) := by rw [← hTl]; exact tapp (tapp tlast)
    refine r_V1i d_X7_rule_58 (w_X7_110 _ rfl) (tapp (tapp (tapp (tt_3 _ _)))) rfl rfl (c_addRule (tapp (tapp (tapp (tt_3 _ _)))) (tapp (tapp (tapp (tt_62 _ _)))) hTa ?_ (i3 _ _) c8) (by decide) (Nat.le_of_ble_eq_true rfl) (fun z58 T58 I58 L58 R58 h58 => ?_)
    · rw [up2_ne _ _ (by omega), up2_ne _ _ (by omega), rnf_lt (by omega), rnf_lt (by omega), rnf_lt (by omega)]
      exact rr_3_3 tl
    · obtain ⟨rfl, rfl, rfl, rfl, rfl⟩ := h58
      have oI : ∀ (x y : Int) (a : Nat), a < 186 + 3 * tl.length → up2 (up2 (zrf (zrf (zrf I (186 + 3 * tl.length)) (186 + 3 * tl.length + 1)) (186 + 3 * tl.length + 2)) (186 + 3 * tl.length) 0 x) (186 + 3 * tl.length) 1 y a = I a := fun x y a ha => by
        rw [up2_ne _ _ (by omega), up2_ne _ _ (by omega), zrf_lt (by omega), zrf_lt (by omega), zrf_lt (by omega)]
      refine r_iret d_X7_rule_61 rfl ?_
      refine ⟨_, rfl, rfl, ⟨TT_snoc, RR_snoc rfl (fun a ha => ?_) (fun k => ?_) (fun k => ?_) (fun k => ?_), fun a ha => by rw [zrf_lt (by omega), zrf_lt (by omega), zrf_lt (by omega)], ?_⟩, fun a h1 h2 => by rw [up2_ne _ _ h1]; exact oI _ _ a h2, fun k hk => by rw [up2_nj _ _ hk, oI _ _ 3 (by omega)]⟩
      · rw [rnf_lt (by omega), rnf_lt (by omega), rnf_lt (by omega)]
      · rw [rnf_lt (by omega), rnf_lt (by omega)]; unfold rnf; rw [if_pos (by omega)]
      · rw [rnf_lt (by omega)]; unfold rnf; rw [if_pos (by omega)]
      · unfold rnf; rw [if_pos (by omega)]
      · refine XS_rule hX c8 (fun a h1 h2 => by rw [up2_ne _ _ (by omega)]; exact oI _ _ a h2) (up2_at _ _ _ _) (by rw [zrf_lt (by omega), zrf_lt (by omega), zrf_lt (by omega)]) (by omega) (by omega) (by have := c.2; split at this <;> omega) ?_ ?_ (fun i h => absurd h (by omega))
        · rw [up2_ne _ _ (by omega), up2_nj _ _ (by decide), up2_at]
        · rw [up2_ne _ _ (by omega), up2_at]
  by_cases k5 : kind = 5
  · rw [if_pos k5] at c
    refine r_iload_n d_X7_rule_0 rfl ?_
    refine r_if_lt d_X7_rule_1 (by omega) (fun c1 => absurd c1 (by omega)) (fun c1 => ?_)
    refine r_iload_n d_X7_rule_4 rfl ?_
    refine r_iconst d_X7_rule_5 ?_
    refine r_icmp_gt d_X7_rule_6 (by omega) (by omega) (fun c6 => absurd c6 (by omega)) (fun c6 => ?_)
    refine r_iload_n d_X7_rule_9 rfl ?_
    refine r_if_lt d_X7_rule_10 (by omega) (fun c10 => absurd c10 (by omega)) (fun c10 => ?_)
    refine r_iload_n d_X7_rule_13 rfl ?_
    refine r_iload_n d_X7_rule_14 rfl ?_
    refine r_iconst d_X7_rule_15 ?_
    refine r_icmp_ne d_X7_rule_16 (by omega) (by omega) (fun c16 => absurd c16 (by omega)) (fun c16 => ?_)
    refine r_iconst d_X7_rule_19 ?_
    refine r_goto d_X7_rule_20 ?_
    refine r_icmp_le d_X7_rule_24 (by omega) (by omega) (fun c24 => ?_) (fun c24 => absurd c24 (by omega))
    refine r_aload_n d_X7_rule_30 rfl ?_
    refine r_geti d_X7_rule_31 f_X7_97 (tt_3 _ _) (by decide) (by decide) ?_
    rw [e4]
    refine r_bipush d_X7_rule_34 (by decide) ?_
    refine r_icmp_lt d_X7_rule_36 (by omega) (by omega) (fun c36 => ?_) (fun c36 => absurd c36 (by omega))
    exact t42
  · rw [if_neg k5] at c
    refine r_iload_n d_X7_rule_0 rfl ?_
    refine r_if_lt d_X7_rule_1 (by omega) (fun c1 => absurd c1 (by omega)) (fun c1 => ?_)
    refine r_iload_n d_X7_rule_4 rfl ?_
    refine r_iconst d_X7_rule_5 ?_
    refine r_icmp_gt d_X7_rule_6 (by omega) (by omega) (fun c6 => absurd c6 (by omega)) (fun c6 => ?_)
    refine r_iload_n d_X7_rule_9 rfl ?_
    refine r_if_lt d_X7_rule_10 (by omega) (fun c10 => absurd c10 (by omega)) (fun c10 => ?_)
    refine r_iload_n d_X7_rule_13 rfl ?_
    refine r_iload_n d_X7_rule_14 rfl ?_
    refine r_iconst d_X7_rule_15 ?_
    refine r_icmp_ne d_X7_rule_16 (by omega) (by omega) (fun c16 => ?_) (fun c16 => absurd c16 (by omega))
    refine r_iconst d_X7_rule_23 ?_
    refine r_icmp_le d_X7_rule_24 (by omega) (by omega) (fun c24 => ?_) (fun c24 => absurd c24 (by omega))
    refine r_aload_n d_X7_rule_30 rfl ?_
    refine r_geti d_X7_rule_31 f_X7_97 (tt_3 _ _) (by decide) (by decide) ?_
    rw [e4]
    refine r_bipush d_X7_rule_34 (by decide) ?_
    refine r_icmp_lt d_X7_rule_36 (by omega) (by omega) (fun c36 => ?_) (fun c36 => absurd c36 (by omega))
    exact t42
theorem c_tell_no (hX : XS σ ℓ nr nw ng tl ukd unn utr utw I L) {pg : Nat → Int} {len p : Nat} {s : tSt} (hP : PGL pg len I) (hst : stpT pg len p s) (hno : ¬ (0 < len ∧ p = len ∧ tl.length < 8)) : Mc g 2 m_X7_tell 0 0 [vr 3] (TT Ls tl) I L (RR tl) (qI fun z T' I' L' R' => T' = TT Ls tl ∧ R' = RR tl ∧ L' = L ∧ (∀ a, a ≠ 4 → a ≠ 6 → a ≠ 7 → I' a = I a) ∧ (∀ k, k ≠ 2 → k ≠ 6 → I' 4 k = I 4 k) ∧ z = if 0 < len ∧ p = len then -104 else -103) := by
  refine Mc_of rfl (Nat.le_of_ble_eq_true rfl) ?_
  have e4 : I 3 4 = (tl.length : Int) := hX.2.1
  have h8 := hX.2.2.1
  have e1 := hP.1
  have hp := hP.2.1
  by_cases k0 : len = 0
  · skip
    refine r_aload_n d_X7_tell_0 rfl ?_
    refine r_getr d_X7_tell_1 f_X7_10 (tt_3 _ _) (by decide) rfl (rr_3_0 _) ?_
    refine r_geti d_X7_tell_4 f_X7_68 (tt_4 _ _) (by decide) (by decide) ?_
    rw [e1]
    refine r_if_eq d_X7_tell_7 (by omega) (fun c7 => ?_) (fun c7 => absurd c7 (by omega))
    refine r_bipush d_X7_tell_20 (by decide) ?_
    refine r_iret d_X7_tell_22 rfl ?_
    exact ⟨_, rfl, rfl, rfl, rfl, fun _ _ _ _ => rfl, fun _ _ _ => rfl, by rw [if_neg (by omega)]⟩
  · by_cases kp : p = len
    · skip
      refine r_aload_n d_X7_tell_0 rfl ?_
      refine r_getr d_X7_tell_1 f_X7_10 (tt_3 _ _) (by decide) rfl (rr_3_0 _) ?_
      refine r_geti d_X7_tell_4 f_X7_68 (tt_4 _ _) (by decide) (by decide) ?_
      rw [e1]
      refine r_if_eq d_X7_tell_7 (by omega) (fun c7 => absurd c7 (by omega)) (fun c7 => ?_)
      refine r_aload_n d_X7_tell_10 rfl ?_
      refine r_getr d_X7_tell_11 f_X7_10 (tt_3 _ _) (by decide) rfl (rr_3_0 _) ?_
      refine r_V0i d_X7_tell_14 (w_X7_80 _ rfl) (tt_4 _ _) rfl rfl (c_readTold hP) (by decide) (Nat.le_of_ble_eq_true rfl) (fun z14 T14 I14 L14 R14 h14 => ?_)
      obtain ⟨rfl, rfl, rfl, y1, y2, p', s', y3, y4, y5, y6⟩ := h14
      obtain ⟨rfl, rfl⟩ := stpT_uq hst y3
      rw [if_pos kp] at y5
      have e34 : I14 3 4 = (tl.length : Int) := by rw [y1 3 (by decide) (by decide) (by decide)]; exact e4
      rw [y5]
      refine r_if_ne d_X7_tell_17 (by omega) (fun c17 => ?_) (fun c17 => absurd c17 (by decide))
      refine r_aload_n d_X7_tell_23 rfl ?_
      refine r_geti d_X7_tell_24 f_X7_97 (tt_3 _ _) (by decide) (by decide) ?_
      rw [e34]
      refine r_bipush d_X7_tell_27 (by decide) ?_
      refine r_icmp_lt d_X7_tell_29 (by omega) (by omega) (fun c29 => absurd c29 (by omega)) (fun c29 => ?_)
      refine r_bipush d_X7_tell_32 (by decide) ?_
      refine r_iret d_X7_tell_34 rfl ?_
      exact ⟨_, rfl, rfl, rfl, rfl, y1, y2, by rw [if_pos ⟨by omega, kp⟩]⟩
    · skip
      refine r_aload_n d_X7_tell_0 rfl ?_
      refine r_getr d_X7_tell_1 f_X7_10 (tt_3 _ _) (by decide) rfl (rr_3_0 _) ?_
      refine r_geti d_X7_tell_4 f_X7_68 (tt_4 _ _) (by decide) (by decide) ?_
      rw [e1]
      refine r_if_eq d_X7_tell_7 (by omega) (fun c7 => absurd c7 (by omega)) (fun c7 => ?_)
      refine r_aload_n d_X7_tell_10 rfl ?_
      refine r_getr d_X7_tell_11 f_X7_10 (tt_3 _ _) (by decide) rfl (rr_3_0 _) ?_
      refine r_V0i d_X7_tell_14 (w_X7_80 _ rfl) (tt_4 _ _) rfl rfl (c_readTold hP) (by decide) (Nat.le_of_ble_eq_true rfl) (fun z14 T14 I14 L14 R14 h14 => ?_)
      obtain ⟨rfl, rfl, rfl, y1, y2, p', s', y3, y4, y5, y6⟩ := h14
      obtain ⟨rfl, rfl⟩ := stpT_uq hst y3
      rw [if_neg kp] at y5
      rw [y5]
      refine r_if_ne d_X7_tell_17 (by omega) (fun c17 => absurd c17 (by decide)) (fun c17 => ?_)
      refine r_bipush d_X7_tell_20 (by decide) ?_
      refine r_iret d_X7_tell_22 rfl ?_
      exact ⟨_, rfl, rfl, rfl, rfl, y1, y2, by rw [if_neg (fun q => kp q.2)]⟩
theorem c_tell (hX : XS σ ℓ nr nw ng tl ukd unn utr utw I L) {pg : Nat → Int} {len n : Nat} {s : tSt} (hP : PGL pg len I) (hst : stpT pg len len s) (h0 : 0 < len) (c8 : tl.length < 8) (hn : n = s.2.2.length) : Mc g 3 m_X7_tell 3 (0 + n + n + 4) [vr 3] (TT Ls tl) I L (RR tl) (qI fun z T' I' L' R' => z = (tl.length : Int) ∧ NEWU σ ℓ nr nw ng Ls n tl ukd unn utr utw 6 0 (fun i => (s.2.2.getD i (0, 0)).1) (fun i => (s.2.2.getD i (0, 0)).2) L T' I' L' R' ∧ (∀ a, ¬ (a = 3 ∨ a = 4 ∨ a = 6 ∨ a = 7) → a < 186 + 3 * tl.length → I' a = I a) ∧ (∀ k, k ≠ 4 → I' 3 k = I 3 k) ∧ I' 4 1 = 0) := by
  refine Mc_of rfl (Nat.le_of_ble_eq_true rfl) ?_
  have e4 : I 3 4 = (tl.length : Int) := hX.2.1
  have h8 := hX.2.2.1
  have e1 := hP.1
  have hp := hP.2.1
  have hTl := TT_len Ls tl
  obtain ⟨v1, v2, v3⟩ := TIV_run len s hst.1
  have hn8 : n ≤ 8 := by omega
  have L1 : (TT Ls tl ++ [(6, 4)]).length = 186 + 3 * tl.length + 1 := by rw [List.length_append, hTl]; rfl
  have L2 : (TT Ls tl ++ [(6, 4)] ++ [(10, n)]).length = 186 + 3 * tl.length + 2 := by rw [List.length_append, L1]; rfl
  refine r_aload_n d_X7_tell_0 rfl ?_
  refine r_getr d_X7_tell_1 f_X7_10 (tt_3 _ _) (by decide) rfl (rr_3_0 _) ?_
  refine r_geti d_X7_tell_4 f_X7_68 (tt_4 _ _) (by decide) (by decide) ?_
  rw [e1]
  refine r_if_eq d_X7_tell_7 (by omega) (fun c7 => absurd c7 (by omega)) (fun c7 => ?_)
  refine r_aload_n d_X7_tell_10 rfl ?_
  refine r_getr d_X7_tell_11 f_X7_10 (tt_3 _ _) (by decide) rfl (rr_3_0 _) ?_
  refine r_V0i d_X7_tell_14 (w_X7_80 _ rfl) (tt_4 _ _) rfl rfl (c_readTold hP) (by decide) (Nat.le_of_ble_eq_true rfl) (fun z14 T14 I14 L14 R14 h14 => ?_)
  obtain ⟨rfl, rfl, rfl, y1, y2, p', s', y3, y4, y5, y6⟩ := h14
  obtain ⟨rfl, rfl⟩ := stpT_uq hst y3
  rw [if_pos rfl] at y5
  have e34 : I14 3 4 = (tl.length : Int) := by rw [y1 3 (by decide) (by decide) (by decide)]; exact e4
  have e46 : I14 4 6 = (n : Int) := by rw [hn]; exact y6.1
  rw [y5]
  refine r_if_ne d_X7_tell_17 (by omega) (fun c17 => ?_) (fun c17 => absurd c17 (by decide))
  refine r_aload_n d_X7_tell_23 rfl ?_
  refine r_geti d_X7_tell_24 f_X7_97 (tt_3 _ _) (by decide) (by decide) ?_
  rw [e34]
  refine r_bipush d_X7_tell_27 (by decide) ?_
  refine r_icmp_lt d_X7_tell_29 (by omega) (by omega) (fun c29 => ?_) (fun c29 => absurd c29 (by omega))
  refine r_aload_n d_X7_tell_35 rfl ?_
  refine r_new (c := 6) d_X7_tell_36 rfl rfl (n_X7_26 _ rfl) (by decide) ?_
  refine r_dup d_X7_tell_39 rfl ?_
  refine r_bipush d_X7_tell_40 (by decide) ?_
  refine r_iconst d_X7_tell_42 ?_
  refine r_aload_n d_X7_tell_43 rfl ?_
  refine r_getr d_X7_tell_44 f_X7_10 (tapp (tt_3 _ _)) (by decide) rfl (by rw [rnf_lt (by omega)]; exact rr_3_0 tl) ?_
  have hr1 := c_toldRooms (g := g) (T := TT Ls tl ++ [(6, 4)]) (I := zrf I14 (TT Ls tl).length) (L := zrf L14 (TT Ls tl).length) (R := rnf (RR tl) (TT Ls tl).length) (n := n) (tapp (tt_4 _ _)) (tapp (tt_6 _ _)) (by rw [rnf_lt (by omega)]; exact rr_4_4 tl) (by rw [zrf_lt (by omega)]; exact e46) hn8
  rw [Nat.zero_add] at hr1
  refine r_V0r d_X7_tell_47 (w_X7_100 _ rfl) (tapp (tt_4 _ _)) rfl rfl hr1 (by decide) (Nat.le_of_ble_eq_true rfl) (fun z47 T47 I47 L47 R47 h47 => ?_)
  obtain ⟨rfl, rfl, p1, p2, p3⟩ := h47
  rw [L1] at p1 p2 p3
  have q4 : ∀ a, a < 186 + 3 * tl.length → I47 a = I14 a ∧ L47 a = L14 a ∧ R47 a = RR tl a := fun a ha => by
    obtain ⟨r1, r2, r3⟩ := p1 a (by omega)
    exact ⟨by rw [r1, zrf_lt (by omega)], by rw [r2, zrf_lt (by omega)], by rw [r3, rnf_lt (by omega)]⟩
  refine r_aload_n d_X7_tell_50 rfl ?_
  refine r_getr d_X7_tell_51 f_X7_10 (tapp (tapp (tt_3 _ _))) (by decide) rfl (by rw [(q4 3 (by omega)).2.2]; exact rr_3_0 tl) ?_
  have hr2 := c_toldWomen (g := g) (T := TT Ls tl ++ [(6, 4)] ++ [(10, n)]) (I := I47) (L := L47) (R := R47) (n := n) (tapp (tapp (tt_4 _ _))) (tapp (tapp (tt_7 _ _))) (by rw [(q4 4 (by omega)).2.2]; exact rr_4_5 tl) (by rw [(q4 4 (by omega)).1]; exact e46) hn8
  rw [Nat.zero_add] at hr2
  refine r_V0r d_X7_tell_54 (w_X7_104 _ rfl) (tapp (tapp (tt_4 _ _))) rfl rfl hr2 (by decide) (Nat.le_of_ble_eq_true rfl) (fun z54 T54 I54 L54 R54 h54 => ?_)
  obtain ⟨rfl, rfl, w1, w2, w3⟩ := h54
  rw [L2] at w1 w2 w3
  refine r_I4v d_X7_tell_57 (w_X7_107 _ rfl) (c_Rule (tapp (tapp tlast))) (by decide) (Nat.le_of_ble_eq_true rfl) (fun T57 I57 L57 R57 h57 => ?_)
  obtain ⟨rfl, rfl, rfl, rfl⟩ := h57
  rw [L1, L2, hTl]
  have o54 : ∀ a, a < 186 + 3 * tl.length → I54 a = I14 a ∧ L57 a = L14 a ∧ R54 a = RR tl a := fun a ha => by
    obtain ⟨r1, r2, r3⟩ := w1 a (by omega)
    obtain ⟨s1, s2, s3⟩ := q4 a ha
    exact ⟨r1.trans s1, r2.trans s2, r3.trans s3⟩
  have i3 : ∀ x y : Int, up2 (up2 I54 (186 + 3 * tl.length) 0 x) (186 + 3 * tl.length) 1 y 3 4 = (tl.length : Int) := fun x y => by
    rw [up2_ne _ _ (by omega), up2_ne _ _ (by omega), (o54 3 (by omega)).1]; exact e34
  have hTa : (TT Ls tl ++ [(6, 4)] ++ [(10, n)] ++ [(10, n)])[186 + 3 * tl.length]? = some (6, 4) := by rw [← hTl]; exact tapp (tapp tlast)
  refine r_V1i d_X7_tell_60 (w_X7_110 _ rfl) (tapp (tapp (tapp (tt_3 _ _)))) rfl rfl (c_addRule (tapp (tapp (tapp (tt_3 _ _)))) (tapp (tapp (tapp (tt_62 _ _)))) hTa (by rw [up2_ne _ _ (by omega), up2_ne _ _ (by omega), (o54 3 (by omega)).2.2]; exact rr_3_3 tl) (i3 _ _) c8) (by decide) (Nat.le_of_ble_eq_true rfl) (fun z60 T60 I60 L60 R60 h60 => ?_)
  obtain ⟨rfl, rfl, rfl, rfl, rfl⟩ := h60
  refine r_istore_n d_X7_tell_63 (by decide) ?_
  refine r_aload_n d_X7_tell_64 rfl ?_
  refine r_getr d_X7_tell_65 f_X7_10 (tapp (tapp (tapp (tt_3 _ _)))) (by decide) rfl (by rw [up2_ne _ _ (by omega), up2_ne _ _ (by omega), up2_ne _ _ (by omega), (o54 3 (by omega)).2.2]; exact rr_3_0 tl) ?_
  refine r_iconst d_X7_tell_68 ?_
  refine r_puti d_X7_tell_69 f_X7_68 (tapp (tapp (tapp (tt_4 _ _)))) (by decide) (Or.inl rfl) ?_
  refine r_iload_n d_X7_tell_72 rfl ?_
  refine r_iret d_X7_tell_73 rfl ?_
  obtain ⟨K, hK⟩ : ∃ K, K = up2 (up2 (up2 (up2 I54 (186 + 3 * tl.length) 0 6) (186 + 3 * tl.length) 1 0) 3 4 ((tl.length : Int) + 1)) 4 1 0 := ⟨_, rfl⟩
  rw [← hK]
  have K3 : ∀ k, k ≠ 4 → K 3 k = I 3 k := fun k hk => by rw [hK, up2_ne _ _ (by omega), up2_nj _ _ hk, up2_ne _ _ (by omega), up2_ne _ _ (by omega), (o54 3 (by omega)).1, y1 3 (by decide) (by decide) (by decide)]
  have K34 : K 3 4 = (tl.length : Int) + 1 := by rw [hK, up2_ne _ _ (by omega), up2_at]
  have Ko : ∀ a, ¬ (a = 3 ∨ a = 4 ∨ a = 6 ∨ a = 7) → a < 186 + 3 * tl.length → K a = I a := fun a h1 h2 => by rw [hK, up2_ne _ _ (by omega), up2_ne _ _ (by omega), up2_ne _ _ (by omega), up2_ne _ _ (by omega), (o54 a h2).1, y1 a (by omega) (by omega) (by omega)]
  have Kb : ∀ a, 186 + 3 * tl.length < a → K a = I54 a := fun a h => by rw [hK, up2_ne _ _ (by omega), up2_ne _ _ (by omega), up2_ne _ _ (by omega), up2_ne _ _ (by omega)]
  refine ⟨_, rfl, rfl, ⟨TT_snoc, RR_snoc rfl (fun a ha => (o54 a ha).2.2) (fun k => ?_) (fun k => ?_) (fun k => w3 k), fun a ha => (o54 a ha).2.1, ?_⟩, Ko, K3, by rw [hK, up2_at]⟩
  · rw [(w1 _ (by omega)).2.2, (p1 _ (by omega)).2.2]
    unfold rnf; rw [if_pos (by omega)]
  · rw [(w1 _ (by omega)).2.2]; exact p3 k
  · refine XS_rule hX c8 Ko K34 (o54 2 (by omega)).2.1 hn8 (by omega) (by omega) ?_ ?_ (fun i hi => ?_)
    · rw [hK, up2_ne _ _ (by omega), up2_ne _ _ (by omega), up2_nj _ _ (by decide), up2_at]
    · rw [hK, up2_ne _ _ (by omega), up2_ne _ _ (by omega), up2_at]
    · have hil : i < s.2.2.length := by omega
      have eg : s.2.2[i]? = some (s.2.2.getD i (0, 0)) := by rw [List.getD_eq_getElem?_getD, List.getElem?_eq_getElem hil]; rfl
      obtain ⟨t1, t2⟩ := y6.2 i _ eg
      obtain ⟨t3, t4⟩ := v3 _ (List.mem_of_getElem? eg)
      rw [Kb _ (by omega), Kb _ (by omega), (w1 _ (by omega)).1, p2 i hi, w2 i hi, (q4 7 (by omega)).1, zrf_lt (by omega)]
      exact ⟨t1, t2, t3, by omega⟩
end C73
