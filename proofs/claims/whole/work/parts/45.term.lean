theorem mod_half {d r : Nat} (hr : 0 < r) (hm : 0 < d % r) : 2 * (r % (d % r)) < r := by
  have h1 : d % r < r := Nat.mod_lt _ hr
  have h2 : r % (d % r) < d % r := Nat.mod_lt _ hm
  by_cases h : 2 * (d % r) ≤ r
  · omega
  · have h3 : r % (d % r) = r - d % r := by
      rw [Nat.mod_eq_sub_mod (by omega), Nat.mod_eq_of_lt (by omega)]
    omega
theorem gcd_step {d r : Nat} : Nat.gcd d r = Nat.gcd r (d % r) := by
  rw [Nat.gcd_comm d r, Nat.gcd_rec r d, Nat.gcd_comm]
section C45
variable {g : sG} {Ls : Nat} {tl : List Nat} {I L : sI} {σ : Sg} {ℓ ab : Int} {nr nw nW ng : Nat}
theorem c_termOf (hV : HV σ nr nw ng) (hX : HX 8 σ nr nw ng I) {sum part : Int} (hs : -100000000 ≤ sum ∧ sum ≤ 100000000) (hp : part = 0 ∨ part = 1) : Mc g 1 m_X7_termOf 0 0 [vr 3, vi sum, vi part] (TT Ls tl) I L (RR tl) (qI fun z T' I' L' R' => z = (if part = 0 then sum else 10 ^ chn σ nr).tdiv (Nat.gcd (10 ^ chn σ nr) sum.natAbs : Nat) ∧ same (TT Ls tl) I L (RR tl) T' I' L' R') := by
  refine Mc_of rfl (Nat.le_of_ble_eq_true rfl) ?_
  have h10 := p10 hV.2.2.2.2.2.2
  obtain ⟨W, hW⟩ : ∃ W : Nat, W = 10 ^ chn σ nr := ⟨_, rfl⟩
  have hWi : (10 : Int) ^ chn σ nr = (W : Int) := by rw [hW]; exact (Int.natCast_pow 10 (chn σ nr)).symm
  rw [← hW, hWi]
  rw [hWi] at h10
  obtain ⟨n, hn⟩ : ∃ n : Nat, n = sum.natAbs := ⟨_, rfl⟩
  rw [← hn]
  have hn8 : n ≤ 100000000 := by omega
  have hgp : ∀ d r : Nat, Nat.gcd d r = Nat.gcd W n → 0 < d ∨ 0 < r := fun d r e => by
    have h1 : 0 < Nat.gcd W n := Nat.gcd_pos_of_pos_left _ (by omega)
    by_cases hd : d = 0
    · right
      by_cases hr : r = 0
      · rw [hd, hr] at e; rw [← e] at h1; exact absurd h1 (by decide)
      · omega
    · left; omega
  obtain ⟨Q, hQ⟩ : ∃ Q : sQ, Q = (qI fun z T' I' L' R' => z = (if part = 0 then sum else (W : Int)).tdiv (Nat.gcd W n : Nat) ∧ same (TT Ls tl) I L (RR tl) T' I' L' R') := ⟨_, rfl⟩
  rw [← hQ]
  have fin : ∀ (d : Nat) (x : Int), d = Nat.gcd W n → d ≤ 100000000 → Cp g 1 m_X7_termOf 0 0 Q 53 [(0, vr 3), (1, vi sum), (2, vi part), (3, vi (W : Int)), (4, vi (d : Int)), (6, vi x)] [] (TT Ls tl) I L (RR tl) := by
    intro d x hd hdb
    have h1 : 0 < Nat.gcd W n := Nat.gcd_pos_of_pos_left _ (by omega)
    rcases hp with rfl | rfl
    · skip
      refine r_iload d_X7_termOf_53 rfl ?_
      refine r_if_ne d_X7_termOf_55 (by omega) (fun c55 => ?_) (fun c55 => absurd c55 (by omega))
      refine r_iload_n d_X7_termOf_60 rfl ?_
      refine r_if_ne d_X7_termOf_61 (by omega) (fun c61 => absurd c61 (by omega)) (fun c61 => ?_)
      refine r_iload_n d_X7_termOf_64 rfl ?_
      refine r_goto d_X7_termOf_65 ?_
      refine r_iload d_X7_termOf_69 rfl ?_
      refine r_idiv d_X7_termOf_71 (by omega) (by omega) ?_
      refine r_iret d_X7_termOf_72 rfl ?_
      rw [hQ]
      exact ⟨_, rfl, by rw [if_pos rfl, hd], same_rf⟩
    · skip
      refine r_iload d_X7_termOf_53 rfl ?_
      refine r_if_ne d_X7_termOf_55 (by omega) (fun c55 => ?_) (fun c55 => absurd c55 (by omega))
      refine r_iload_n d_X7_termOf_60 rfl ?_
      refine r_if_ne d_X7_termOf_61 (by omega) (fun c61 => ?_) (fun c61 => absurd c61 (by omega))
      refine r_iload_n d_X7_termOf_68 rfl ?_
      refine r_iload d_X7_termOf_69 rfl ?_
      refine r_idiv d_X7_termOf_71 (by omega) (by omega) ?_
      refine r_iret d_X7_termOf_72 rfl ?_
      rw [hQ]
      exact ⟨_, rfl, by rw [if_neg (by decide), hd], same_rf⟩
  have zero : ∀ (step d : Nat), step ≤ 64 → d = Nat.gcd W n → d ≤ 100000000 → Cp g 1 m_X7_termOf 0 0 Q 20 [(0, vr 3), (1, vi sum), (2, vi part), (3, vi (W : Int)), (4, vi (d : Int)), (5, vi ((0 : Nat) : Int)), (6, vi (step : Int))] [] (TT Ls tl) I L (RR tl) := by
    intro step d hst hd hdb
    refine r_iload d_X7_termOf_20 rfl ?_
    refine r_bipush d_X7_termOf_22 (by decide) ?_
    refine r_icmp_ge d_X7_termOf_24 (by omega) (by omega) (fun c24 => ?_) (fun c24 => ?_)
    · exact CpL (fin d (step : Int) hd hdb) (by repeat (first | exact trivial | refine ⟨rfl, ?_⟩))
    · refine r_iload d_X7_termOf_27 rfl ?_
      refine r_if_eq d_X7_termOf_29 (by omega) (fun c29 => ?_) (fun c29 => absurd c29 (by omega))
      exact CpL (fin d (step : Int) hd hdb) (by repeat (first | exact trivial | refine ⟨rfl, ?_⟩))
  have one : ∀ (step d r : Nat), step < 64 → 0 < r → r ≤ 100000000 → d ≤ 100000000 → Cp g 1 m_X7_termOf 0 0 Q 20 [(0, vr 3), (1, vi sum), (2, vi part), (3, vi (W : Int)), (4, vi (r : Int)), (5, vi ((d % r : Nat) : Int)), (6, vi ((step + 1 : Nat) : Int))] [] (TT Ls tl) I L (RR tl) → Cp g 1 m_X7_termOf 0 0 Q 20 [(0, vr 3), (1, vi sum), (2, vi part), (3, vi (W : Int)), (4, vi (d : Int)), (5, vi (r : Int)), (6, vi (step : Int))] [] (TT Ls tl) I L (RR tl) := by
    intro step d r hst hr hrb hdb k
    have em : (d : Int).tmod (r : Int) = ((d % r : Nat) : Int) := rfl
    refine r_iload d_X7_termOf_20 rfl ?_
    refine r_bipush d_X7_termOf_22 (by decide) ?_
    refine r_icmp_ge d_X7_termOf_24 (by omega) (by omega) (fun c24 => absurd c24 (by omega)) (fun c24 => ?_)
    refine r_iload d_X7_termOf_27 rfl ?_
    refine r_if_eq d_X7_termOf_29 (by omega) (fun c29 => absurd c29 (by omega)) (fun c29 => ?_)
    refine r_iload d_X7_termOf_32 rfl ?_
    refine r_iload d_X7_termOf_34 rfl ?_
    refine r_irem d_X7_termOf_36 (by omega) (by omega) ?_
    rw [em]
    refine r_istore d_X7_termOf_37 (by decide) ?_
    refine r_iload d_X7_termOf_39 rfl ?_
    refine r_istore d_X7_termOf_41 (by decide) ?_
    refine r_iload d_X7_termOf_43 rfl ?_
    refine r_istore d_X7_termOf_45 (by decide) ?_
    refine r_iinc d_X7_termOf_47 rfl (by decide) ?_
    refine r_goto d_X7_termOf_50 ?_
    exact CpL k (by repeat (first | exact trivial | refine ⟨rfl, ?_⟩))
  have loop : ∀ (k step d r : Nat), r < 2 ^ k → step + 2 * k ≤ 64 → Nat.gcd d r = Nat.gcd W n → d ≤ 100000000 → r ≤ 100000000 → Cp g 1 m_X7_termOf 0 0 Q 20 [(0, vr 3), (1, vi sum), (2, vi part), (3, vi (W : Int)), (4, vi (d : Int)), (5, vi (r : Int)), (6, vi (step : Int))] [] (TT Ls tl) I L (RR tl) := by
    intro k
    induction k with
    | zero =>
      intro step d r hr hst hg hdb hrb
      have hr0 : r = 0 := by omega
      subst hr0
      rw [Nat.gcd_zero_right] at hg
      exact zero step d (by omega) hg hdb
    | succ k ih =>
      intro step d r hr hst hg hdb hrb
      by_cases hr0 : r = 0
      · subst hr0
        rw [Nat.gcd_zero_right] at hg
        exact zero step d (by omega) hg hdb
      · have hml : d % r < r := Nat.mod_lt _ (by omega)
        refine one step d r (by omega) (by omega) hrb hdb ?_
        rw [gcd_step] at hg
        by_cases hm0 : d % r = 0
        · rw [hm0] at hg ⊢
          rw [Nat.gcd_zero_right] at hg
          exact zero (step + 1) r (by omega) hg hrb
        · refine one (step + 1) r (d % r) (by omega) (by omega) (by omega) hrb ?_
          rw [gcd_step] at hg
          have hh := mod_half (d := d) (r := r) (by omega) (by omega)
          refine ih (step + 1 + 1) (d % r) (r % (d % r)) ?_ (by omega) hg (by omega) (by omega)
          rw [Nat.pow_succ] at hr; omega
  have eabs : (if 0 ≤ sum then sum else -sum) = (n : Int) := by split <;> omega
  refine r_aload_n d_X7_termOf_0 rfl ?_
  refine r_getr d_X7_termOf_1 f_X7_19 (tt_3 _ _) (by decide) rfl (rr_3_1 _) ?_
  refine r_V0i d_X7_termOf_4 (w_X7_225 _ rfl) (tt_8 _ _) rfl rfl (c_whole hV hX) (by decide) (Nat.le_of_ble_eq_true rfl) (fun z4 T4 I4 L4 R4 h4 => ?_)
  obtain ⟨rfl, rfl, rfl, rfl, rfl⟩ := h4
  rw [hWi]
  refine r_istore_n d_X7_termOf_7 (by decide) ?_
  refine r_iload_n d_X7_termOf_8 rfl ?_
  refine r_istore d_X7_termOf_9 (by decide) ?_
  refine r_iload_n d_X7_termOf_11 rfl ?_
  refine r_mabs d_X7_termOf_12 (w_X7_304 _ rfl) (by decide) (Nat.le_of_ble_eq_true rfl) (by omega) ?_
  rw [eabs]
  refine r_istore d_X7_termOf_15 (by decide) ?_
  refine r_iconst d_X7_termOf_17 ?_
  refine r_istore d_X7_termOf_18 (by decide) ?_
  exact CpL (loop 27 0 W n (by omega) (by omega) rfl (by omega) hn8) (by repeat (first | exact trivial | refine ⟨rfl, ?_⟩))
end C45
