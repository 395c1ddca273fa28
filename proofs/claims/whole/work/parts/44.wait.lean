def wbS (σ : Sg) (nr : Nat) (W : Nat → Int) (qs : Int) (n : Nat) : Int := sumN (fun way => if W way ≤ qs then wtX σ way nr else 0) n
/-- a map of the first n into themselves that is one to one misses none -/
theorem perm_onto : ∀ {n : Nat} {f : Nat → Nat}, (∀ i, i < n → f i < n) → (∀ i j, i < n → j < n → f i = f j → i = j) → ∀ q, q < n → ∃ i, i < n ∧ f i = q
  | 0, _, _, _, q, h => absurd h (by omega)
  | n + 1, f, h1, h2, q, hq => by
    apply Classical.byContradiction
    intro hno
    have hne : ∀ i, i < n + 1 → f i ≠ q := fun i hi e => hno ⟨i, hi, e⟩
    -- the map without q: shift what lies above q
    have hs : ∀ i, i < n + 1 → (if f i < q then f i else f i - 1) < n := fun i hi => by
      have := h1 i hi
      have := hne i hi
      split <;> omega
    have hi' : ∀ i j, i < n + 1 → j < n + 1 → (if f i < q then f i else f i - 1) = (if f j < q then f j else f j - 1) → i = j := fun i j hi hj e => by
      have a1 := hne i hi
      have a2 := hne j hj
      refine h2 i j hi hj ?_
      split at e <;> split at e <;> omega
    have ih := perm_onto (n := n) (f := fun i => if f i < q then f i else f i - 1) (fun i hi => hs i (by omega)) (fun i j hi hj e => hi' i j (by omega) (by omega) e) _ (hs n (by omega))
    obtain ⟨i, hi, e⟩ := ih
    have := hi' i n (by omega) (by omega) e
    omega
section C44
variable {g : sG} {Ls : Nat} {tl : List Nat} {I L : sI} {σ : Sg} {ℓ ab : Int} {nr nw nW ng : Nat}
theorem c_chanceWithin (hV : HV σ nr nw ng) (hX : HX 8 σ nr nw ng I) {qs : Int} (hq : 0 ≤ qs ∧ qs ≤ 44) (hW : ∀ way, way < 2 ^ chn σ nr → 0 ≤ I 137 way ∧ I 137 way ≤ 44) : Mc g 1 m_X7_chanceWithin 0 0 [vr 3, vi qs] (TT Ls tl) I L (RR tl) (qI fun z T' I' L' R' => z = wbS σ nr (I 137) qs (2 ^ chn σ nr) ∧ same (TT Ls tl) I L (RR tl) T' I' L' R') := by
  refine Mc_of rfl (Nat.le_of_ble_eq_true rfl) ?_
  have hpw := p2 hV.2.2.2.2.2.2
  have loop : ∀ (k b : Nat), b + k = 2 ^ chn σ nr → Cp g 1 m_X7_chanceWithin 0 0 (qI fun z T' I' L' R' => z = wbS σ nr (I 137) qs (2 ^ chn σ nr) ∧ same (TT Ls tl) I L (RR tl) T' I' L' R') 4 [(0, vr 3), (1, vi qs), (2, vi (wbS σ nr (I 137) qs b)), (3, vi (b : Int))] [] (TT Ls tl) I L (RR tl) := by
    intro k
    induction k with
    | zero =>
      intro b hbk
      refine r_iload_n d_X7_chanceWithin_4 rfl ?_
      refine r_aload_n d_X7_chanceWithin_5 rfl ?_
      refine r_getr d_X7_chanceWithin_6 f_X7_19 (tt_3 _ _) (by decide) rfl (rr_3_1 _) ?_
      refine r_V0i d_X7_chanceWithin_9 (w_X7_210 _ rfl) (tt_8 _ _) rfl rfl (c_wayCount hV hX) (by decide) (Nat.le_of_ble_eq_true rfl) (fun z9 T9 I9 L9 R9 h9 => ?_)
      obtain ⟨rfl, rfl, rfl, rfl, rfl⟩ := h9
      refine r_icmp_ge d_X7_chanceWithin_12 (by omega) (by omega) (fun c12 => ?_) (fun c12 => absurd c12 (by omega))
      refine r_iload_n d_X7_chanceWithin_42 rfl ?_
      refine r_iret d_X7_chanceWithin_43 rfl ?_
      exact ⟨_, rfl, by rw [show b = 2 ^ chn σ nr by omega], same_rf⟩
    | succ k ih =>
      intro b hbk
      have hw := hW b (by omega)
      refine r_iload_n d_X7_chanceWithin_4 rfl ?_
      refine r_aload_n d_X7_chanceWithin_5 rfl ?_
      refine r_getr d_X7_chanceWithin_6 f_X7_19 (tt_3 _ _) (by decide) rfl (rr_3_1 _) ?_
      refine r_V0i d_X7_chanceWithin_9 (w_X7_210 _ rfl) (tt_8 _ _) rfl rfl (c_wayCount hV hX) (by decide) (Nat.le_of_ble_eq_true rfl) (fun z9 T9 I9 L9 R9 h9 => ?_)
      obtain ⟨rfl, rfl, rfl, rfl, rfl⟩ := h9
      refine r_icmp_ge d_X7_chanceWithin_12 (by omega) (by omega) (fun c12 => absurd c12 (by omega)) (fun c12 => ?_)
      refine r_aload_n d_X7_chanceWithin_15 rfl ?_
      refine r_getr d_X7_chanceWithin_16 f_X7_57 (tt_3 _ _) (by decide) rfl (rr_3_8 _) ?_
      refine r_iload_n d_X7_chanceWithin_19 rfl ?_
      refine r_ialdJ d_X7_chanceWithin_20 (tt_137 _ _) rfl (by omega) (kk := ?_)
      refine r_iload_n d_X7_chanceWithin_21 rfl ?_
      refine r_icmp_gt d_X7_chanceWithin_22 (by omega) (by omega) (fun c22 => ?_) (fun c22 => ?_)
      · have hs : wbS σ nr (I 137) qs b = wbS σ nr (I 137) qs (b + 1) := by
          show _ = wbS σ nr (I 137) qs b + (if I 137 b ≤ qs then wtX σ b nr else 0)
          rw [if_neg (by omega)]; omega
        refine r_iinc d_X7_chanceWithin_36 rfl (by decide) ?_
        refine r_goto d_X7_chanceWithin_39 ?_
        exact CpL (ih (b + 1) (by omega)) (by repeat (first | exact trivial | refine ⟨rfl, ?_⟩ | refine ⟨by rw [hs]; rfl, ?_⟩))
      · have hs : wbS σ nr (I 137) qs b + wtX σ b nr = wbS σ nr (I 137) qs (b + 1) := by
          show _ = wbS σ nr (I 137) qs b + (if I 137 b ≤ qs then wtX σ b nr else 0)
          rw [if_pos (by omega)]
        refine r_iload_n d_X7_chanceWithin_25 rfl ?_
        refine r_aload_n d_X7_chanceWithin_26 rfl ?_
        refine r_getr d_X7_chanceWithin_27 f_X7_19 (tt_3 _ _) (by decide) rfl (rr_3_1 _) ?_
        refine r_iload_n d_X7_chanceWithin_30 rfl ?_
        refine r_V1i d_X7_chanceWithin_31 (w_X7_301 _ rfl) (tt_8 _ _) rfl rfl (c_chanceOf (way := b) hV hX (by omega)) (by decide) (Nat.le_of_ble_eq_true rfl) (fun z31 T31 I31 L31 R31 h31 => ?_)
        obtain ⟨rfl, rfl, rfl, rfl, rfl⟩ := h31
        refine r_iadd d_X7_chanceWithin_34 ?_
        refine r_istore_n d_X7_chanceWithin_35 (by decide) ?_
        refine r_iinc d_X7_chanceWithin_36 rfl (by decide) ?_
        refine r_goto d_X7_chanceWithin_39 ?_
        exact CpL (ih (b + 1) (by omega)) (by repeat (first | exact trivial | refine ⟨rfl, ?_⟩ | refine ⟨by rw [hs]; rfl, ?_⟩))
  refine r_iconst d_X7_chanceWithin_0 ?_
  refine r_istore_n d_X7_chanceWithin_1 (by decide) ?_
  refine r_iconst d_X7_chanceWithin_2 ?_
  refine r_istore_n d_X7_chanceWithin_3 (by decide) ?_
  exact CpL (loop (2 ^ chn σ nr) 0 (by omega)) (by repeat (first | exact trivial | refine ⟨rfl, ?_⟩))
theorem GVX_ro {rd ro : Nat → Int} {how z : Int} (h : GVX σ nr ng rd how z ro) (hn : nr ≤ 8) {q : Nat} (hq : q < ng) : ro q = -1 ∨ ∃ ρ : Nat, ro q = (ρ : Int) ∧ ρ < nr := by
  rcases h with ⟨-, ar, h1, h2, -, h3⟩ | ⟨-, a, h1, -, h3⟩
  · obtain ⟨i, hi, e⟩ : ∃ i, i < ng ∧ ar i = q := by
      exact perm_onto h1 (fun i j hi hj e => ar_inj h2 hi hj e) q hq
    have h4 := pkS_rg (σ := σ) (nr := nr) (rd := rd) (ar := ar) (i := i)
    have h5 := h3 i hi
    rw [e] at h5
    by_cases q1 : ro q = -1
    · exact Or.inl q1
    · exact Or.inr ⟨(ro q).toNat, by omega, by omega⟩
  · rw [h3 q hq]
    unfold wsR
    split
    · next hc =>
      rcases h1.1.1 q (by omega) with e | ⟨ρ, e1, e2, e3⟩
      · exact absurd e hc.1
      · exact Or.inr ⟨ρ, e1, (of_decide_eq_true e3).1⟩
    · exact Or.inl rfl
end C44
