/-- a told rule, letter by letter: who is taken, the woman, rooms with women -/
abbrev tSt : Type := (Nat → Bool) × Nat × List (Nat × Nat)
def tstT (s : tSt) (c : Int) : Option tSt := if c = 59 ∧ s.2.1 < 2 then some (s.1, s.2.1 + 1, s.2.2) else if (48 ≤ c ∧ c ≤ 55) ∧ s.1 (c - 48).toNat = false then some (addS s.1 (c - 48).toNat, s.2.1, s.2.2 ++ [((c - 48).toNat, s.2.1)]) else none
def runT (pg : Nat → Int) : Nat → Option tSt
  | 0 => some (fun _ => false, 0, [])
  | k + 1 => match runT pg k with
    | none => none
    | some s => tstT s (pg k)
theorem runT_suc {pg : Nat → Int} {s t : tSt} {k : Nat} (h : runT pg k = some s) (hs : tstT s (pg k) = some t) : runT pg (k + 1) = some t := by
  show (match runT pg k with
    | none => none
    | some s => tstT s (pg k)) = _
  rw [h]; exact hs
theorem runT_pre {pg : Nat → Int} : ∀ (k n : Nat), k ≤ n → (runT pg n).isSome = true → (runT pg k).isSome = true
  | k, 0, h, hs => by rw [show k = 0 by omega]; exact hs
  | k, n + 1, h, hs => by
    by_cases e : k = n + 1
    · rw [e]; exact hs
    · refine runT_pre k n (by omega) ?_
      have hs2 : (match runT pg n with
        | none => none
        | some E => tstT E (pg n)).isSome = true := hs
      cases hr : runT pg n with
      | none => rw [hr] at hs2; exact hs2
      | some E => rfl
def stpT (pg : Nat → Int) (len p : Nat) (s : tSt) : Prop := runT pg p = some s ∧ p ≤ len ∧ (p = len ∨ tstT s (pg p) = none)
theorem stpT_uq {pg : Nat → Int} {len p p' : Nat} {s s' : tSt} (h : stpT pg len p s) (h' : stpT pg len p' s') : p = p' ∧ s = s' := by
  have key : ∀ {p p' : Nat} {s s' : tSt}, stpT pg len p s → stpT pg len p' s' → ¬ p < p' := by
    intro p p' D D' h h' hlt
    have h1 := runT_pre (pg := pg) (p + 1) p' hlt (by rw [h'.1]; rfl)
    have h2 : runT pg (p + 1) = tstT D (pg p) := by
      show (match runT pg p with
        | none => none
        | some E => tstT E (pg p)) = _
      rw [h.1]
    rcases h.2.2 with e | e
    · have := h'.2.1; omega
    · rw [h2, e] at h1; cases h1
  have e : p = p' := by
    have a := key h h'
    have b := key h' h
    omega
  refine ⟨e, ?_⟩
  subst e
  exact Option.some.inj (h.1.symm.trans h'.1)
/-- what holds of the told -/
def TIV (s : tSt) : Prop := s.2.1 ≤ 2 ∧ s.2.2.length + ucn s.1 8 0 = 8 ∧ ∀ q ∈ s.2.2, q.1 < 8 ∧ q.2 ≤ s.2.1
theorem TIV_step {s t : tSt} {c : Int} (h : TIV s) (hs : tstT s c = some t) : TIV t := by
  obtain ⟨h1, h2, h3⟩ := h
  unfold tstT at hs
  split at hs
  · next hc =>
    have := Option.some.inj hs
    subst this
    exact ⟨by show s.2.1 + 1 ≤ 2; omega, h2, fun q hq => ⟨(h3 q hq).1, Nat.le_succ_of_le (h3 q hq).2⟩⟩
  · split at hs
    · next hc =>
      have := Option.some.inj hs
      subst this
      have hu := ucn_add (tk := s.1) (r := (c - 48).toNat) hc.2 8 0 (by omega) (by omega)
      refine ⟨h1, ?_, fun q hq => ?_⟩
      · show (s.2.2 ++ [((c - 48).toNat, s.2.1)]).length + ucn (addS s.1 (c - 48).toNat) 8 0 = 8
        rw [List.length_append]
        show s.2.2.length + 1 + _ = 8
        omega
      · have hq2 : q ∈ s.2.2 ++ [((c - 48).toNat, s.2.1)] := hq
        rcases List.mem_append.mp hq2 with hq3 | hq3
        · exact h3 q hq3
        · rw [List.mem_singleton.mp hq3]
          exact ⟨by show (c - 48).toNat < 8; omega, Nat.le_refl _⟩
    · cases hs
theorem TIV_run {pg : Nat → Int} : ∀ (k : Nat) (s : tSt), runT pg k = some s → TIV s
  | 0, s, h => by
    have := Option.some.inj h
    subst this
    exact ⟨Nat.zero_le _, by decide, fun q hq => by cases hq⟩
  | k + 1, s, h => by
    have h2 : (match runT pg k with
      | none => none
      | some E => tstT E (pg k)) = some s := h
    cases hr : runT pg k with
    | none => rw [hr] at h2; cases h2
    | some E => rw [hr] at h2; exact TIV_step (TIV_run k E hr) h2
/-- the told in the class -/
def TDX (l : List (Nat × Nat)) (I : sI) : Prop := I 4 6 = (l.length : Int) ∧ ∀ i q, l[i]? = some q → I 6 i = (q.1 : Int) ∧ I 7 i = (q.2 : Int)
section C69
variable {g : sG} {Ls : Nat} {tl : List Nat} {I L : sI} {pg : Nat → Int} {len : Nat}
theorem c_readTold (hP : PGL pg len I) : Mc g 1 m_X5_readTold 0 0 [vr 4] (TT Ls tl) I L (RR tl) (qI fun z T' I' L' R' => T' = TT Ls tl ∧ R' = RR tl ∧ L' = L ∧ (∀ a, a ≠ 4 → a ≠ 6 → a ≠ 7 → I' a = I a) ∧ (∀ k, k ≠ 2 → k ≠ 6 → I' 4 k = I 4 k) ∧ ∃ p' s, stpT pg len p' s ∧ I' 4 2 = (p' : Int) ∧ z = (if p' = len then 1 else 0) ∧ TDX s.2.2 I') := by
  refine Mc_of rfl (Nat.le_of_ble_eq_true rfl) ?_
  obtain ⟨h1, h2, h3⟩ := hP
  obtain ⟨Q, hQ⟩ : ∃ Q : sQ, Q = (qI fun z T' I' L' R' => T' = TT Ls tl ∧ R' = RR tl ∧ L' = L ∧ (∀ a, a ≠ 4 → a ≠ 6 → a ≠ 7 → I' a = I a) ∧ (∀ k, k ≠ 2 → k ≠ 6 → I' 4 k = I 4 k) ∧ ∃ p' s, stpT pg len p' s ∧ I' 4 2 = (p' : Int) ∧ z = (if p' = len then 1 else 0) ∧ TDX s.2.2 I') := ⟨_, rfl⟩
  rw [← hQ]
  have loop : ∀ (n p u : Nat) (s : tSt) (I1 : sI), p + n = len → runT pg p = some s → u < 256 → (∀ r, r < 8 → u.testBit r = s.1 r) → (∀ a, a ≠ 4 → a ≠ 6 → a ≠ 7 → I1 a = I a) → (∀ k, k ≠ 2 → k ≠ 6 → I1 4 k = I 4 k) → I1 4 2 = (p : Int) → TDX s.2.2 I1 → Cp g 1 m_X5_readTold 0 0 Q 14 [(0, vr 4), (1, vi (u : Int)), (2, vi (s.2.1 : Int))] [] (TT Ls tl) I1 L (RR tl) := by
    intro n
    induction n with
    | zero =>
      intro p u s I1 hpn hA hu hub fa fk e2 hT
      have hp : p = len := by omega
      have e1 : I1 4 1 = (len : Int) := by rw [fk 1 (by decide) (by decide)]; exact h1
      refine r_aload_n d_X5_readTold_14 rfl ?_
      refine r_geti d_X5_readTold_15 f_X5_28 (tt_4 _ _) (by decide) (by decide) ?_
      refine r_aload_n d_X5_readTold_18 rfl ?_
      refine r_geti d_X5_readTold_19 f_X5_22 (tt_4 _ _) (by decide) (by decide) ?_
      rw [e2, e1]
      refine r_icmp_ge d_X5_readTold_22 (by omega) (by omega) (fun c22 => ?_) (fun c22 => absurd c22 (by omega))
      refine r_iconst d_X5_readTold_145 ?_
      refine r_zret d_X5_readTold_146 rfl (by omega) ?_
      rw [hQ]
      exact ⟨_, rfl, rfl, rfl, rfl, fa, fk, p, s, ⟨hA, by omega, Or.inl hp⟩, e2, by rw [if_pos hp], hT⟩
    | succ n ih =>
      intro p u s I1 hpn hA hu hub fa fk e2 hT
      have hp : p < len := by omega
      have e1 : I1 4 1 = (len : Int) := by rw [fk 1 (by decide) (by decide)]; exact h1
      obtain ⟨l1, l2, l3⟩ := h3 p hp
      have l1 : I1 5 p = pg p := by rw [fa 5 (by decide) (by decide) (by decide)]; exact l1
      obtain ⟨v1, v2, v3⟩ := TIV_run p s hA
      have e6 : I1 4 6 = (s.2.2.length : Int) := hT.1
      have no : tstT s (pg p) = none → Q (some (vi 0)) (TT Ls tl) I1 L (RR tl) := fun h => by
        rw [hQ]
        exact ⟨_, rfl, rfl, rfl, rfl, fa, fk, p, s, ⟨hA, by omega, Or.inr h⟩, e2, by rw [if_neg (by omega)], hT⟩
      by_cases k1 : pg p = 59 ∧ s.2.1 < 2
      · have hs : tstT s (pg p) = some (s.1, s.2.1 + 1, s.2.2) := by unfold tstT; rw [if_pos k1]
        refine r_aload_n d_X5_readTold_14 rfl ?_
        refine r_geti d_X5_readTold_15 f_X5_28 (tt_4 _ _) (by decide) (by decide) ?_
        refine r_aload_n d_X5_readTold_18 rfl ?_
        refine r_geti d_X5_readTold_19 f_X5_22 (tt_4 _ _) (by decide) (by decide) ?_
        rw [e2, e1]
        refine r_icmp_ge d_X5_readTold_22 (by omega) (by omega) (fun c22 => absurd c22 (by omega)) (fun c22 => ?_)
        refine r_aload_n d_X5_readTold_25 rfl ?_
        refine r_getr d_X5_readTold_26 f_X5_9 (tt_4 _ _) (by decide) rfl (rr_4_0 _) ?_
        refine r_aload_n d_X5_readTold_29 rfl ?_
        refine r_geti d_X5_readTold_30 f_X5_28 (tt_4 _ _) (by decide) (by decide) ?_
        rw [e2]
        refine r_caldJ d_X5_readTold_33 (tt_5 _ _) rfl (by omega) (kk := ?_)
        rw [l1]
        refine r_bipush d_X5_readTold_34 (by decide) ?_
        refine r_isub d_X5_readTold_36 ?_
        refine r_istore_n d_X5_readTold_37 (by decide) ?_
        refine r_aload_n d_X5_readTold_38 rfl ?_
        refine r_getr d_X5_readTold_39 f_X5_9 (tt_4 _ _) (by decide) rfl (rr_4_0 _) ?_
        refine r_aload_n d_X5_readTold_42 rfl ?_
        refine r_geti d_X5_readTold_43 f_X5_28 (tt_4 _ _) (by decide) (by decide) ?_
        rw [e2]
        refine r_caldJ d_X5_readTold_46 (tt_5 _ _) rfl (by omega) (kk := ?_)
        rw [l1]
        refine r_bipush d_X5_readTold_47 (by decide) ?_
        refine r_icmp_ne d_X5_readTold_49 (by omega) (by omega) (fun c49 => absurd c49 (by omega)) (fun c49 => ?_)
        refine r_iload_n d_X5_readTold_52 rfl ?_
        refine r_iconst d_X5_readTold_53 ?_
        refine r_iadd d_X5_readTold_54 ?_
        refine r_iconst d_X5_readTold_55 ?_
        refine r_icmp_ge d_X5_readTold_56 (by omega) (by omega) (fun c56 => absurd c56 (by omega)) (fun c56 => ?_)
        refine r_iinc d_X5_readTold_59 rfl (by decide) ?_
        refine r_goto d_X5_readTold_62 ?_
        refine r_aload_n d_X5_readTold_132 rfl ?_
        refine r_dup d_X5_readTold_133 rfl ?_
        refine r_geti d_X5_readTold_134 f_X5_28 (tt_4 _ _) (by decide) (by decide) ?_
        refine r_iconst d_X5_readTold_137 ?_
        refine r_iadd d_X5_readTold_138 ?_
        rw [e2]
        refine r_puti d_X5_readTold_139 f_X5_28 (tt_4 _ _) (by decide) (Or.inl rfl) ?_
        refine r_goto d_X5_readTold_142 ?_
        refine CpL (ih (p + 1) u (s.1, s.2.1 + 1, s.2.2) _ (by omega) (runT_suc hA hs) hu hub (fun a h4 h6 h7 => by rw [up2_ne _ _ h4]; exact fa a h4 h6 h7) (fun k h2 h6 => by rw [up2_nj _ _ h2]; exact fk k h2 h6) (by rw [up2_at]; omega) ⟨by rw [up2_nj _ _ (by decide)]; exact hT.1, fun i q hq => by rw [up2_ne _ _ (by decide), up2_ne _ _ (by decide)]; exact hT.2 i q hq⟩) (by repeat (first | exact trivial | refine ⟨rfl, ?_⟩))
      · by_cases k2 : (48 ≤ pg p ∧ pg p ≤ 55) ∧ s.1 (pg p - 48).toNat = false
        · have hs : tstT s (pg p) = some (addS s.1 (pg p - 48).toNat, s.2.1, s.2.2 ++ [((pg p - 48).toNat, s.2.1)]) := by unfold tstT; rw [if_neg k1, if_pos k2]
          obtain ⟨ρ, hρ⟩ : ∃ ρ : Nat, ρ = (pg p - 48).toNat := ⟨_, rfl⟩
          rw [← hρ] at hs k2
          have hρ8 : ρ < 8 := by omega
          have ec : pg p - 48 = (ρ : Int) := by omega
          have hlen := ucn_add (tk := s.1) (r := ρ) k2.2 8 0 (by omega) (by omega)
          have hl7 : s.2.2.length < 8 := by omega
          have hbit : sand (sshr (u : Int) (ρ : Int)) 1 = 0 := by rw [bit_tst (by omega) (by omega), hub ρ hρ8, k2.2]; rfl
          have hor : sor (u : Int) (sshl 1 (ρ : Int)) = ((u ||| 2 ^ ρ : Nat) : Int) := by
            have := Nat.pow_le_pow_right (show 0 < 2 by decide) (show ρ ≤ 7 by omega)
            rw [sshl_one ρ (by omega), sor_nat (by omega) (by omega)]
          have hu2 : u ||| 2 ^ ρ < 256 := or_lt (n := 8) hu hρ8
          have e6b : ∀ x y : Int, up2 (up2 I1 6 s.2.2.length x) 7 s.2.2.length y 4 6 = (s.2.2.length : Int) := fun x y => by rw [up2_ne _ _ (by decide), up2_ne _ _ (by decide)]; exact e6
          have e6c : ∀ x : Int, up2 I1 6 s.2.2.length x 4 6 = (s.2.2.length : Int) := fun x => by rw [up2_ne _ _ (by decide)]; exact e6
          have e2b : ∀ x y z : Int, up2 (up2 (up2 I1 6 s.2.2.length x) 7 s.2.2.length y) 4 6 z 4 2 = (p : Int) := fun x y z => by rw [up2_nj _ _ (by decide), up2_ne _ _ (by decide), up2_ne _ _ (by decide)]; exact e2
          refine r_aload_n d_X5_readTold_14 rfl ?_
          refine r_geti d_X5_readTold_15 f_X5_28 (tt_4 _ _) (by decide) (by decide) ?_
          refine r_aload_n d_X5_readTold_18 rfl ?_
          refine r_geti d_X5_readTold_19 f_X5_22 (tt_4 _ _) (by decide) (by decide) ?_
          rw [e2, e1]
          refine r_icmp_ge d_X5_readTold_22 (by omega) (by omega) (fun c22 => absurd c22 (by omega)) (fun c22 => ?_)
          refine r_aload_n d_X5_readTold_25 rfl ?_
          refine r_getr d_X5_readTold_26 f_X5_9 (tt_4 _ _) (by decide) rfl (rr_4_0 _) ?_
          refine r_aload_n d_X5_readTold_29 rfl ?_
          refine r_geti d_X5_readTold_30 f_X5_28 (tt_4 _ _) (by decide) (by decide) ?_
          rw [e2]
          refine r_caldJ d_X5_readTold_33 (tt_5 _ _) rfl (by omega) (kk := ?_)
          rw [l1]
          refine r_bipush d_X5_readTold_34 (by decide) ?_
          refine r_isub d_X5_readTold_36 ?_
          rw [ec]
          refine r_istore_n d_X5_readTold_37 (by decide) ?_
          refine r_aload_n d_X5_readTold_38 rfl ?_
          refine r_getr d_X5_readTold_39 f_X5_9 (tt_4 _ _) (by decide) rfl (rr_4_0 _) ?_
          refine r_aload_n d_X5_readTold_42 rfl ?_
          refine r_geti d_X5_readTold_43 f_X5_28 (tt_4 _ _) (by decide) (by decide) ?_
          rw [e2]
          refine r_caldJ d_X5_readTold_46 (tt_5 _ _) rfl (by omega) (kk := ?_)
          rw [l1]
          refine r_bipush d_X5_readTold_47 (by decide) ?_
          refine r_icmp_ne d_X5_readTold_49 (by omega) (by omega) (fun c49 => ?_) (fun c49 => absurd c49 (by omega))
          refine r_iload_n d_X5_readTold_65 rfl ?_
          refine r_bipush d_X5_readTold_66 (by decide) ?_
          refine r_SN2i d_X5_readTold_68 (w_X5_108 _ rfl) (c_isBelow (by omega) (by omega)) (by decide) (Nat.le_of_ble_eq_true rfl) (fun z68 T68 I68 L68 R68 h68 => ?_)
          obtain ⟨rfl, rfl, rfl, rfl, rfl⟩ := h68
          refine r_if_eq d_X5_readTold_71 (by split <;> omega) (fun c71 => absurd c71 (by rw [if_pos (by omega)]; decide)) (fun c71 => ?_)
          refine r_iload_n d_X5_readTold_74 rfl ?_
          refine r_iload_n d_X5_readTold_75 rfl ?_
          refine r_ishr d_X5_readTold_76 ?_
          refine r_iconst d_X5_readTold_77 ?_
          refine r_iand d_X5_readTold_78 ?_
          rw [hbit]
          refine r_if_ne d_X5_readTold_79 (by omega) (fun c79 => absurd c79 (by decide)) (fun c79 => ?_)
          refine r_aload_n d_X5_readTold_82 rfl ?_
          refine r_geti d_X5_readTold_83 f_X5_105 (tt_4 _ _) (by decide) (by decide) ?_
          rw [e6]
          refine r_bipush d_X5_readTold_86 (by decide) ?_
          refine r_icmp_ge d_X5_readTold_88 (by omega) (by omega) (fun c88 => absurd c88 (by omega)) (fun c88 => ?_)
          refine r_iload_n d_X5_readTold_91 rfl ?_
          refine r_iconst d_X5_readTold_92 ?_
          refine r_iload_n d_X5_readTold_93 rfl ?_
          refine r_ishl d_X5_readTold_94 ?_
          refine r_ior d_X5_readTold_95 ?_
          rw [hor]
          refine r_istore_n d_X5_readTold_96 (by decide) ?_
          refine r_aload_n d_X5_readTold_97 rfl ?_
          refine r_getr d_X5_readTold_98 f_X5_15 (tt_4 _ _) (by decide) rfl (rr_4_4 _) ?_
          refine r_aload_n d_X5_readTold_101 rfl ?_
          refine r_geti d_X5_readTold_102 f_X5_105 (tt_4 _ _) (by decide) (by decide) ?_
          rw [e6]
          refine r_iload_n d_X5_readTold_105 rfl ?_
          refine r_iastJ d_X5_readTold_106 (tt_6 _ _) (by omega) rfl (by omega) (kk := ?_)
          refine r_aload_n d_X5_readTold_107 rfl ?_
          refine r_getr d_X5_readTold_108 f_X5_19 (tt_4 _ _) (by decide) rfl (rr_4_5 _) ?_
          refine r_aload_n d_X5_readTold_111 rfl ?_
          refine r_geti d_X5_readTold_112 f_X5_105 (tt_4 _ _) (by decide) (by decide) ?_
          rw [e6c]
          refine r_iload_n d_X5_readTold_115 rfl ?_
          refine r_iastJ d_X5_readTold_116 (tt_7 _ _) (by omega) rfl (by omega) (kk := ?_)
          refine r_aload_n d_X5_readTold_117 rfl ?_
          refine r_dup d_X5_readTold_118 rfl ?_
          refine r_geti d_X5_readTold_119 f_X5_105 (tt_4 _ _) (by decide) (by decide) ?_
          refine r_iconst d_X5_readTold_122 ?_
          refine r_iadd d_X5_readTold_123 ?_
          rw [e6b]
          refine r_puti d_X5_readTold_124 f_X5_105 (tt_4 _ _) (by decide) (Or.inl rfl) ?_
          refine r_goto d_X5_readTold_127 ?_
          refine r_aload_n d_X5_readTold_132 rfl ?_
          refine r_dup d_X5_readTold_133 rfl ?_
          refine r_geti d_X5_readTold_134 f_X5_28 (tt_4 _ _) (by decide) (by decide) ?_
          refine r_iconst d_X5_readTold_137 ?_
          refine r_iadd d_X5_readTold_138 ?_
          rw [e2b]
          refine r_puti d_X5_readTold_139 f_X5_28 (tt_4 _ _) (by decide) (Or.inl rfl) ?_
          refine r_goto d_X5_readTold_142 ?_
          refine CpL (ih (p + 1) (u ||| 2 ^ ρ) (addS s.1 ρ, s.2.1, s.2.2 ++ [(ρ, s.2.1)]) _ (by omega) (runT_suc hA hs) hu2 (fun r hr => ?_) (fun a h4 h6 h7 => by rw [up2_ne _ _ h4, up2_ne _ _ h4, up2_ne _ _ h7, up2_ne _ _ h6]; exact fa a h4 h6 h7) (fun k h2 h6 => by rw [up2_nj _ _ h2, up2_nj _ _ h6, up2_ne _ _ (by decide), up2_ne _ _ (by decide)]; exact fk k h2 h6) (by rw [up2_at]; omega) ⟨?_, fun i q hq => ?_⟩) (by repeat (first | exact trivial | refine ⟨rfl, ?_⟩))
          · show (u ||| 2 ^ ρ).testBit r = addS s.1 ρ r
            rw [or_bit, hub r hr]
            unfold addS
            congr 1
            exact decide_eq_decide.mpr ⟨Eq.symm, Eq.symm⟩
          · rw [up2_nj _ _ (by decide), up2_at, List.length_append]
            show (s.2.2.length : Int) + 1 = ((s.2.2.length + 1 : Nat) : Int)
            omega
          · have hq2 : (s.2.2 ++ [(ρ, s.2.1)])[i]? = some q := hq
            have g6 : ∀ j, up2 (up2 (up2 (up2 I1 6 s.2.2.length (ρ : Int)) 7 s.2.2.length (s.2.1 : Int)) 4 6 ((s.2.2.length : Int) + 1)) 4 2 ((p : Int) + 1) 6 j = up2 I1 6 s.2.2.length (ρ : Int) 6 j := fun j => by rw [up2_ne _ _ (show (6 : Nat) ≠ 4 by decide), up2_ne _ _ (show (6 : Nat) ≠ 4 by decide), up2_ne _ _ (show (6 : Nat) ≠ 7 by decide)]
            have g7 : ∀ j, up2 (up2 (up2 (up2 I1 6 s.2.2.length (ρ : Int)) 7 s.2.2.length (s.2.1 : Int)) 4 6 ((s.2.2.length : Int) + 1)) 4 2 ((p : Int) + 1) 7 j = up2 I1 7 s.2.2.length (s.2.1 : Int) 7 j := fun j => by
              rw [up2_ne _ _ (show (7 : Nat) ≠ 4 by decide), up2_ne _ _ (show (7 : Nat) ≠ 4 by decide)]
              unfold up2
              simp
            rw [g6, g7]
            by_cases ei : i = s.2.2.length
            · subst ei
              rw [List.getElem?_append_right (Nat.le_refl _), Nat.sub_self] at hq2
              have := Option.some.inj hq2
              subst this
              rw [up2_at, up2_at]
              exact ⟨rfl, rfl⟩
            · have hi : i < s.2.2.length := by
                have := (List.getElem?_eq_some_iff.mp hq2).1
                rw [List.length_append] at this
                have h1 : [(ρ, s.2.1)].length = 1 := rfl
                omega
              rw [List.getElem?_append_left hi] at hq2
              rw [up2_nj _ _ ei, up2_nj _ _ ei]
              exact hT.2 i q hq2
        · have hs : tstT s (pg p) = none := by unfold tstT; rw [if_neg k1, if_neg k2]
          have e := no hs
          by_cases k3 : 48 ≤ pg p ∧ pg p ≤ 55
          · obtain ⟨ρ, hρ⟩ : ∃ ρ : Nat, ρ = (pg p - 48).toNat := ⟨_, rfl⟩
            rw [← hρ] at k2
            have hρ8 : ρ < 8 := by omega
            have ec : pg p - 48 = (ρ : Int) := by omega
            have hsb : s.1 ρ = true := by
              cases hx : s.1 ρ with
              | true => rfl
              | false => exact absurd ⟨k3, hx⟩ k2
            have hbit : sand (sshr (u : Int) (ρ : Int)) 1 = 1 := by rw [bit_tst (by omega) (by omega), hub ρ hρ8, hsb]; rfl
            refine r_aload_n d_X5_readTold_14 rfl ?_
            refine r_geti d_X5_readTold_15 f_X5_28 (tt_4 _ _) (by decide) (by decide) ?_
            refine r_aload_n d_X5_readTold_18 rfl ?_
            refine r_geti d_X5_readTold_19 f_X5_22 (tt_4 _ _) (by decide) (by decide) ?_
            rw [e2, e1]
            refine r_icmp_ge d_X5_readTold_22 (by omega) (by omega) (fun c22 => absurd c22 (by omega)) (fun c22 => ?_)
            refine r_aload_n d_X5_readTold_25 rfl ?_
            refine r_getr d_X5_readTold_26 f_X5_9 (tt_4 _ _) (by decide) rfl (rr_4_0 _) ?_
            refine r_aload_n d_X5_readTold_29 rfl ?_
            refine r_geti d_X5_readTold_30 f_X5_28 (tt_4 _ _) (by decide) (by decide) ?_
            rw [e2]
            refine r_caldJ d_X5_readTold_33 (tt_5 _ _) rfl (by omega) (kk := ?_)
            rw [l1]
            refine r_bipush d_X5_readTold_34 (by decide) ?_
            refine r_isub d_X5_readTold_36 ?_
            rw [ec]
            refine r_istore_n d_X5_readTold_37 (by decide) ?_
            refine r_aload_n d_X5_readTold_38 rfl ?_
            refine r_getr d_X5_readTold_39 f_X5_9 (tt_4 _ _) (by decide) rfl (rr_4_0 _) ?_
            refine r_aload_n d_X5_readTold_42 rfl ?_
            refine r_geti d_X5_readTold_43 f_X5_28 (tt_4 _ _) (by decide) (by decide) ?_
            rw [e2]
            refine r_caldJ d_X5_readTold_46 (tt_5 _ _) rfl (by omega) (kk := ?_)
            rw [l1]
            refine r_bipush d_X5_readTold_47 (by decide) ?_
            refine r_icmp_ne d_X5_readTold_49 (by omega) (by omega) (fun c49 => ?_) (fun c49 => absurd c49 (by omega))
            refine r_iload_n d_X5_readTold_65 rfl ?_
            refine r_bipush d_X5_readTold_66 (by decide) ?_
            refine r_SN2i d_X5_readTold_68 (w_X5_108 _ rfl) (c_isBelow (by omega) (by omega)) (by decide) (Nat.le_of_ble_eq_true rfl) (fun z68 T68 I68 L68 R68 h68 => ?_)
            obtain ⟨rfl, rfl, rfl, rfl, rfl⟩ := h68
            refine r_if_eq d_X5_readTold_71 (by split <;> omega) (fun c71 => absurd c71 (by rw [if_pos (by omega)]; decide)) (fun c71 => ?_)
            refine r_iload_n d_X5_readTold_74 rfl ?_
            refine r_iload_n d_X5_readTold_75 rfl ?_
            refine r_ishr d_X5_readTold_76 ?_
            refine r_iconst d_X5_readTold_77 ?_
            refine r_iand d_X5_readTold_78 ?_
            rw [hbit]
            refine r_if_ne d_X5_readTold_79 (by omega) (fun c79 => ?_) (fun c79 => absurd c79 (by decide))
            refine r_iconst d_X5_readTold_130 ?_
            refine r_zret d_X5_readTold_131 rfl (by omega) ?_
            exact e
          · skip
            refine r_aload_n d_X5_readTold_14 rfl ?_
            refine r_geti d_X5_readTold_15 f_X5_28 (tt_4 _ _) (by decide) (by decide) ?_
            refine r_aload_n d_X5_readTold_18 rfl ?_
            refine r_geti d_X5_readTold_19 f_X5_22 (tt_4 _ _) (by decide) (by decide) ?_
            rw [e2, e1]
            refine r_icmp_ge d_X5_readTold_22 (by omega) (by omega) (fun c22 => absurd c22 (by omega)) (fun c22 => ?_)
            refine r_aload_n d_X5_readTold_25 rfl ?_
            refine r_getr d_X5_readTold_26 f_X5_9 (tt_4 _ _) (by decide) rfl (rr_4_0 _) ?_
            refine r_aload_n d_X5_readTold_29 rfl ?_
            refine r_geti d_X5_readTold_30 f_X5_28 (tt_4 _ _) (by decide) (by decide) ?_
            rw [e2]
            refine r_caldJ d_X5_readTold_33 (tt_5 _ _) rfl (by omega) (kk := ?_)
            rw [l1]
            refine r_bipush d_X5_readTold_34 (by decide) ?_
            refine r_isub d_X5_readTold_36 ?_
            refine r_istore_n d_X5_readTold_37 (by decide) ?_
            refine r_aload_n d_X5_readTold_38 rfl ?_
            refine r_getr d_X5_readTold_39 f_X5_9 (tt_4 _ _) (by decide) rfl (rr_4_0 _) ?_
            refine r_aload_n d_X5_readTold_42 rfl ?_
            refine r_geti d_X5_readTold_43 f_X5_28 (tt_4 _ _) (by decide) (by decide) ?_
            rw [e2]
            refine r_caldJ d_X5_readTold_46 (tt_5 _ _) rfl (by omega) (kk := ?_)
            rw [l1]
            refine r_bipush d_X5_readTold_47 (by decide) ?_
            refine r_icmp_ne d_X5_readTold_49 (by omega) (by omega) (fun c49 => ?_) (fun c49 => ?_)
            · refine r_iload_n d_X5_readTold_65 rfl ?_
              refine r_bipush d_X5_readTold_66 (by decide) ?_
              refine r_SN2i d_X5_readTold_68 (w_X5_108 _ rfl) (c_isBelow (by omega) (by omega)) (by decide) (Nat.le_of_ble_eq_true rfl) (fun z68 T68 I68 L68 R68 h68 => ?_)
              obtain ⟨rfl, rfl, rfl, rfl, rfl⟩ := h68
              refine r_if_eq d_X5_readTold_71 (by split <;> omega) (fun c71 => ?_) (fun c71 => absurd c71 (by rw [if_neg (by omega)]; decide))
              refine r_iconst d_X5_readTold_130 ?_
              refine r_zret d_X5_readTold_131 rfl (by omega) ?_
              exact e
            · refine r_iload_n d_X5_readTold_52 rfl ?_
              refine r_iconst d_X5_readTold_53 ?_
              refine r_iadd d_X5_readTold_54 ?_
              refine r_iconst d_X5_readTold_55 ?_
              refine r_icmp_ge d_X5_readTold_56 (by omega) (by omega) (fun c56 => ?_) (fun c56 => absurd c56 (by omega))
              refine r_iload_n d_X5_readTold_65 rfl ?_
              refine r_bipush d_X5_readTold_66 (by decide) ?_
              refine r_SN2i d_X5_readTold_68 (w_X5_108 _ rfl) (c_isBelow (by omega) (by omega)) (by decide) (Nat.le_of_ble_eq_true rfl) (fun z68 T68 I68 L68 R68 h68 => ?_)
              obtain ⟨rfl, rfl, rfl, rfl, rfl⟩ := h68
              refine r_if_eq d_X5_readTold_71 (by split <;> omega) (fun c71 => ?_) (fun c71 => absurd c71 (by rw [if_neg (by omega)]; decide))
              refine r_iconst d_X5_readTold_130 ?_
              refine r_zret d_X5_readTold_131 rfl (by omega) ?_
              exact e
  refine r_iconst d_X5_readTold_0 ?_
  refine r_istore_n d_X5_readTold_1 (by decide) ?_
  refine r_iconst d_X5_readTold_2 ?_
  refine r_istore_n d_X5_readTold_3 (by decide) ?_
  refine r_aload_n d_X5_readTold_4 rfl ?_
  refine r_iconst d_X5_readTold_5 ?_
  refine r_puti d_X5_readTold_6 f_X5_105 (tt_4 _ _) (by decide) (Or.inl rfl) ?_
  refine r_aload_n d_X5_readTold_9 rfl ?_
  refine r_iconst d_X5_readTold_10 ?_
  refine r_puti d_X5_readTold_11 f_X5_28 (tt_4 _ _) (by decide) (Or.inl rfl) ?_
  refine CpL (loop len 0 0 (fun _ => false, 0, []) _ (by omega) rfl (by decide) (fun r _ => Nat.zero_testBit r) (fun a h4 _ _ => by rw [up2_ne _ _ h4, up2_ne _ _ h4]) (fun k h2 h6 => by rw [up2_nj _ _ h2, up2_nj _ _ h6]) (by rw [up2_at]; rfl) ⟨by rw [up2_nj _ _ (by decide), up2_at]; rfl, fun i q hq => by simp at hq⟩) (by repeat (first | exact trivial | refine ⟨rfl, ?_⟩))
end C69
