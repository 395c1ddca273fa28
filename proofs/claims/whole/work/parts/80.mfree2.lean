section X80
variable {g : sG} {Ls : Nat} {tl : List Nat} {I L : sI} {σ δ : Sg} {ℓ ab : Int} {nr nW ng : Nat}
theorem frX_end {σ : Sg} {ℓ ab : Int} {pm : Nat → Int} {kd : Int} {nr nW : Nat} {en : Nat → Bool} {δ : Sg} (h : ffS en δ nW = -1) : ∀ k, frX σ ℓ ab pm kd nr nW k en δ = δ
  | 0 => rfl
  | k + 1 => by show (if ffS en δ nW = -1 then δ else _) = δ; rw [if_pos h]
theorem x_layFree (hV : MV σ ℓ nr nW ng) (hX : MX σ nr nW ng I) (hK : MK ℓ ab nW I) (hab : -1 ≤ ab ∧ ab ≤ 100) (hDV : DV δ nr nW) (hD : DM δ nr nW I) (h40 : ∀ w, w < nW → δ 4 w ≤ 1000) {kd : Int} (hk : kd = 2 ∨ kd = 3 ∨ kd = 4) : Mc g 4 m_X8_layFree 0 0 [vr 139, vi kd] (TT Ls tl) I L (RR tl) (qV fun T' I' L' R' => T' = TT Ls tl ∧ R' = RR tl ∧ L' = L ∧ frb 175 180 I I' ∧ DR (frX σ ℓ ab (fun r => pmS σ r ng) kd nr nW 100 (fun w => decide ((w : Int) = ab)) δ) nr I') := by
  refine Mc_of rfl (Nat.le_of_ble_eq_true rfl) ?_
  obtain ⟨⟨s1, s2, s3, s4, s5⟩, v2, v3, v4⟩ := id hV
  obtain ⟨F, hF⟩ : ∃ F, F = frX σ ℓ ab (fun r => pmS σ r ng) kd nr nW 100 (fun w => decide ((w : Int) = ab)) δ := ⟨_, rfl⟩
  obtain ⟨Q, hQ⟩ : ∃ Q : sQ, Q = (qV fun T' I' L' R' => T' = TT Ls tl ∧ R' = RR tl ∧ L' = L ∧ frb 175 180 I I' ∧ DR F nr I') := ⟨_, rfl⟩
  rw [← hF, ← hQ]
  have done : ∀ (I1 : sI), frb 175 180 I I1 → DR F nr I1 → Cp g 4 m_X8_layFree 0 0 Q 2 [(0, vr 139), (1, vi kd), (2, vi 0)] [] (TT Ls tl) I1 L (RR tl) := by
    intro I1 f hR
    refine r_iload_n d_X8_layFree_2 rfl ?_
    refine r_if_eq d_X8_layFree_3 (by omega) (fun c3 => ?_) (fun c3 => absurd c3 (by decide))
    refine r_vret d_X8_layFree_130 rfl ?_
    rw [hQ]
    exact ⟨rfl, rfl, rfl, rfl, f, hR⟩
  have scan : ∀ (ε : Sg) (I1 : sI), frb 175 180 I I1 → DV ε nr nW → DM ε nr nW I1 → Cp g 4 m_X8_layFree 0 0 Q 72 [(0, vr 139), (1, vi kd), (2, vi 1), (3, vi (ffM ε ab nW))] [] (TT Ls tl) I1 L (RR tl) → Cp g 4 m_X8_layFree 0 0 Q 2 [(0, vr 139), (1, vi kd), (2, vi 1)] [] (TT Ls tl) I1 L (RR tl) := by
    intro ε I1 f hVε hDε next
    have hK1 := MK_frb hK f (by omega)
    have e56 : I1 139 56 = (nW : Int) := hK1.2.2
    have e55 : I1 139 55 = ab := hK1.2.1
    obtain ⟨ok, hok⟩ : ∃ ok : Nat → Bool, ok = fun (w : Nat) => decide (¬ (w : Int) = ab ∧ ε 4 w < 268435456) := ⟨_, rfl⟩
    have eff : ffM ε ab nW = amin ok (fun w => ε 4 w) nW := by unfold ffM; rw [hok]
    have inner : ∀ (k c : Nat), c + k = nW → Cp g 4 m_X8_layFree 0 0 Q 11 [(0, vr 139), (1, vi kd), (2, vi 1), (3, vi (amin ok (fun w => ε 4 w) c)), (4, vi (c : Int))] [] (TT Ls tl) I1 L (RR tl) := by
      intro k
      induction k with
      | zero =>
        intro c hc
        rw [show c = nW by omega, ← eff]
        refine r_iload d_X8_layFree_11 rfl ?_
        refine r_aload_n d_X8_layFree_13 rfl ?_
        refine r_geti d_X8_layFree_14 f_X8_278 (tt_139 _ _) (by decide) (by decide) ?_
        refine r_icmp_ge d_X8_layFree_17 (by omega) (by omega) (fun c17 => ?_) (fun c17 => absurd c17 (by omega))
        exact CpL next (by repeat (first | exact trivial | refine ⟨rfl, ?_⟩))
      | succ k ih =>
        intro c hc
        have hcn : c < nW := by omega
        have g4 := (hDε.2 c hcn).1
        have d4 := (hVε.2 c hcn).1
        have hrg := amin_rng ok (fun w => ε 4 w) c
        have oc : ok c = decide (¬ (c : Int) = ab ∧ ε 4 c < 268435456) := by rw [hok]
        by_cases kc : ¬ (c : Int) = ab ∧ ε 4 c < 268435456
        · rw [decide_eq_true kc] at oc
          by_cases ha : amin ok (fun w => ε 4 w) c = -1
          · have ea := amin_yes (ok := ok) (key := fun w => ε 4 w) (n := c) oc (Or.inl ha)
            refine r_iload d_X8_layFree_11 rfl ?_
            refine r_aload_n d_X8_layFree_13 rfl ?_
            refine r_geti d_X8_layFree_14 f_X8_278 (tt_139 _ _) (by decide) (by decide) ?_
            refine r_icmp_ge d_X8_layFree_17 (by omega) (by omega) (fun c17 => absurd c17 (by omega)) (fun c17 => ?_)
            refine r_iload d_X8_layFree_20 rfl ?_
            refine r_aload_n d_X8_layFree_22 rfl ?_
            refine r_geti d_X8_layFree_23 f_X8_121 (tt_139 _ _) (by decide) (by decide) ?_
            rw [e55]
            refine r_icmp_eq d_X8_layFree_26 (by omega) (by omega) (fun c26 => absurd c26 (by omega)) (fun c26 => ?_)
            refine r_aload_n d_X8_layFree_29 rfl ?_
            refine r_getr d_X8_layFree_30 f_X8_127 (tt_139 _ _) (by decide) rfl (rr_139_58 _) ?_
            refine r_iload d_X8_layFree_33 rfl ?_
            refine r_ialdJ d_X8_layFree_35 (tt_176 _ _) rfl (by omega) (kk := ?_)
            rw [g4]
            refine r_ldcw d_X8_layFree_36 (k_X8_314 _ rfl) ?_
            refine r_icmp_ge d_X8_layFree_39 (by omega) (by omega) (fun c39 => absurd c39 (by omega)) (fun c39 => ?_)
            refine r_iload_n d_X8_layFree_42 rfl ?_
            refine r_iconst d_X8_layFree_43 ?_
            refine r_icmp_eq d_X8_layFree_44 (by omega) (by omega) (fun c44 => ?_) (fun c44 => absurd c44 (by omega))
            refine r_iload d_X8_layFree_63 rfl ?_
            refine r_istore_n d_X8_layFree_65 (by decide) ?_
            refine r_iinc d_X8_layFree_66 rfl (by decide) ?_
            refine r_goto d_X8_layFree_69 ?_
            exact CpL (ih (c + 1) (by omega)) (by repeat (first | exact trivial | refine ⟨rfl, ?_⟩ | refine ⟨by rw [ea]; rfl, ?_⟩))
          · obtain ⟨v, hve⟩ : ∃ v : Nat, amin ok (fun w => ε 4 w) c = (v : Int) := ⟨(amin ok (fun w => ε 4 w) c).toNat, by omega⟩
            have hvn : v < nW := by omega
            have g4v := (hDε.2 v hvn).1
            have d4v := (hVε.2 v hvn).1
            by_cases hlt : ε 4 c < ε 4 v
            · have ea := amin_yes (ok := ok) (key := fun w => ε 4 w) (n := c) oc (Or.inr (by rw [hve, Int.toNat_natCast]; exact hlt))
              rw [hve]
              refine r_iload d_X8_layFree_11 rfl ?_
              refine r_aload_n d_X8_layFree_13 rfl ?_
              refine r_geti d_X8_layFree_14 f_X8_278 (tt_139 _ _) (by decide) (by decide) ?_
              refine r_icmp_ge d_X8_layFree_17 (by omega) (by omega) (fun c17 => absurd c17 (by omega)) (fun c17 => ?_)
              refine r_iload d_X8_layFree_20 rfl ?_
              refine r_aload_n d_X8_layFree_22 rfl ?_
              refine r_geti d_X8_layFree_23 f_X8_121 (tt_139 _ _) (by decide) (by decide) ?_
              rw [e55]
              refine r_icmp_eq d_X8_layFree_26 (by omega) (by omega) (fun c26 => absurd c26 (by omega)) (fun c26 => ?_)
              refine r_aload_n d_X8_layFree_29 rfl ?_
              refine r_getr d_X8_layFree_30 f_X8_127 (tt_139 _ _) (by decide) rfl (rr_139_58 _) ?_
              refine r_iload d_X8_layFree_33 rfl ?_
              refine r_ialdJ d_X8_layFree_35 (tt_176 _ _) rfl (by omega) (kk := ?_)
              rw [g4]
              refine r_ldcw d_X8_layFree_36 (k_X8_314 _ rfl) ?_
              refine r_icmp_ge d_X8_layFree_39 (by omega) (by omega) (fun c39 => absurd c39 (by omega)) (fun c39 => ?_)
              refine r_iload_n d_X8_layFree_42 rfl ?_
              refine r_iconst d_X8_layFree_43 ?_
              refine r_icmp_eq d_X8_layFree_44 (by omega) (by omega) (fun c44 => absurd c44 (by omega)) (fun c44 => ?_)
              refine r_aload_n d_X8_layFree_47 rfl ?_
              refine r_getr d_X8_layFree_48 f_X8_127 (tt_139 _ _) (by decide) rfl (rr_139_58 _) ?_
              refine r_iload d_X8_layFree_51 rfl ?_
              refine r_ialdJ d_X8_layFree_53 (tt_176 _ _) rfl (by omega) (kk := ?_)
              rw [g4]
              refine r_aload_n d_X8_layFree_54 rfl ?_
              refine r_getr d_X8_layFree_55 f_X8_127 (tt_139 _ _) (by decide) rfl (rr_139_58 _) ?_
              refine r_iload_n d_X8_layFree_58 rfl ?_
              refine r_ialdJ d_X8_layFree_59 (tt_176 _ _) rfl (by omega) (kk := ?_)
              rw [g4v]
              refine r_icmp_ge d_X8_layFree_60 (by omega) (by omega) (fun c60 => absurd c60 (by omega)) (fun c60 => ?_)
              refine r_iload d_X8_layFree_63 rfl ?_
              refine r_istore_n d_X8_layFree_65 (by decide) ?_
              refine r_iinc d_X8_layFree_66 rfl (by decide) ?_
              refine r_goto d_X8_layFree_69 ?_
              exact CpL (ih (c + 1) (by omega)) (by repeat (first | exact trivial | refine ⟨rfl, ?_⟩ | refine ⟨by rw [ea]; rfl, ?_⟩))
            · have ea := amin_no (ok := ok) (key := fun w => ε 4 w) (n := c) (Or.inr ⟨ha, by rw [hve, Int.toNat_natCast]; show ε 4 v ≤ ε 4 c; omega⟩)
              rw [hve] at ea ⊢
              refine r_iload d_X8_layFree_11 rfl ?_
              refine r_aload_n d_X8_layFree_13 rfl ?_
              refine r_geti d_X8_layFree_14 f_X8_278 (tt_139 _ _) (by decide) (by decide) ?_
              refine r_icmp_ge d_X8_layFree_17 (by omega) (by omega) (fun c17 => absurd c17 (by omega)) (fun c17 => ?_)
              refine r_iload d_X8_layFree_20 rfl ?_
              refine r_aload_n d_X8_layFree_22 rfl ?_
              refine r_geti d_X8_layFree_23 f_X8_121 (tt_139 _ _) (by decide) (by decide) ?_
              rw [e55]
              refine r_icmp_eq d_X8_layFree_26 (by omega) (by omega) (fun c26 => absurd c26 (by omega)) (fun c26 => ?_)
              refine r_aload_n d_X8_layFree_29 rfl ?_
              refine r_getr d_X8_layFree_30 f_X8_127 (tt_139 _ _) (by decide) rfl (rr_139_58 _) ?_
              refine r_iload d_X8_layFree_33 rfl ?_
              refine r_ialdJ d_X8_layFree_35 (tt_176 _ _) rfl (by omega) (kk := ?_)
              rw [g4]
              refine r_ldcw d_X8_layFree_36 (k_X8_314 _ rfl) ?_
              refine r_icmp_ge d_X8_layFree_39 (by omega) (by omega) (fun c39 => absurd c39 (by omega)) (fun c39 => ?_)
              refine r_iload_n d_X8_layFree_42 rfl ?_
              refine r_iconst d_X8_layFree_43 ?_
              refine r_icmp_eq d_X8_layFree_44 (by omega) (by omega) (fun c44 => absurd c44 (by omega)) (fun c44 => ?_)
              refine r_aload_n d_X8_layFree_47 rfl ?_
              refine r_getr d_X8_layFree_48 f_X8_127 (tt_139 _ _) (by decide) rfl (rr_139_58 _) ?_
              refine r_iload d_X8_layFree_51 rfl ?_
              refine r_ialdJ d_X8_layFree_53 (tt_176 _ _) rfl (by omega) (kk := ?_)
              rw [g4]
              refine r_aload_n d_X8_layFree_54 rfl ?_
              refine r_getr d_X8_layFree_55 f_X8_127 (tt_139 _ _) (by decide) rfl (rr_139_58 _) ?_
              refine r_iload_n d_X8_layFree_58 rfl ?_
              refine r_ialdJ d_X8_layFree_59 (tt_176 _ _) rfl (by omega) (kk := ?_)
              rw [g4v]
              refine r_icmp_ge d_X8_layFree_60 (by omega) (by omega) (fun c60 => ?_) (fun c60 => absurd c60 (by omega))
              refine r_iinc d_X8_layFree_66 rfl (by decide) ?_
              refine r_goto d_X8_layFree_69 ?_
              exact CpL (ih (c + 1) (by omega)) (by repeat (first | exact trivial | refine ⟨rfl, ?_⟩ | refine ⟨by rw [ea]; rfl, ?_⟩))
        · rw [decide_eq_false kc] at oc
          have ea := amin_no (ok := ok) (key := fun w => ε 4 w) (n := c) (Or.inl oc)
          refine r_iload d_X8_layFree_11 rfl ?_
          refine r_aload_n d_X8_layFree_13 rfl ?_
          refine r_geti d_X8_layFree_14 f_X8_278 (tt_139 _ _) (by decide) (by decide) ?_
          refine r_icmp_ge d_X8_layFree_17 (by omega) (by omega) (fun c17 => absurd c17 (by omega)) (fun c17 => ?_)
          refine r_iload d_X8_layFree_20 rfl ?_
          refine r_aload_n d_X8_layFree_22 rfl ?_
          refine r_geti d_X8_layFree_23 f_X8_121 (tt_139 _ _) (by decide) (by decide) ?_
          rw [e55]
          refine r_icmp_eq d_X8_layFree_26 (by omega) (by omega) (fun c26 => ?_) (fun c26 => ?_)
          · refine r_iinc d_X8_layFree_66 rfl (by decide) ?_
            refine r_goto d_X8_layFree_69 ?_
            exact CpL (ih (c + 1) (by omega)) (by repeat (first | exact trivial | refine ⟨rfl, ?_⟩ | refine ⟨by rw [ea]; rfl, ?_⟩))
          · refine r_aload_n d_X8_layFree_29 rfl ?_
            refine r_getr d_X8_layFree_30 f_X8_127 (tt_139 _ _) (by decide) rfl (rr_139_58 _) ?_
            refine r_iload d_X8_layFree_33 rfl ?_
            refine r_ialdJ d_X8_layFree_35 (tt_176 _ _) rfl (by omega) (kk := ?_)
            rw [g4]
            refine r_ldcw d_X8_layFree_36 (k_X8_314 _ rfl) ?_
            refine r_icmp_ge d_X8_layFree_39 (by omega) (by omega) (fun c39 => ?_) (fun c39 => absurd c39 (by omega))
            refine r_iinc d_X8_layFree_66 rfl (by decide) ?_
            refine r_goto d_X8_layFree_69 ?_
            exact CpL (ih (c + 1) (by omega)) (by repeat (first | exact trivial | refine ⟨rfl, ?_⟩ | refine ⟨by rw [ea]; rfl, ?_⟩))
    refine r_iload_n d_X8_layFree_2 rfl ?_
    refine r_if_eq d_X8_layFree_3 (by omega) (fun c3 => absurd c3 (by decide)) (fun c3 => ?_)
    refine r_iconst d_X8_layFree_6 ?_
    refine r_istore_n d_X8_layFree_7 (by decide) ?_
    refine r_iconst d_X8_layFree_8 ?_
    refine r_istore d_X8_layFree_9 (by decide) ?_
    exact CpL (inner nW 0 (by omega)) (by repeat (first | exact trivial | refine ⟨rfl, ?_⟩))
  have over : ∀ (k : Nat) (en : Nat → Bool) (δ1 ε : Sg) (I1 : sI), frb 175 180 I I1 → FRX nW ab en δ1 ε → DV ε nr nW → DM ε nr nW I1 → ffS en δ1 nW = -1 → frX σ ℓ ab (fun r => pmS σ r ng) kd nr nW k en δ1 = F → Cp g 4 m_X8_layFree 0 0 Q 2 [(0, vr 139), (1, vi kd), (2, vi 1)] [] (TT Ls tl) I1 L (RR tl) := by
    intro k en δ1 ε I1 f hFR hVε hDε hff hfr
    have hR : DR F nr I1 := by
      rw [← hfr, frX_end hff]
      intro r hr
      obtain ⟨q0, q1, q2, q3⟩ := hDε.1 r hr
      rw [hFR.1 0 (by decide)] at q0
      rw [hFR.1 1 (by decide)] at q1
      rw [hFR.1 2 (by decide)] at q2
      rw [hFR.1 3 (by decide)] at q3
      exact ⟨q0, q1, q2, q3⟩
    refine scan ε I1 f hVε hDε ?_
    rw [ff_eq hFR, hff]
    refine r_iload_n d_X8_layFree_72 rfl ?_
    refine r_iconst d_X8_layFree_73 ?_
    refine r_icmp_eq d_X8_layFree_74 (by omega) (by omega) (fun c74 => ?_) (fun c74 => absurd c74 (by decide))
    refine r_iconst d_X8_layFree_81 ?_
    refine r_istore_n d_X8_layFree_82 (by decide) ?_
    refine r_iload_n d_X8_layFree_83 rfl ?_
    refine r_if_eq d_X8_layFree_84 (by omega) (fun c84 => ?_) (fun c84 => absurd c84 (by decide))
    refine r_goto d_X8_layFree_127 ?_
    exact CpL (done I1 f hR) (by repeat (first | exact trivial | refine ⟨rfl, ?_⟩))
  have loop : ∀ (k : Nat) (en : Nat → Bool) (δ1 ε : Sg) (I1 : sI), frb 175 180 I I1 → FRX nW ab en δ1 ε → DV δ1 nr nW → DV ε nr nW → DM ε nr nW I1 → mzF nr nW en δ1 ≤ k → frX σ ℓ ab (fun r => pmS σ r ng) kd nr nW k en δ1 = F → Cp g 4 m_X8_layFree 0 0 Q 2 [(0, vr 139), (1, vi kd), (2, vi 1)] [] (TT Ls tl) I1 L (RR tl) := by
    intro k
    induction k with
    | zero =>
      intro en δ1 ε I1 f hFR hV1 hVε hDε hmz hfr
      have hff : ffS en δ1 nW = -1 := by
        have hr := ffS_bd (en := en) (δ := δ1) (nW := nW)
        apply Classical.byContradiction
        intro q
        obtain ⟨w, hw⟩ : ∃ w : Nat, ffS en δ1 nW = (w : Int) := ⟨(ffS en δ1 nW).toNat, by omega⟩
        obtain ⟨a, b⟩ := ff_at (ab := ab) hw
        have := mz_pos (nr := nr) (δ := δ1) a b
        omega
      exact over 0 en δ1 ε I1 f hFR hVε hDε hff hfr
    | succ k ih =>
      intro en δ1 ε I1 f hFR hV1 hVε hDε hmz hfr
      by_cases hff : ffS en δ1 nW = -1
      · exact over (k + 1) en δ1 ε I1 f hFR hVε hDε hff hfr
      · have hr := ffS_bd (en := en) (δ := δ1) (nW := nW)
        obtain ⟨w, hwe⟩ : ∃ w : Nat, ffS en δ1 nW = (w : Int) := ⟨(ffS en δ1 nW).toNat, by omega⟩
        obtain ⟨hw, hen⟩ := ff_at (ab := ab) hwe
        obtain ⟨st1, st2, st3⟩ := free_step (ab := ab) (pm := fun r => pmS σ r ng) (kd := kd) hV.1 hV1 hwe hmz
        obtain ⟨nab, e4, b4⟩ := (hFR.2 w hw).1 hen
        have hX1 := MX_frb hX f (by omega)
        have hK1 := MK_frb hK f (by omega)
        have g4 := (hDε.2 w hw).1
        have d4 := (hVε.2 w hw).1
        have ech := cho_eq (σ := σ) (ℓ := ℓ) (ab := ab) (pm := fun r => pmS σ r ng) (kd := kd) (nr := nr) hFR.1 e4
        have hcb := choS_bd (σ := σ) (ℓ := ℓ) (ab := ab) (pm := fun r => pmS σ r ng) (kd := kd) (nr := nr) (δ := δ1) (w := w)
        have hcc := x_chosen (g := g) (Ls := Ls) (tl := tl) (L := L) hV hX1 hK1 hab hVε hDε hw hk
        rw [ech] at hcc
        refine scan ε I1 f hVε hDε ?_
        rw [ff_eq hFR, hwe]
        by_cases hc : choS σ ℓ ab (fun r => pmS σ r ng) kd nr δ1 w = -1
        · rw [hc] at hcc
          have hnx := x_nextGone (g := g) (Ls := Ls) (tl := tl) (L := L) hV hX1 hVε hDε (q := ε 4 w) (by omega)
          have enx : ngM ε (ε 4 w) nr = if ngS δ1 (δ1 4 w) nr = -1 then 268435456 else ngS δ1 (δ1 4 w) nr := by unfold ngM; rw [ng_eq hFR.1, e4]
          have up : ∀ (x y : Int) (b : Bool), (b = false → x = y ∧ y ≤ 1000) → (b = true → x = 268435456) → 0 ≤ x → x ≤ 268435456 → 0 ≤ y → y ≤ 268435456 → FRX nW ab (fun v => if v = w then b else en v) (up2 δ1 4 w y) (up2 ε 4 w x) ∧ DV (up2 δ1 4 w y) nr nW ∧ DV (up2 ε 4 w x) nr nW := by
            intro x y b hb1 hb2 hx0 hx1 hy0 hy1
            refine ⟨⟨fun k hk => by rw [up2_ne _ _ hk, up2_ne _ _ hk]; exact hFR.1 k hk, fun v hv => ?_⟩, DV_free hV1 ⟨hy0, hy1⟩, DV_free hVε ⟨hx0, hx1⟩⟩
            show ((if v = w then b else en v) = false → _) ∧ ((if v = w then b else en v) = true → _)
            by_cases e : v = w
            · subst e
              rw [if_pos rfl, up2_at, up2_at]
              exact ⟨fun h => ⟨nab, (hb1 h).1, (hb1 h).2⟩, fun h => Or.inr (hb2 h)⟩
            · rw [if_neg e, up2_nj _ _ e, up2_nj _ _ e]
              exact hFR.2 v hv
          have dup : ∀ (x : Int), DM (up2 ε 4 w x) nr nW (up2 I1 176 w x) := by
            intro x
            refine ⟨fun r hr => ?_, fun v hv => ?_⟩
            · rw [up2_ne _ _ (show (174 : Nat) ≠ 176 by decide), up2_ne _ _ (show (177 : Nat) ≠ 176 by decide), up2_ne _ _ (show (178 : Nat) ≠ 176 by decide), up2_ne _ _ (show (179 : Nat) ≠ 176 by decide), up2_ne _ _ (show (0 : Nat) ≠ 4 by decide), up2_ne _ _ (show (1 : Nat) ≠ 4 by decide), up2_ne _ _ (show (2 : Nat) ≠ 4 by decide), up2_ne _ _ (show (3 : Nat) ≠ 4 by decide)]
              exact hDε.1 r hr
            · obtain ⟨a4, a5⟩ := hDε.2 v hv
              rw [up2_ne _ _ (show (175 : Nat) ≠ 176 by decide), up2_ne _ _ (show (5 : Nat) ≠ 4 by decide)]
              refine ⟨?_, a5⟩
              by_cases e : v = w
              · rw [e, up2_at, up2_at]
              · rw [up2_nj _ _ e, up2_nj _ _ e]; exact a4
          by_cases hn : ngS δ1 (δ1 4 w) nr = -1
          · obtain ⟨q1, q2⟩ := st3 hc hn
            rw [if_pos hn] at enx
            rw [enx] at hnx
            have h14 := (hV1.2 w hw).1
            obtain ⟨u1, u2, u3⟩ := up 268435456 (δ1 4 w) true (fun h => by cases h) (fun _ => rfl) (by omega) (by omega) (by omega) (by omega)
            refine r_iload_n d_X8_layFree_72 rfl ?_
            refine r_iconst d_X8_layFree_73 ?_
            refine r_icmp_eq d_X8_layFree_74 (by omega) (by omega) (fun c74 => absurd c74 (by omega)) (fun c74 => ?_)
            refine r_iconst d_X8_layFree_77 ?_
            refine r_goto d_X8_layFree_78 ?_
            refine r_istore_n d_X8_layFree_82 (by decide) ?_
            refine r_iload_n d_X8_layFree_83 rfl ?_
            refine r_if_eq d_X8_layFree_84 (by omega) (fun c84 => absurd c84 (by decide)) (fun c84 => ?_)
            refine r_aload_n d_X8_layFree_87 rfl ?_
            refine r_iload_n d_X8_layFree_88 rfl ?_
            refine r_iload_n d_X8_layFree_89 rfl ?_
            refine r_V2i d_X8_layFree_90 (w_X8_315 _ rfl) (tt_139 _ _) rfl rfl (hcc) (by decide) (Nat.le_of_ble_eq_true rfl) (fun z90 T90 I90 L90 R90 h90 => ?_)
            obtain ⟨rfl, rfl, rfl, rfl, rfl⟩ := h90
            refine r_istore d_X8_layFree_93 (by decide) ?_
            refine r_iload d_X8_layFree_95 rfl ?_
            refine r_iconst d_X8_layFree_97 ?_
            refine r_icmp_eq d_X8_layFree_98 (by omega) (by omega) (fun c98 => ?_) (fun c98 => absurd c98 (by decide))
            refine r_aload_n d_X8_layFree_111 rfl ?_
            refine r_getr d_X8_layFree_112 f_X8_127 (tt_139 _ _) (by decide) rfl (rr_139_58 _) ?_
            refine r_iload_n d_X8_layFree_115 rfl ?_
            refine r_aload_n d_X8_layFree_116 rfl ?_
            refine r_aload_n d_X8_layFree_117 rfl ?_
            refine r_getr d_X8_layFree_118 f_X8_127 (tt_139 _ _) (by decide) rfl (rr_139_58 _) ?_
            refine r_iload_n d_X8_layFree_121 rfl ?_
            refine r_ialdJ d_X8_layFree_122 (tt_176 _ _) rfl (by omega) (kk := ?_)
            rw [g4]
            refine r_V1i d_X8_layFree_123 (w_X8_318 _ rfl) (tt_139 _ _) rfl rfl (hnx) (by decide) (Nat.le_of_ble_eq_true rfl) (fun z123 T123 I123 L123 R123 h123 => ?_)
            obtain ⟨rfl, rfl, rfl, rfl, rfl⟩ := h123
            refine r_iastJ d_X8_layFree_126 (tt_176 _ _) (by omega) rfl (by omega) (kk := ?_)
            refine r_goto d_X8_layFree_127 ?_
            exact CpL (ih _ _ _ _ (frb_up f (by omega)) u1 u2 u3 (dup _) q2 (by rw [← q1]; exact hfr)) (by repeat (first | exact trivial | refine ⟨rfl, ?_⟩))
          · obtain ⟨q1, q2⟩ := st2 hc hn
            rw [if_neg hn] at enx
            rw [enx] at hnx
            have nb := ngS_bd2 (q := δ1 4 w) hV1 nr (Nat.le_refl _)
            obtain ⟨u1, u2, u3⟩ := up (ngS δ1 (δ1 4 w) nr) (ngS δ1 (δ1 4 w) nr) false (fun _ => ⟨rfl, by omega⟩) (fun h => by cases h) (by omega) (by omega) (by omega) (by omega)
            refine r_iload_n d_X8_layFree_72 rfl ?_
            refine r_iconst d_X8_layFree_73 ?_
            refine r_icmp_eq d_X8_layFree_74 (by omega) (by omega) (fun c74 => absurd c74 (by omega)) (fun c74 => ?_)
            refine r_iconst d_X8_layFree_77 ?_
            refine r_goto d_X8_layFree_78 ?_
            refine r_istore_n d_X8_layFree_82 (by decide) ?_
            refine r_iload_n d_X8_layFree_83 rfl ?_
            refine r_if_eq d_X8_layFree_84 (by omega) (fun c84 => absurd c84 (by decide)) (fun c84 => ?_)
            refine r_aload_n d_X8_layFree_87 rfl ?_
            refine r_iload_n d_X8_layFree_88 rfl ?_
            refine r_iload_n d_X8_layFree_89 rfl ?_
            refine r_V2i d_X8_layFree_90 (w_X8_315 _ rfl) (tt_139 _ _) rfl rfl (hcc) (by decide) (Nat.le_of_ble_eq_true rfl) (fun z90 T90 I90 L90 R90 h90 => ?_)
            obtain ⟨rfl, rfl, rfl, rfl, rfl⟩ := h90
            refine r_istore d_X8_layFree_93 (by decide) ?_
            refine r_iload d_X8_layFree_95 rfl ?_
            refine r_iconst d_X8_layFree_97 ?_
            refine r_icmp_eq d_X8_layFree_98 (by omega) (by omega) (fun c98 => ?_) (fun c98 => absurd c98 (by decide))
            refine r_aload_n d_X8_layFree_111 rfl ?_
            refine r_getr d_X8_layFree_112 f_X8_127 (tt_139 _ _) (by decide) rfl (rr_139_58 _) ?_
            refine r_iload_n d_X8_layFree_115 rfl ?_
            refine r_aload_n d_X8_layFree_116 rfl ?_
            refine r_aload_n d_X8_layFree_117 rfl ?_
            refine r_getr d_X8_layFree_118 f_X8_127 (tt_139 _ _) (by decide) rfl (rr_139_58 _) ?_
            refine r_iload_n d_X8_layFree_121 rfl ?_
            refine r_ialdJ d_X8_layFree_122 (tt_176 _ _) rfl (by omega) (kk := ?_)
            rw [g4]
            refine r_V1i d_X8_layFree_123 (w_X8_318 _ rfl) (tt_139 _ _) rfl rfl (hnx) (by decide) (Nat.le_of_ble_eq_true rfl) (fun z123 T123 I123 L123 R123 h123 => ?_)
            obtain ⟨rfl, rfl, rfl, rfl, rfl⟩ := h123
            refine r_iastJ d_X8_layFree_126 (tt_176 _ _) (by omega) rfl (by omega) (kk := ?_)
            refine r_goto d_X8_layFree_127 ?_
            exact CpL (ih _ _ _ _ (frb_up f (by omega)) u1 u2 u3 (dup _) q2 (by rw [← q1]; exact hfr)) (by repeat (first | exact trivial | refine ⟨rfl, ?_⟩))
        · obtain ⟨r, hre⟩ : ∃ r : Nat, choS σ ℓ ab (fun r => pmS σ r ng) kd nr δ1 w = (r : Int) := ⟨(choS σ ℓ ab (fun r => pmS σ r ng) kd nr δ1 w).toNat, by omega⟩
          rw [hre] at hcc
          obtain ⟨q1, hrn, q3, q4, q5⟩ := st1 r hre
          have hdv1 : DV (doS σ ℓ δ1 w r) nr nW := by have := DV_step (ab := ab) hV.1 hV1 hw hrn; unfold stepS at this; rw [if_pos q3] at this; exact this
          have q3e : mayS σ ℓ ab ε w r = true := by rw [may_eq hFR.1 e4]; exact q3
          have hdv2 : DV (doS σ ℓ ε w r) nr nW := by have := DV_step (ab := ab) hV.1 hVε hw hrn; unfold stepS at this; rw [if_pos q3e] at this; exact this
          have hfr2 : FRX nW ab en (doS σ ℓ δ1 w r) (doS σ ℓ ε w r) := by
            refine ⟨do_eq hFR.1 e4, fun v hv => ?_⟩
            have dn := doS_ne (σ := σ) (ℓ := ℓ) (δ := δ1) (w := w) (r := r)
            have dm := doS_ne (σ := σ) (ℓ := ℓ) (δ := ε) (w := w) (r := r)
            by_cases e : v = w
            · subst e
              have er : rdyS σ ℓ ε v r = rdyS σ ℓ δ1 v r := by unfold rdyS; rw [beg_eq hFR.1 e4]
              have x1 : doS σ ℓ δ1 v r 4 v = rdyS σ ℓ δ1 v r := by unfold doS; rw [up2_ne _ _ (show (4 : Nat) ≠ 5 by decide), up2_at]
              have x2 : doS σ ℓ ε v r 4 v = rdyS σ ℓ ε v r := by unfold doS; rw [up2_ne _ _ (show (4 : Nat) ≠ 5 by decide), up2_at]
              have h9 := (of_decide_eq_true q3).2
              have wv := (s4 v hw).2.2
              rw [x1, x2, er]
              exact ⟨fun _ => ⟨nab, rfl, by omega⟩, fun h => by rw [hen] at h; cases h⟩
            · rw [(dn.2.2.1 v e).1, (dm.2.2.1 v e).1]
              exact hFR.2 v hv
          refine r_iload_n d_X8_layFree_72 rfl ?_
          refine r_iconst d_X8_layFree_73 ?_
          refine r_icmp_eq d_X8_layFree_74 (by omega) (by omega) (fun c74 => absurd c74 (by omega)) (fun c74 => ?_)
          refine r_iconst d_X8_layFree_77 ?_
          refine r_goto d_X8_layFree_78 ?_
          refine r_istore_n d_X8_layFree_82 (by decide) ?_
          refine r_iload_n d_X8_layFree_83 rfl ?_
          refine r_if_eq d_X8_layFree_84 (by omega) (fun c84 => absurd c84 (by decide)) (fun c84 => ?_)
          refine r_aload_n d_X8_layFree_87 rfl ?_
          refine r_iload_n d_X8_layFree_88 rfl ?_
          refine r_iload_n d_X8_layFree_89 rfl ?_
          refine r_V2i d_X8_layFree_90 (w_X8_315 _ rfl) (tt_139 _ _) rfl rfl (hcc) (by decide) (Nat.le_of_ble_eq_true rfl) (fun z90 T90 I90 L90 R90 h90 => ?_)
          obtain ⟨rfl, rfl, rfl, rfl, rfl⟩ := h90
          refine r_istore d_X8_layFree_93 (by decide) ?_
          refine r_iload d_X8_layFree_95 rfl ?_
          refine r_iconst d_X8_layFree_97 ?_
          refine r_icmp_eq d_X8_layFree_98 (by omega) (by omega) (fun c98 => absurd c98 (by omega)) (fun c98 => ?_)
          refine r_aload_n d_X8_layFree_101 rfl ?_
          refine r_iload_n d_X8_layFree_102 rfl ?_
          refine r_iload d_X8_layFree_103 rfl ?_
          refine r_V2v d_X8_layFree_105 (w_X8_295 _ rfl) (tt_139 _ _) rfl rfl (x_doRoom hV hX1 hK1.1 hVε hDε hw hrn) (by decide) (Nat.le_of_ble_eq_true rfl) (fun T105 I105 L105 R105 h105 => ?_)
          obtain ⟨rfl, rfl, rfl, y1, y2⟩ := h105
          refine r_goto d_X8_layFree_108 ?_
          refine r_goto d_X8_layFree_127 ?_
          exact CpL (ih en _ _ _ (frb_tr f y1) hfr2 hdv1 hdv2 y2 q5 (by rw [← q1]; exact hfr)) (by repeat (first | exact trivial | refine ⟨rfl, ?_⟩))
  refine r_iconst d_X8_layFree_0 ?_
  refine r_istore_n d_X8_layFree_1 (by decide) ?_
  refine CpL (loop 100 (fun w => decide ((w : Int) = ab)) δ δ I frb_rf ⟨fun _ _ => rfl, fun w hw => ⟨fun h => ⟨of_decide_eq_false h, rfl, h40 w hw⟩, fun h => Or.inl (of_decide_eq_true h)⟩⟩ hDV hDV hD (Nat.le_trans (mz_op (σ := σ) s1 s2) (by omega)) hF.symm) (by repeat (first | exact trivial | refine ⟨rfl, ?_⟩))
end X80
