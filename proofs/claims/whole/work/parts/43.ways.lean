/-- the order of a rule: of a best one the best, else as numbered -/
def ODS (σ : Sg) (ℓ ab : Int) (nr nW ng : Nat) (kd nn : Int) (od : Nat → Nat) : Prop := (¬ (kd = 5 ∧ nr ≤ 6) ∧ od = fun k => k) ∨ ((kd = 5 ∧ nr ≤ 6) ∧ ∃ lf, BST σ ℓ ab nr nW ng nn lf ∧ ∀ j, j < nr → lf[j]? = some (od j))
/-- a day's cost by a way -/
def DC (σ : Sg) (ℓ ab : Int) (nr nW ng : Nat) (kd : Int) (od tr tw : Nat → Nat) (tn way : Nat) (how z : Int) (ro : Nat → Int) : Prop := GVX σ nr ng (planX σ ℓ ab (fun r => pmS σ r ng) nr nW kd od tr tw tn way 3) how z ro
section C43
variable {g : sG} {Ls : Nat} {tl : List Nat} {I L : sI} {σ : Sg} {ℓ ab : Int} {nr nw nW ng : Nat}
theorem order_post {I' L' : sI} {z : Nat} (hB : XB σ ℓ ab nr nw nW ng I L) {kd : Int} {hw : Nat} (hhw : hw < 2) (f1 : frb 70 137 I I') (f2 : frb 81 120 L L') (k : KNX σ ℓ ab nr nW ng I') (c1 : ¬ (kd = 5 ∧ nr ≤ 6) → z = 1) (c2 : kd = 5 ∧ nr ≤ 6 → z = 134 + hw ∧ ∃ lf, BST σ ℓ ab nr nW ng (hw : Int) lf ∧ LFX nr lf (I' (134 + hw))) : XB σ ℓ ab nr nw nW ng I' L' ∧ ∃ od, ODS σ ℓ ab nr nW ng kd (hw : Int) od ∧ OX Ls tl nr z od I' := by
  obtain ⟨h1, h2, h3, h4, h5, h6, h7, h8⟩ := id hB
  have hB' := XB_day (I' := I') (L' := L') hB (fun a ha => f1 a (by omega)) k f2
  refine ⟨hB', ?_⟩
  have hnr := h2.1
  by_cases hc : kd = 5 ∧ nr ≤ 6
  · obtain ⟨ez, lf, hb, hl⟩ := c2 hc
    obtain ⟨od, hod⟩ : ∃ od : Nat → Nat, ∀ j, j < nr → lf[j]? = some (od j) ∧ od j < nr ∧ I' (134 + hw) j = (od j : Int) := by
      refine ⟨fun j => (lf[j]?).getD 0, fun j hj => ?_⟩
      obtain ⟨x, x1, x2, x3⟩ := hl j hj
      show lf[j]? = some ((lf[j]?).getD 0) ∧ (lf[j]?).getD 0 < nr ∧ I' (134 + hw) j = (((lf[j]?).getD 0 : Nat) : Int)
      rw [x1]
      exact ⟨rfl, x2, x3⟩
    refine ⟨od, Or.inr ⟨hc, lf, hb, fun j hj => (hod j hj).1⟩, ⟨6, ?_, hc.2, by omega⟩, by omega, fun j hj => ?_⟩
    · rw [ez]; exact tt2_133 Ls tl (by omega)
    · rw [ez]; exact (hod j hj).2
  · have ez := c1 hc
    refine ⟨fun k => k, Or.inl ⟨hc, rfl⟩, ⟨8, by rw [ez]; exact tt_1 Ls tl, by omega, by omega⟩, by omega, fun j hj => ⟨hj, ?_⟩⟩
    rw [ez, hB'.2.2.2.2.2.2.2 j (by omega)]
theorem c_costOverWays (hB : XB σ ℓ ab nr nw nW ng I L) (h0 : 0 < nr) {q tn : Nat} {kd nn : Int} {tr tw : Nat → Nat} (hU : UX tl q kd nn tr tw tn I) {how : Int} (hh : how = 0 ∨ how = 1) : Mc g 12 m_X7_costOverWays 0 0 [vr 3, vr (186 + 3 * q), vi how] (TT Ls tl) I L (RR tl) (qI fun z T' I' L' R' => T' = TT Ls tl ∧ R' = RR tl ∧ frb 70 137 I I' ∧ frb 81 120 L L' ∧ XB σ ℓ ab nr nw nW ng I' L' ∧ ∃ (od : Nat → Nat) (C : Nat → Int), ODS σ ℓ ab nr nW ng kd nn od ∧ (∀ way, way < 2 ^ chn σ nr → 0 < wtX σ way nr → ∃ ro, DC σ ℓ ab nr nW ng kd od tr tw tn way how (C way) ro) ∧ z = sumN (fun way => if 0 < wtX σ way nr then wtX σ way nr * C way else 0) (2 ^ chn σ nr)) := by
  refine Mc_of rfl (Nat.le_of_ble_eq_true rfl) ?_
  obtain ⟨b1, b2, b3, b4, b5, b6, b7, b8⟩ := id hB
  obtain ⟨v1, v2, v3, v4, v5, v6, v7⟩ := id b1
  have hpw := p2 v7
  have hq := hU.1
  have hk := hU.2.2.2.2.1
  obtain ⟨hw, rfl⟩ : ∃ hw : Nat, nn = (hw : Int) := ⟨nn.toNat, by have := hU.2.2.2.2.2.1; omega⟩
  have hhw : hw < 2 := by have := hU.2.2.2.2.2.1; omega
  have ek : I (186 + 3 * q) 0 = kd := hU.2.2.1
  have en : I (186 + 3 * q) 1 = (hw : Int) := hU.2.2.2.1
  obtain ⟨Q, hQ⟩ : ∃ Q : sQ, Q = (qI fun z T' I' L' R' => T' = TT Ls tl ∧ R' = RR tl ∧ frb 70 137 I I' ∧ frb 81 120 L L' ∧ XB σ ℓ ab nr nw nW ng I' L' ∧ ∃ (od : Nat → Nat) (C : Nat → Int), ODS σ ℓ ab nr nW ng kd (hw : Int) od ∧ (∀ way, way < 2 ^ chn σ nr → 0 < wtX σ way nr → ∃ ro, DC σ ℓ ab nr nW ng kd od tr tw tn way how (C way) ro) ∧ z = sumN (fun way => if 0 < wtX σ way nr then wtX σ way nr * C way else 0) (2 ^ chn σ nr)) := ⟨_, rfl⟩
  rw [← hQ]
  have loop : ∀ (oa : Nat) (od : Nat → Nat), ODS σ ℓ ab nr nW ng kd (hw : Int) od → ∀ (k b : Nat) (C : Nat → Int) (I1 L1 : sI), b + k = 2 ^ chn σ nr → frb 70 137 I I1 → frb 81 120 L L1 → XB σ ℓ ab nr nw nW ng I1 L1 → OX Ls tl nr oa od I1 → (∀ way, way < b → 0 < wtX σ way nr → ∃ ro, DC σ ℓ ab nr nW ng kd od tr tw tn way how (C way) ro) → Cp g 12 m_X7_costOverWays 0 0 Q 22 [(0, vr 3), (1, vr (186 + 3 * q)), (2, vi how), (3, vr oa), (4, vi (sumN (fun way => if 0 < wtX σ way nr then wtX σ way nr * C way else 0) b)), (5, vi (b : Int))] [] (TT Ls tl) I1 L1 (RR tl) := by
    intro oa od hod k
    induction k with
    | zero =>
      intro b C I1 L1 hbk f fL hB1 hO hC
      have hb : b = 2 ^ chn σ nr := by omega
      obtain ⟨⟨on, t1, -⟩, -⟩ := id hO
      refine r_iload d_X7_costOverWays_22 rfl ?_
      refine r_aload_n d_X7_costOverWays_24 rfl ?_
      refine r_getr d_X7_costOverWays_25 f_X7_19 (tt_3 _ _) (by decide) rfl (rr_3_1 _) ?_
      refine r_V0i d_X7_costOverWays_28 (w_X7_210 _ rfl) (tt_8 _ _) rfl rfl (c_wayCount b1 hB1.2.2.1) (by decide) (Nat.le_of_ble_eq_true rfl) (fun z28 T28 I28 L28 R28 h28 => ?_)
      obtain ⟨rfl, rfl, rfl, rfl, rfl⟩ := h28
      refine r_icmp_ge d_X7_costOverWays_31 (by omega) (by omega) (fun c31 => ?_) (fun c31 => absurd c31 (by omega))
      refine r_iload d_X7_costOverWays_73 rfl ?_
      refine r_iret d_X7_costOverWays_75 rfl ?_
      rw [hQ]
      rw [hb] at hC
      exact ⟨_, rfl, rfl, rfl, f, fL, hB1, od, C, hod, hC, by rw [hb]⟩
    | succ k ih =>
      intro b C I1 L1 hbk f fL hB1 hO hC
      have hb8 : b < 8 := by omega
      obtain ⟨⟨on, t1, -⟩, -⟩ := id hO
      have hbd := wtX_bd (σ := σ) (way := b) nr v4
      have h10 := p10 v7
      by_cases hz : 0 < wtX σ b nr
      · skip
        refine r_iload d_X7_costOverWays_22 rfl ?_
        refine r_aload_n d_X7_costOverWays_24 rfl ?_
        refine r_getr d_X7_costOverWays_25 f_X7_19 (tt_3 _ _) (by decide) rfl (rr_3_1 _) ?_
        refine r_V0i d_X7_costOverWays_28 (w_X7_210 _ rfl) (tt_8 _ _) rfl rfl (c_wayCount b1 hB1.2.2.1) (by decide) (Nat.le_of_ble_eq_true rfl) (fun z28 T28 I28 L28 R28 h28 => ?_)
        obtain ⟨rfl, rfl, rfl, rfl, rfl⟩ := h28
        refine r_icmp_ge d_X7_costOverWays_31 (by omega) (by omega) (fun c31 => absurd c31 (by omega)) (fun c31 => ?_)
        refine r_aload_n d_X7_costOverWays_34 rfl ?_
        refine r_getr d_X7_costOverWays_35 f_X7_19 (tt_3 _ _) (by decide) rfl (rr_3_1 _) ?_
        refine r_iload d_X7_costOverWays_38 rfl ?_
        refine r_V1i d_X7_costOverWays_40 (w_X7_301 _ rfl) (tt_8 _ _) rfl rfl (c_chanceOf (way := b) b1 hB1.2.2.1 hb8) (by decide) (Nat.le_of_ble_eq_true rfl) (fun z40 T40 I40 L40 R40 h40 => ?_)
        obtain ⟨rfl, rfl, rfl, rfl, rfl⟩ := h40
        refine r_istore d_X7_costOverWays_43 (by decide) ?_
        refine r_iload d_X7_costOverWays_45 rfl ?_
        refine r_if_le d_X7_costOverWays_47 (by omega) (fun c47 => absurd c47 (by omega)) (fun c47 => ?_)
        refine r_iload d_X7_costOverWays_50 rfl ?_
        refine r_iload d_X7_costOverWays_52 rfl ?_
        refine r_aload_n d_X7_costOverWays_54 rfl ?_
        refine r_aload_n d_X7_costOverWays_55 rfl ?_
        refine r_aload_n d_X7_costOverWays_56 rfl ?_
        refine r_iload d_X7_costOverWays_57 rfl ?_
        refine r_iload_n d_X7_costOverWays_59 rfl ?_
        refine r_V4i d_X7_costOverWays_60 (w_X7_186 _ rfl) (tt_3 _ _) rfl rfl (c_dayCost (way := b) (how := how) hB1 h0 (UX_frb hU f (by omega)) hO hb8 hh) (by decide) (Nat.le_of_ble_eq_true rfl) (fun z60 T60 I60 L60 R60 h60 => ?_)
        obtain ⟨rfl, rfl, y1, y2, y3, y4⟩ := h60
        obtain ⟨C', hCb, hCn⟩ : ∃ C' : Nat → Int, C' b = z60 ∧ ∀ i, i ≠ b → C' i = C i := ⟨fun i => if i = b then z60 else C i, if_pos rfl, fun i hi => if_neg hi⟩
        have hsum : sumN (fun way => if 0 < wtX σ way nr then wtX σ way nr * C way else 0) b + wtX σ b nr * z60 = sumN (fun way => if 0 < wtX σ way nr then wtX σ way nr * C' way else 0) (b + 1) := by
          show _ = sumN (fun way => if 0 < wtX σ way nr then wtX σ way nr * C' way else 0) b + (if 0 < wtX σ b nr then wtX σ b nr * C' b else 0)
          rw [if_pos hz, hCb]
          congr 1
          exact sumN_eq b (fun i hi => by rw [hCn i (by omega)])
        refine r_imul d_X7_costOverWays_63 ?_
        refine r_iadd d_X7_costOverWays_64 ?_
        rw [hsum]
        refine r_istore d_X7_costOverWays_65 (by decide) ?_
        refine r_iinc d_X7_costOverWays_67 rfl (by decide) ?_
        refine r_goto d_X7_costOverWays_70 ?_
        refine CpL (ih (b + 1) C' I60 L60 (by omega) (frb_tr f (fun a ha => y1 a (by omega))) (frb_tr fL y2) (XB_day hB1 (fun a ha => y1 a (by omega)) (KNX_frb hB1.2.2.2.2.2.1 (fun a ha => y1 a (by omega))) y2) (OX_frb hO y1) (fun way hwy hp => ?_)) (by repeat (first | exact trivial | refine ⟨rfl, ?_⟩))
        by_cases e : way = b
        · subst e
          exact ⟨_, by rw [hCb]; exact y4⟩
        · obtain ⟨ro, hro⟩ := hC way (by omega) hp
          exact ⟨ro, by rw [hCn way e]; exact hro⟩
      · have hsum : sumN (fun way => if 0 < wtX σ way nr then wtX σ way nr * C way else 0) b = sumN (fun way => if 0 < wtX σ way nr then wtX σ way nr * C way else 0) (b + 1) := by
          show _ = sumN (fun way => if 0 < wtX σ way nr then wtX σ way nr * C way else 0) b + (if 0 < wtX σ b nr then wtX σ b nr * C b else 0)
          rw [if_neg hz]; omega
        refine r_iload d_X7_costOverWays_22 rfl ?_
        refine r_aload_n d_X7_costOverWays_24 rfl ?_
        refine r_getr d_X7_costOverWays_25 f_X7_19 (tt_3 _ _) (by decide) rfl (rr_3_1 _) ?_
        refine r_V0i d_X7_costOverWays_28 (w_X7_210 _ rfl) (tt_8 _ _) rfl rfl (c_wayCount b1 hB1.2.2.1) (by decide) (Nat.le_of_ble_eq_true rfl) (fun z28 T28 I28 L28 R28 h28 => ?_)
        obtain ⟨rfl, rfl, rfl, rfl, rfl⟩ := h28
        refine r_icmp_ge d_X7_costOverWays_31 (by omega) (by omega) (fun c31 => absurd c31 (by omega)) (fun c31 => ?_)
        refine r_aload_n d_X7_costOverWays_34 rfl ?_
        refine r_getr d_X7_costOverWays_35 f_X7_19 (tt_3 _ _) (by decide) rfl (rr_3_1 _) ?_
        refine r_iload d_X7_costOverWays_38 rfl ?_
        refine r_V1i d_X7_costOverWays_40 (w_X7_301 _ rfl) (tt_8 _ _) rfl rfl (c_chanceOf (way := b) b1 hB1.2.2.1 hb8) (by decide) (Nat.le_of_ble_eq_true rfl) (fun z40 T40 I40 L40 R40 h40 => ?_)
        obtain ⟨rfl, rfl, rfl, rfl, rfl⟩ := h40
        refine r_istore d_X7_costOverWays_43 (by decide) ?_
        refine r_iload d_X7_costOverWays_45 rfl ?_
        refine r_if_le d_X7_costOverWays_47 (by omega) (fun c47 => ?_) (fun c47 => absurd c47 (by omega))
        refine r_iinc d_X7_costOverWays_67 rfl (by decide) ?_
        refine r_goto d_X7_costOverWays_70 ?_
        exact CpL (ih (b + 1) C I1 L1 (by omega) f fL hB1 hO (fun way hwy hp => hC way (by have : way ≠ b := fun e => hz (by rw [← e]; exact hp); omega) hp)) (by repeat (first | exact trivial | refine ⟨rfl, ?_⟩ | refine ⟨by rw [hsum]; rfl, ?_⟩))
  refine r_aload_n d_X7_costOverWays_0 rfl ?_
  refine r_getr d_X7_costOverWays_1 f_X7_53 (tt_3 _ _) (by decide) rfl (rr_3_7 _) ?_
  refine r_aload_n d_X7_costOverWays_4 rfl ?_
  refine r_geti d_X7_costOverWays_5 f_X7_160 (ttr_0 hq) (by decide) (by decide) ?_
  refine r_aload_n d_X7_costOverWays_8 rfl ?_
  refine r_geti d_X7_costOverWays_9 f_X7_163 (ttr_0 hq) (by decide) (by decide) ?_
  rw [ek, en]
  refine r_V2r d_X7_costOverWays_12 (w_X7_166 _ rfl) (tt_122 _ _) rfl rfl (c_orderFor b1 b2 h0 b3 b4 b5 b7 b6 hk hhw) (by decide) (Nat.le_of_ble_eq_true rfl) (fun z12 T12 I12 L12 R12 h12 => ?_)
  obtain ⟨rfl, rfl, f1, f2, k, c1, c2⟩ := h12
  obtain ⟨hB1, od, hod, hO⟩ := order_post (Ls := Ls) (tl := tl) hB hhw f1 f2 k c1 c2
  obtain ⟨⟨on, t1, -⟩, -⟩ := id hO
  refine r_astore_n d_X7_costOverWays_15 (by decide) ?_
  refine r_iconst d_X7_costOverWays_16 ?_
  refine r_istore d_X7_costOverWays_17 (by decide) ?_
  refine r_iconst d_X7_costOverWays_19 ?_
  refine r_istore d_X7_costOverWays_20 (by decide) ?_
  exact CpL (loop z12 od hod (2 ^ chn σ nr) 0 (fun _ => 0) I12 L12 (by omega) f1 f2 hB1 hO (fun way h => absurd h (by omega))) (by repeat (first | exact trivial | refine ⟨rfl, ?_⟩))
end C43
