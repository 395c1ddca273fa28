/-- the class between two calls -/
def XS (σ : Sg) (ℓ : Int) (nr nw ng : Nat) (tl : List Nat) (ukd unn : Nat → Int) (utr utw : Nat → Nat → Nat) (I L : sI) : Prop := XB σ ℓ (-1) nr nw nw ng I L ∧ RX tl ukd unn utr utw I
/-- an answer that leaves the class as it was told -/
def AQ (σ : Sg) (ℓ : Int) (nr nw ng : Nat) (Ls : Nat) (tl : List Nat) (ukd unn : Nat → Int) (utr utw : Nat → Nat → Nat) (I L : sI) (A : Int → Prop) : sQ := qI fun z T' I' L' R' => T' = TT Ls tl ∧ R' = RR tl ∧ frb 70 138 I I' ∧ frb 81 120 L L' ∧ XS σ ℓ nr nw ng tl ukd unn utr utw I' L' ∧ A z
def i32 (x : Int) : Prop := -2147483648 ≤ x ∧ x ≤ 2147483647
def gcS (σ : Sg) (nr : Nat) (sum part : Int) : Int := (if part = 0 then sum else 10 ^ chn σ nr).tdiv (Nat.gcd (10 ^ chn σ nr) sum.natAbs : Nat)
/-- the cost over all ways, of a rule -/
def CW (σ : Sg) (ℓ ab : Int) (nr nW ng : Nat) (kd nn : Int) (tr tw : Nat → Nat) (tn : Nat) (how z : Int) : Prop := ∃ (od : Nat → Nat) (C : Nat → Int), ODS σ ℓ ab nr nW ng kd nn od ∧ (∀ way, way < 2 ^ chn σ nr → 0 < wtX σ way nr → ∃ ro, DC σ ℓ ab nr nW ng kd od tr tw tn way how (C way) ro) ∧ z = sumN (fun way => if 0 < wtX σ way nr then wtX σ way nr * C way else 0) (2 ^ chn σ nr)
theorem ODS_lt {σ : Sg} {ℓ ab : Int} {nr nW ng : Nat} {kd nn : Int} {od : Nat → Nat} (h : ODS σ ℓ ab nr nW ng kd nn od) : ∀ k, k < nr → od k < nr := by
  rcases h with ⟨-, rfl⟩ | ⟨-, lf, ⟨I0, -, h1⟩, h2⟩
  · exact fun k hk => hk
  · intro k hk
    exact dfs_mem nr _ lf (List.mem_of_getElem? h1) _ (List.mem_of_getElem? (h2 k hk))
theorem CW_bd {σ : Sg} {ℓ ab : Int} {nr nw nW ng : Nat} {kd nn : Int} {tr tw : Nat → Nat} {tn : Nat} {how z : Int} (hV : HV σ nr nw ng) (hS : SV σ ℓ nr nW) (h : CW σ ℓ ab nr nW ng kd nn tr tw tn how z) : -40000000 ≤ z ∧ z ≤ 40000000 := by
  obtain ⟨v1, v2, v3, v4, v5, v6, v7⟩ := id hV
  obtain ⟨od, C, h1, h2, rfl⟩ := h
  have hpw := p2 v7
  have h10 := p10 v7
  have gen : ∀ n : Nat, n ≤ 2 ^ chn σ nr → -((n : Int) * 4000000) ≤ sumN (fun way => if 0 < wtX σ way nr then wtX σ way nr * C way else 0) n ∧ sumN (fun way => if 0 < wtX σ way nr then wtX σ way nr * C way else 0) n ≤ n * 4000000 := by
    intro n
    induction n with
    | zero => intro _; show -(((0 : Nat) : Int) * 4000000) ≤ 0 ∧ (0 : Int) ≤ ((0 : Nat) : Int) * 4000000; omega
    | succ n ih =>
      intro hn
      have ih := ih (by omega)
      show _ ≤ sumN (fun way => if 0 < wtX σ way nr then wtX σ way nr * C way else 0) n + (if 0 < wtX σ n nr then wtX σ n nr * C n else 0) ∧ sumN (fun way => if 0 < wtX σ way nr then wtX σ way nr * C way else 0) n + (if 0 < wtX σ n nr then wtX σ n nr * C n else 0) ≤ _
      split
      · next hp =>
        obtain ⟨ro, hro⟩ := h2 n (by omega) hp
        have hb := wtX_bd (σ := σ) (way := n) nr v4
        have hDV := DV_plan (ab := ab) (pm := fun r => pmS σ r ng) (kd := kd) (tr := tr) (tw := tw) (tn := tn) (way := n) hS (ODS_lt h1)
        have hc := GVX_bd v6 ⟨v1, v3⟩ (fun r hr => (hDV.1 r hr).2.2.2) hro
        have a1 : wtX σ n nr * C n ≤ 1000 * 4000 := by
          rcases Int.le_total 0 (C n) with q | q
          · exact (mul_bd ⟨hb.1, by omega⟩ ⟨q, hc.2⟩).2
          · have := Int.mul_nonpos_of_nonneg_of_nonpos hb.1 q
            omega
        have a2 : -(1000 * 4000) ≤ wtX σ n nr * C n := by
          rcases Int.le_total 0 (C n) with q | q
          · have := Int.mul_nonneg hb.1 q
            omega
          · have := (mul_bd (show 0 ≤ wtX σ n nr ∧ wtX σ n nr ≤ 1000 by omega) (show 0 ≤ -C n ∧ -C n ≤ 4000 by omega)).2
            rw [Int.mul_neg] at this
            omega
        omega
      · omega
  have := gen (2 ^ chn σ nr) (Nat.le_refl _)
  omega
section C48
variable {g : sG} {Ls : Nat} {tl : List Nat} {I L : sI} {σ : Sg} {ℓ : Int} {nr nw ng : Nat} {ukd unn : Nat → Int} {utr utw : Nat → Nat → Nat}
theorem XS_same (h : XS σ ℓ nr nw ng tl ukd unn utr utw I L) {A : Int → Prop} {z : Int} (hA : A z) : AQ σ ℓ nr nw ng Ls tl ukd unn utr utw I L A (some (vi z)) (TT Ls tl) I L (RR tl) := ⟨z, rfl, rfl, rfl, frb_rf, frb_rf, h, hA⟩
def aMean (σ : Sg) (ℓ : Int) (nr nw ng : Nat) (tl : List Nat) (ukd unn : Nat → Int) (utr utw : Nat → Nat → Nat) (rule how part z : Int) : Prop := (rfS tl.length nr rule how ≠ 0 → z = rfS tl.length nr rule how) ∧ (rfS tl.length nr rule how = 0 → ¬ (part = 0 ∨ part = 1) → z = -102) ∧ (rfS tl.length nr rule how = 0 → (part = 0 ∨ part = 1) → ∃ s, CW σ ℓ (-1) nr nw ng (ukd rule.toNat) (unn rule.toNat) (utr rule.toNat) (utw rule.toNat) (tl.getD rule.toNat 0) how s ∧ z = gcS σ nr s part)
theorem rfS_ok {n : Nat} {rule how : Int} (h : rfS n nr rule how = 0) : (0 ≤ rule ∧ rule < n) ∧ 0 < nr ∧ (how = 0 ∨ how = 1) := by
  unfold rfS at h
  split at h
  · next h1 =>
    split at h
    · next h2 =>
      split at h
      · next h3 => exact ⟨h1, h2, h3⟩
      · omega
    · omega
  · omega
theorem rfS_rg {n : Nat} {rule how : Int} : -103 ≤ rfS n nr rule how ∧ rfS n nr rule how ≤ 0 := by
  unfold rfS
  split
  · split
    · split <;> omega
    · omega
  · omega
theorem c_mean (hX : XS σ ℓ nr nw ng tl ukd unn utr utw I L) {rule how part : Int} (hr : i32 rule) (hh : i32 how) (hp : i32 part) : Mc g 13 m_X7_mean 0 0 [vr 3, vi rule, vi how, vi part] (TT Ls tl) I L (RR tl) (AQ σ ℓ nr nw ng Ls tl ukd unn utr utw I L (aMean σ ℓ nr nw ng tl ukd unn utr utw rule how part)) := by
  refine Mc_of rfl (Nat.le_of_ble_eq_true rfl) ?_
  obtain ⟨hB, hR⟩ := id hX
  obtain ⟨b1, b2, b3, b4, b5, b6, b7, b8⟩ := id hB
  have h8 := b1.1
  have hrg := rfS_rg (nr := nr) (n := tl.length) (rule := rule) (how := how)
  have hrf := c_refusalOf (g := g) (Ls := Ls) (tl := tl) (L := L) hR.1 hR.2.1 b3.1 h8 hr hh
  by_cases hz : rfS tl.length nr rule how = 0
  · obtain ⟨ok1, ok2, ok3⟩ := rfS_ok hz
    obtain ⟨q, rfl⟩ : ∃ q : Nat, rule = (q : Int) := ⟨rule.toNat, by omega⟩
    have hq : q < tl.length := by omega
    have hU := hR.2.2 q hq
    have hql := hU.1
    rw [hz] at hrf
    by_cases hpt : part = 0 ∨ part = 1
    · skip
      refine r_aload_n d_X7_mean_0 rfl ?_
      refine r_iload_n d_X7_mean_1 rfl ?_
      refine r_iload_n d_X7_mean_2 rfl ?_
      refine r_V2i d_X7_mean_3 (w_X7_197 _ rfl) (tt_3 _ _) rfl rfl (hrf) (by decide) (Nat.le_of_ble_eq_true rfl) (fun z3 T3 I3 L3 R3 h3 => ?_)
      obtain ⟨rfl, rfl, rfl, rfl, rfl⟩ := h3
      refine r_istore d_X7_mean_6 (by decide) ?_
      refine r_iload d_X7_mean_8 rfl ?_
      refine r_if_eq d_X7_mean_10 (by omega) (fun c10 => ?_) (fun c10 => absurd c10 (by decide))
      refine r_iload_n d_X7_mean_16 rfl ?_
      refine r_S1i d_X7_mean_17 (w_X7_200 _ rfl) (c_isPart hp) (by decide) (Nat.le_of_ble_eq_true rfl) (fun z17 T17 I17 L17 R17 h17 => ?_)
      obtain ⟨rfl, rfl, rfl, rfl, rfl⟩ := h17
      refine r_if_eq d_X7_mean_20 (by split <;> omega) (fun c20 => absurd c20 (by rw [if_pos hpt]; decide)) (fun c20 => ?_)
      refine r_aload_n d_X7_mean_23 rfl ?_
      refine r_aload_n d_X7_mean_24 rfl ?_
      refine r_aload_n d_X7_mean_25 rfl ?_
      refine r_getr d_X7_mean_26 f_X7_28 (tt_3 _ _) (by decide) rfl (rr_3_3 _) ?_
      refine r_iload_n d_X7_mean_29 rfl ?_
      refine r_aaldJ d_X7_mean_30 (tt_62 _ _) (by decide) rfl (by have := hR.2.1; omega) (rrr_62 (by exact hq)) (kk := ?_)
      refine r_iload_n d_X7_mean_31 rfl ?_
      refine r_V2i d_X7_mean_32 (w_X7_203 _ rfl) (tt_3 _ _) rfl rfl (c_costOverWays hB ok2 hU ok3) (by decide) (Nat.le_of_ble_eq_true rfl) (fun z32 T32 I32 L32 R32 h32 => ?_)
      obtain ⟨rfl, rfl, f1, f2, hB1, hcw⟩ := h32
      have hcw' : CW σ ℓ (-1) nr nw ng (ukd q) (unn q) (utr q) (utw q) (tl.getD q 0) how z32 := hcw
      have hbd := CW_bd b1 b2 hcw'
      refine r_iload_n d_X7_mean_35 rfl ?_
      refine r_V2i d_X7_mean_36 (w_X7_207 _ rfl) (tt_3 _ _) rfl rfl (c_termOf b1 hB1.2.2.1 (by omega) hpt) (by decide) (Nat.le_of_ble_eq_true rfl) (fun z36 T36 I36 L36 R36 h36 => ?_)
      obtain ⟨e, rfl, rfl, rfl, rfl⟩ := h36
      refine r_goto d_X7_mean_39 ?_
      refine r_iret d_X7_mean_44 rfl ?_
      refine ⟨_, rfl, rfl, rfl, frb_wd f1 (by omega) (by omega), f2, ⟨hB1, RX_frb hR f1 (by omega) (by omega)⟩, fun h => absurd hz h, fun _ h => absurd hpt h, fun _ _ => ⟨z32, ?_, e⟩⟩
      rw [Int.toNat_natCast]; exact hcw'
    · skip
      refine r_aload_n d_X7_mean_0 rfl ?_
      refine r_iload_n d_X7_mean_1 rfl ?_
      refine r_iload_n d_X7_mean_2 rfl ?_
      refine r_V2i d_X7_mean_3 (w_X7_197 _ rfl) (tt_3 _ _) rfl rfl (hrf) (by decide) (Nat.le_of_ble_eq_true rfl) (fun z3 T3 I3 L3 R3 h3 => ?_)
      obtain ⟨rfl, rfl, rfl, rfl, rfl⟩ := h3
      refine r_istore d_X7_mean_6 (by decide) ?_
      refine r_iload d_X7_mean_8 rfl ?_
      refine r_if_eq d_X7_mean_10 (by omega) (fun c10 => ?_) (fun c10 => absurd c10 (by decide))
      refine r_iload_n d_X7_mean_16 rfl ?_
      refine r_S1i d_X7_mean_17 (w_X7_200 _ rfl) (c_isPart hp) (by decide) (Nat.le_of_ble_eq_true rfl) (fun z17 T17 I17 L17 R17 h17 => ?_)
      obtain ⟨rfl, rfl, rfl, rfl, rfl⟩ := h17
      refine r_if_eq d_X7_mean_20 (by split <;> omega) (fun c20 => ?_) (fun c20 => absurd c20 (by rw [if_neg hpt]; decide))
      refine r_bipush d_X7_mean_42 (by decide) ?_
      refine r_iret d_X7_mean_44 rfl ?_
      exact XS_same hX ⟨fun h => absurd hz h, fun _ _ => rfl, fun _ h => absurd h hpt⟩
  · skip
    refine r_aload_n d_X7_mean_0 rfl ?_
    refine r_iload_n d_X7_mean_1 rfl ?_
    refine r_iload_n d_X7_mean_2 rfl ?_
    refine r_V2i d_X7_mean_3 (w_X7_197 _ rfl) (tt_3 _ _) rfl rfl (hrf) (by decide) (Nat.le_of_ble_eq_true rfl) (fun z3 T3 I3 L3 R3 h3 => ?_)
    obtain ⟨rfl, rfl, rfl, rfl, rfl⟩ := h3
    refine r_istore d_X7_mean_6 (by decide) ?_
    refine r_iload d_X7_mean_8 rfl ?_
    refine r_if_eq d_X7_mean_10 (by omega) (fun c10 => absurd c10 (by exact hz)) (fun c10 => ?_)
    refine r_iload d_X7_mean_13 rfl ?_
    refine r_iret d_X7_mean_15 rfl ?_
    exact XS_same hX ⟨fun _ => rfl, fun h => absurd h hz, fun h => absurd h hz⟩
end C48
