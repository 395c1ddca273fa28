section C50
variable {g : sG} {Ls : Nat} {tl : List Nat} {I L : sI} {σ : Sg} {ℓ : Int} {nr nw ng : Nat} {ukd unn : Nat → Int} {utr utw : Nat → Nat → Nat}
/-- the least time that is sure enough, or 44 -/
def tlS (σ : Sg) (nr : Nat) (W : Nat → Int) (t : Int) : Nat → Nat → Int
  | 0, b => (b : Int)
  | k + 1, b => if wbS σ nr W (b : Int) (2 ^ chn σ nr) * 10 < t * 10 ^ chn σ nr then tlS σ nr W t k (b + 1) else (b : Int)
def aTells (σ : Sg) (ℓ : Int) (nr nw ng : Nat) (tl : List Nat) (ukd unn : Nat → Int) (utr utw : Nat → Nat → Nat) (rule how guest t z : Int) : Prop := (rgS tl.length nr ng rule how guest ≠ 0 → z = rgS tl.length nr ng rule how guest) ∧ (rgS tl.length nr ng rule how guest = 0 → ¬ (1 ≤ t ∧ t ≤ 10) → z = -102) ∧ (rgS tl.length nr ng rule how guest = 0 → (1 ≤ t ∧ t ≤ 10) → ∃ W, CH σ ℓ (-1) nr nw ng (ukd rule.toNat) (unn rule.toNat) (utr rule.toNat) (utw rule.toNat) (tl.getD rule.toNat 0) how guest.toNat W ∧ z = tlS σ nr W t 44 0)
theorem c_tells (hX : XS σ ℓ nr nw ng tl ukd unn utr utw I L) {rule how guest t : Int} (hr : i32 rule) (hh : i32 how) (hgu : i32 guest) (ht : i32 t) : Mc g 13 m_X7_tells 0 0 [vr 3, vi rule, vi how, vi guest, vi t] (TT Ls tl) I L (RR tl) (AQ σ ℓ nr nw ng Ls tl ukd unn utr utw I L (aTells σ ℓ nr nw ng tl ukd unn utr utw rule how guest t)) := by
  refine Mc_of rfl (Nat.le_of_ble_eq_true rfl) ?_
  obtain ⟨hB, hR⟩ := id hX
  obtain ⟨b1, b2, b3, b4, b5, b6, b7, b8⟩ := id hB
  have h8 := b1.1
  have hpw := p2 b1.2.2.2.2.2.2
  have h10 := p10 b1.2.2.2.2.2.2
  have hrg := rgS_rg (nr := nr) (ng := ng) (n := tl.length) (rule := rule) (how := how) (guest := guest)
  have hrf := c_refusalOf_ (g := g) (Ls := Ls) (tl := tl) (L := L) hR.1 hR.2.1 b3.1 h8 b3.2.2.1 b1.2.2.1 hr hh hgu
  by_cases hz : rgS tl.length nr ng rule how guest = 0
  · obtain ⟨ok1, ok2, ok3, ok4⟩ := rgS_ok hz
    obtain ⟨q, rfl⟩ : ∃ q : Nat, rule = (q : Int) := ⟨rule.toNat, by omega⟩
    obtain ⟨u, rfl⟩ : ∃ u : Nat, guest = (u : Int) := ⟨guest.toNat, by omega⟩
    have hq : q < tl.length := by omega
    have hu : u < ng := by omega
    have hU := hR.2.2 q hq
    have hql := hU.1
    rw [hz] at hrf
    have no : ¬ (1 ≤ t ∧ t ≤ 10) → AQ σ ℓ nr nw ng Ls tl ukd unn utr utw I L (aTells σ ℓ nr nw ng tl ukd unn utr utw (q : Int) how (u : Int) t) (some (vi (-102))) (TT Ls tl) I L (RR tl) := fun h => XS_same hX ⟨fun h2 => absurd hz h2, fun _ _ => rfl, fun _ h2 => absurd h2 h⟩
    unfold i32 at ht
    have loop : ∀ (I1 L1 : sI), frb 70 138 I I1 → frb 81 120 L L1 → XB σ ℓ (-1) nr nw nw ng I1 L1 → (1 ≤ t ∧ t ≤ 10) → CH σ ℓ (-1) nr nw ng (ukd q) (unn q) (utr q) (utw q) (tl.getD q 0) how u (I1 137) → ∀ (k b : Nat), b + k = 44 → tlS σ nr (I1 137) t k b = tlS σ nr (I1 137) t 44 0 → Cp g 13 m_X7_tells 0 0 (AQ σ ℓ nr nw ng Ls tl ukd unn utr utw I L (aTells σ ℓ nr nw ng tl ukd unn utr utw (q : Int) how (u : Int) t)) 48 [(0, vr 3), (4, vi t), (6, vi (b : Int))] [] (TT Ls tl) I1 L1 (RR tl) := by
      intro I1 L1 f1 f2 hB1 htt hCH
      obtain ⟨od, hod, hW⟩ := id hCH
      have done : ∀ b : Nat, (b : Int) = tlS σ nr (I1 137) t 44 0 → AQ σ ℓ nr nw ng Ls tl ukd unn utr utw I L (aTells σ ℓ nr nw ng tl ukd unn utr utw (q : Int) how (u : Int) t) (some (vi (b : Int))) (TT Ls tl) I1 L1 (RR tl) := fun b hb => by
        refine ⟨_, rfl, rfl, rfl, f1, f2, ⟨hB1, RX_frb hR f1 (by omega) (by omega)⟩, fun h => absurd hz h, fun _ h => absurd htt h, fun _ _ => ⟨I1 137, ?_, hb⟩⟩
        rw [Int.toNat_natCast, Int.toNat_natCast]; exact hCH
      intro k
      induction k with
      | zero =>
        intro b hbk he
        refine r_iload d_X7_tells_48 rfl ?_
        refine r_bipush d_X7_tells_50 (by decide) ?_
        refine r_icmp_ge d_X7_tells_52 (by omega) (by omega) (fun c52 => ?_) (fun c52 => absurd c52 (by omega))
        refine r_iload d_X7_tells_83 rfl ?_
        refine r_iret d_X7_tells_85 rfl ?_
        exact done b he
      | succ k ih =>
        intro b hbk he
        have hwb := wbS_bd (W := I1 137) (qs := (b : Int)) b1.2.2.2.1 b1.2.2.2.2.2.2 (2 ^ chn σ nr)
        have htp := mul_bd (show 0 ≤ t ∧ t ≤ 10 by omega) (show (0 : Int) ≤ 10 ^ chn σ nr ∧ (10 : Int) ^ chn σ nr ≤ 1000 by omega)
        unfold tlS at he
        refine r_iload d_X7_tells_48 rfl ?_
        refine r_bipush d_X7_tells_50 (by decide) ?_
        refine r_icmp_ge d_X7_tells_52 (by omega) (by omega) (fun c52 => absurd c52 (by omega)) (fun c52 => ?_)
        refine r_aload_n d_X7_tells_55 rfl ?_
        refine r_iload d_X7_tells_56 rfl ?_
        refine r_V1i d_X7_tells_58 (w_X7_221 _ rfl) (tt_3 _ _) rfl rfl (c_chanceWithin (qs := (b : Int)) b1 hB1.2.2.1 (by omega) (fun way h => by obtain ⟨_, _, _, _, h1, h2⟩ := hW way h; exact ⟨h1, h2⟩)) (by decide) (Nat.le_of_ble_eq_true rfl) (fun z58 T58 I58 L58 R58 h58 => ?_)
        obtain ⟨rfl, rfl, rfl, rfl, rfl⟩ := h58
        refine r_bipush d_X7_tells_61 (by decide) ?_
        refine r_imul d_X7_tells_63 ?_
        refine r_iload d_X7_tells_64 rfl ?_
        refine r_aload_n d_X7_tells_66 rfl ?_
        refine r_getr d_X7_tells_67 f_X7_19 (tt_3 _ _) (by decide) rfl (rr_3_1 _) ?_
        refine r_V0i d_X7_tells_70 (w_X7_225 _ rfl) (tt_8 _ _) rfl rfl (c_whole b1 hB1.2.2.1) (by decide) (Nat.le_of_ble_eq_true rfl) (fun z70 T70 I70 L70 R70 h70 => ?_)
        obtain ⟨rfl, rfl, rfl, rfl, rfl⟩ := h70
        refine r_imul d_X7_tells_73 ?_
        refine r_icmp_ge d_X7_tells_74 (by omega) (by omega) (fun c74 => ?_) (fun c74 => ?_)
        · rw [if_neg (by omega)] at he
          refine r_iload d_X7_tells_83 rfl ?_
          refine r_iret d_X7_tells_85 rfl ?_
          exact done b he
        · rw [if_pos (by omega)] at he
          refine r_iinc d_X7_tells_77 rfl (by decide) ?_
          refine r_goto d_X7_tells_80 ?_
          exact CpL (ih (b + 1) (by omega) he) (by repeat (first | exact trivial | refine ⟨rfl, ?_⟩))
    refine r_aload_n d_X7_tells_0 rfl ?_
    refine r_iload_n d_X7_tells_1 rfl ?_
    refine r_iload_n d_X7_tells_2 rfl ?_
    refine r_iload_n d_X7_tells_3 rfl ?_
    refine r_V3i d_X7_tells_4 (w_X7_214 _ rfl) (tt_3 _ _) rfl rfl (hrf) (by decide) (Nat.le_of_ble_eq_true rfl) (fun z4 T4 I4 L4 R4 h4 => ?_)
    obtain ⟨rfl, rfl, rfl, rfl, rfl⟩ := h4
    refine r_istore d_X7_tells_7 (by decide) ?_
    refine r_iload d_X7_tells_9 rfl ?_
    refine r_if_eq d_X7_tells_11 (by omega) (fun c11 => ?_) (fun c11 => absurd c11 (by decide))
    refine r_iload d_X7_tells_17 rfl ?_
    refine r_iconst d_X7_tells_19 ?_
    refine r_icmp_lt d_X7_tells_20 (by omega) (by omega) (fun c20 => ?_) (fun c20 => ?_)
    · have hno := no (by omega)
      refine r_bipush d_X7_tells_30 (by decide) ?_
      refine r_iret d_X7_tells_32 rfl ?_
      exact hno
    · refine r_iload d_X7_tells_23 rfl ?_
      refine r_bipush d_X7_tells_25 (by decide) ?_
      refine r_icmp_le d_X7_tells_27 (by omega) (by omega) (fun c27 => ?_) (fun c27 => ?_)
      · refine r_aload_n d_X7_tells_33 rfl ?_
        refine r_aload_n d_X7_tells_34 rfl ?_
        refine r_getr d_X7_tells_35 f_X7_28 (tt_3 _ _) (by decide) rfl (rr_3_3 _) ?_
        refine r_iload_n d_X7_tells_38 rfl ?_
        refine r_aaldJ d_X7_tells_39 (tt_62 _ _) (by decide) rfl (by have := hR.2.1; omega) (rrr_62 (by exact hq)) (kk := ?_)
        refine r_iload_n d_X7_tells_40 rfl ?_
        refine r_iload_n d_X7_tells_41 rfl ?_
        refine r_V3v d_X7_tells_42 (w_X7_217 _ rfl) (tt_3 _ _) rfl rfl (c_waitByWays hB ok2 hU ok3 hu) (by decide) (Nat.le_of_ble_eq_true rfl) (fun T42 I42 L42 R42 h42 => ?_)
        obtain ⟨rfl, rfl, f1, f2, hB1, od, hod, hW⟩ := h42
        refine r_iconst d_X7_tells_45 ?_
        refine r_istore d_X7_tells_46 (by decide) ?_
        exact CpL (loop I42 L42 f1 f2 hB1 (by omega) ⟨od, hod, hW⟩ 44 0 (by omega) rfl) (by repeat (first | exact trivial | refine ⟨rfl, ?_⟩))
      · have hno := no (by omega)
        refine r_bipush d_X7_tells_30 (by decide) ?_
        refine r_iret d_X7_tells_32 rfl ?_
        exact hno
  · skip
    refine r_aload_n d_X7_tells_0 rfl ?_
    refine r_iload_n d_X7_tells_1 rfl ?_
    refine r_iload_n d_X7_tells_2 rfl ?_
    refine r_iload_n d_X7_tells_3 rfl ?_
    refine r_V3i d_X7_tells_4 (w_X7_214 _ rfl) (tt_3 _ _) rfl rfl (hrf) (by decide) (Nat.le_of_ble_eq_true rfl) (fun z4 T4 I4 L4 R4 h4 => ?_)
    obtain ⟨rfl, rfl, rfl, rfl, rfl⟩ := h4
    refine r_istore d_X7_tells_7 (by decide) ?_
    refine r_iload d_X7_tells_9 rfl ?_
    refine r_if_eq d_X7_tells_11 (by omega) (fun c11 => absurd c11 (by exact hz)) (fun c11 => ?_)
    refine r_iload d_X7_tells_14 rfl ?_
    refine r_iret d_X7_tells_16 rfl ?_
    exact XS_same hX ⟨fun _ => rfl, fun h => absurd h hz, fun h => absurd h hz⟩
/-- the way that costs most: the first, and what it costs -/
def wsX (C : Nat → Int) : Nat → Nat × Int
  | 0 => (0, -1)
  | n + 1 => if (wsX C n).2 < C n then (n, C n) else wsX C n
def aWorst (σ : Sg) (ℓ : Int) (nr nw ng : Nat) (tl : List Nat) (ukd unn : Nat → Int) (utr utw : Nat → Nat → Nat) (rule how what z : Int) : Prop := (rfS tl.length nr rule how ≠ 0 → z = rfS tl.length nr rule how) ∧ (rfS tl.length nr rule how = 0 → ¬ (0 ≤ what ∧ what < 2) → z = -102) ∧ (rfS tl.length nr rule how = 0 → (0 ≤ what ∧ what < 2) → ∃ (C : Nat → Int) (od : Nat → Nat), ODS σ ℓ (-1) nr nw ng (ukd rule.toNat) (unn rule.toNat) od ∧ (∀ way, way < 2 ^ chn σ nr → ∃ ro, DC σ ℓ (-1) nr nw ng (ukd rule.toNat) od (utr rule.toNat) (utw rule.toNat) (tl.getD rule.toNat 0) way how (C way) ro) ∧ z = if what = 0 then ((wsX C (2 ^ chn σ nr)).1 : Int) else (wsX C (2 ^ chn σ nr)).2)
theorem wsX_congr {C C' : Nat → Int} : ∀ n, (∀ i, i < n → C i = C' i) → wsX C n = wsX C' n
  | 0, _ => rfl
  | n + 1, h => by
    unfold wsX
    rw [wsX_congr n (fun i hi => h i (by omega)), h n (by omega)]
theorem c_worst (hX : XS σ ℓ nr nw ng tl ukd unn utr utw I L) {rule how what : Int} (hr : i32 rule) (hh : i32 how) (hw : i32 what) : Mc g 12 m_X7_worst 0 0 [vr 3, vi rule, vi how, vi what] (TT Ls tl) I L (RR tl) (AQ σ ℓ nr nw ng Ls tl ukd unn utr utw I L (aWorst σ ℓ nr nw ng tl ukd unn utr utw rule how what)) := by
  refine Mc_of rfl (Nat.le_of_ble_eq_true rfl) ?_
  obtain ⟨hB, hR⟩ := id hX
  obtain ⟨b1, b2, b3, b4, b5, b6, b7, b8⟩ := id hB
  obtain ⟨v1, v2, v3, v4, v5, v6, v7⟩ := id b1
  have h8 := b1.1
  have hpw := p2 v7
  have hrg := rfS_rg (nr := nr) (n := tl.length) (rule := rule) (how := how)
  have hrf := c_refusalOf (g := g) (Ls := Ls) (tl := tl) (L := L) hR.1 hR.2.1 b3.1 h8 hr hh
  by_cases hz : rfS tl.length nr rule how = 0
  · obtain ⟨ok1, ok2, ok3⟩ := rfS_ok hz
    obtain ⟨q, rfl⟩ : ∃ q : Nat, rule = (q : Int) := ⟨rule.toNat, by omega⟩
    have hq : q < tl.length := by omega
    have hU := hR.2.2 q hq
    have hql := hU.1
    rw [hz] at hrf
    by_cases hwt : 0 ≤ what ∧ what < 2
    · obtain ⟨hn, hnn⟩ : ∃ hn : Nat, unn q = (hn : Int) := ⟨(unn q).toNat, by have := hU.2.2.2.2.2.1; omega⟩
      have hhn : hn < 2 := by have := hU.2.2.2.2.2.1; omega
      have ek : I (186 + 3 * q) 0 = ukd q := hU.2.2.1
      have en : I (186 + 3 * q) 1 = (hn : Int) := by rw [← hnn]; exact hU.2.2.2.1
      have hk := hU.2.2.2.2.1
      have loop : ∀ (oa : Nat) (od : Nat → Nat), ODS σ ℓ (-1) nr nw ng (ukd q) (unn q) od → ∀ (k b : Nat) (C : Nat → Int) (I1 L1 : sI), b + k = 2 ^ chn σ nr → frb 70 138 I I1 → frb 81 120 L L1 → XB σ ℓ (-1) nr nw nw ng I1 L1 → OX Ls tl nr oa od I1 → (∀ way, way < b → ∃ ro, DC σ ℓ (-1) nr nw ng (ukd q) od (utr q) (utw q) (tl.getD q 0) way how (C way) ro) → (-1 ≤ (wsX C b).2 ∧ (wsX C b).2 ≤ 4000) → Cp g 12 m_X7_worst 0 0 (AQ σ ℓ nr nw ng Ls tl ukd unn utr utw I L (aWorst σ ℓ nr nw ng tl ukd unn utr utw (q : Int) how what)) 63 [(0, vr 3), (2, vi how), (3, vi what), (5, vr (186 + 3 * q)), (6, vr oa), (7, vi ((wsX C b).1 : Int)), (8, vi (wsX C b).2), (9, vi (b : Int))] [] (TT Ls tl) I1 L1 (RR tl) := by
        intro oa od hod k
        induction k with
        | zero =>
          intro b C I1 L1 hbk f fL hB1 hO hC hwb
          have hb : b = 2 ^ chn σ nr := by omega
          obtain ⟨⟨on, t1, -⟩, -⟩ := id hO
          have fin : ∀ z, z = (if what = 0 then ((wsX C (2 ^ chn σ nr)).1 : Int) else (wsX C (2 ^ chn σ nr)).2) → AQ σ ℓ nr nw ng Ls tl ukd unn utr utw I L (aWorst σ ℓ nr nw ng tl ukd unn utr utw (q : Int) how what) (some (vi z)) (TT Ls tl) I1 L1 (RR tl) := fun z hz' => by
            refine ⟨_, rfl, rfl, rfl, f, fL, ⟨hB1, RX_frb hR f (by omega) (by omega)⟩, fun h => absurd hz h, fun _ h => absurd hwt h, fun _ _ => ⟨C, od, ?_, ?_, hz'⟩⟩
            · rw [Int.toNat_natCast]; exact hod
            · rw [Int.toNat_natCast, ← hb]; exact hC
          rw [← hb] at fin
          refine r_iload d_X7_worst_63 rfl ?_
          refine r_aload_n d_X7_worst_65 rfl ?_
          refine r_getr d_X7_worst_66 f_X7_19 (tt_3 _ _) (by decide) rfl (rr_3_1 _) ?_
          refine r_V0i d_X7_worst_69 (w_X7_210 _ rfl) (tt_8 _ _) rfl rfl (c_wayCount b1 hB1.2.2.1) (by decide) (Nat.le_of_ble_eq_true rfl) (fun z69 T69 I69 L69 R69 h69 => ?_)
          obtain ⟨rfl, rfl, rfl, rfl, rfl⟩ := h69
          refine r_icmp_ge d_X7_worst_72 (by omega) (by omega) (fun c72 => ?_) (fun c72 => absurd c72 (by omega))
          refine r_iload_n d_X7_worst_109 rfl ?_
          refine r_if_ne d_X7_worst_110 (by omega) (fun c110 => ?_) (fun c110 => ?_)
          · refine r_iload d_X7_worst_118 rfl ?_
            refine r_iret d_X7_worst_120 rfl ?_
            first
            | exact fin _ (by rw [if_pos (by omega)])
            | exact fin _ (by rw [if_neg (by omega)])
          · refine r_iload d_X7_worst_113 rfl ?_
            refine r_goto d_X7_worst_115 ?_
            refine r_iret d_X7_worst_120 rfl ?_
            first
            | exact fin _ (by rw [if_pos (by omega)])
            | exact fin _ (by rw [if_neg (by omega)])
        | succ k ih =>
          intro b C I1 L1 hbk f fL hB1 hO hC hwb
          obtain ⟨⟨on, t1, -⟩, -⟩ := id hO
          refine r_iload d_X7_worst_63 rfl ?_
          refine r_aload_n d_X7_worst_65 rfl ?_
          refine r_getr d_X7_worst_66 f_X7_19 (tt_3 _ _) (by decide) rfl (rr_3_1 _) ?_
          refine r_V0i d_X7_worst_69 (w_X7_210 _ rfl) (tt_8 _ _) rfl rfl (c_wayCount b1 hB1.2.2.1) (by decide) (Nat.le_of_ble_eq_true rfl) (fun z69 T69 I69 L69 R69 h69 => ?_)
          obtain ⟨rfl, rfl, rfl, rfl, rfl⟩ := h69
          refine r_icmp_ge d_X7_worst_72 (by omega) (by omega) (fun c72 => absurd c72 (by omega)) (fun c72 => ?_)
          refine r_aload_n d_X7_worst_75 rfl ?_
          refine r_aload d_X7_worst_76 rfl ?_
          refine r_aload d_X7_worst_78 rfl ?_
          refine r_iload d_X7_worst_80 rfl ?_
          refine r_iload_n d_X7_worst_82 rfl ?_
          refine r_V4i d_X7_worst_83 (w_X7_186 _ rfl) (tt_3 _ _) rfl rfl (c_dayCost (way := b) (how := how) hB1 ok2 (UX_frb hU f (by omega)) hO (by omega) ok3) (by decide) (Nat.le_of_ble_eq_true rfl) (fun z83 T83 I83 L83 R83 h83 => ?_)
          obtain ⟨rfl, rfl, y1, y2, y3, y4⟩ := h83
          have hDV := DV_plan (ab := -1) (pm := fun r => pmS σ r ng) (kd := ukd q) (tr := utr q) (tw := utw q) (tn := tl.getD q 0) (way := b) b2 (ODS_lt hod)
          have hzb := GVX_bd v6 ⟨v1, v3⟩ (fun r hr => (hDV.1 r hr).2.2.2) y4
          obtain ⟨C', hCb, hCn⟩ : ∃ C' : Nat → Int, C' b = z83 ∧ ∀ i, i ≠ b → C' i = C i := ⟨fun i => if i = b then z83 else C i, if_pos rfl, fun i hi => if_neg hi⟩
          have hcg : wsX C b = wsX C' b := wsX_congr b (fun i hi => (hCn i (by omega)).symm)
          have hC2 : ∀ way, way < b + 1 → ∃ ro, DC σ ℓ (-1) nr nw ng (ukd q) od (utr q) (utw q) (tl.getD q 0) way how (C' way) ro := fun way hwy => by
            by_cases e : way = b
            · subst e; exact ⟨_, by rw [hCb]; exact y4⟩
            · obtain ⟨ro, hro⟩ := hC way (by omega)
              exact ⟨ro, by rw [hCn way e]; exact hro⟩
          have hB2 := XB_day hB1 (fun a ha => y1 a (by omega)) (KNX_frb hB1.2.2.2.2.2.1 (fun a ha => y1 a (by omega))) y2
          have ff := frb_tr f (frb_wd (lo' := 70) (hi' := 138) y1 (by omega) (by omega))
          refine r_istore d_X7_worst_86 (by decide) ?_
          refine r_iload d_X7_worst_88 rfl ?_
          refine r_iload d_X7_worst_90 rfl ?_
          refine r_icmp_le d_X7_worst_92 (by omega) (by omega) (fun c92 => ?_) (fun c92 => ?_)
          · have hs : wsX C b = wsX C' (b + 1) := by rw [hcg]; rw [hcg] at c92; show _ = (if (wsX C' b).2 < C' b then (b, C' b) else wsX C' b); rw [if_neg (by omega)]
            have hwb2 := hwb
            rw [hs] at hwb2 ⊢
            refine r_iinc d_X7_worst_103 rfl (by decide) ?_
            refine r_goto d_X7_worst_106 ?_
            first
            | exact CpL (ih (b + 1) C' I83 L83 (by omega) ff (frb_tr fL y2) hB2 (OX_frb hO y1) hC2 hwb2) ⟨rfl, rfl, rfl, rfl, rfl, by rw [← e1]; rfl, by rw [← e2]; rfl, rfl, trivial⟩
            | exact CpL (ih (b + 1) C' I83 L83 (by omega) ff (frb_tr fL y2) hB2 (OX_frb hO y1) hC2 hwb2) (by repeat (first | exact trivial | refine ⟨rfl, ?_⟩))
          · have hs : wsX C' (b + 1) = (b, z83) := by rw [hcg] at c92; show (if (wsX C' b).2 < C' b then (b, C' b) else wsX C' b) = _; rw [if_pos (by omega), hCb]
            have e1 : (b : Int) = ((wsX C' (b + 1)).1 : Int) := by rw [hs]
            have e2 : z83 = (wsX C' (b + 1)).2 := by rw [hs]
            have hwb2 : -1 ≤ (wsX C' (b + 1)).2 ∧ (wsX C' (b + 1)).2 ≤ 4000 := by omega
            refine r_iload d_X7_worst_95 rfl ?_
            refine r_istore d_X7_worst_97 (by decide) ?_
            refine r_iload d_X7_worst_99 rfl ?_
            refine r_istore d_X7_worst_101 (by decide) ?_
            refine r_iinc d_X7_worst_103 rfl (by decide) ?_
            refine r_goto d_X7_worst_106 ?_
            first
            | exact CpL (ih (b + 1) C' I83 L83 (by omega) ff (frb_tr fL y2) hB2 (OX_frb hO y1) hC2 hwb2) ⟨rfl, rfl, rfl, rfl, rfl, by rw [← e1]; rfl, by rw [← e2]; rfl, rfl, trivial⟩
            | exact CpL (ih (b + 1) C' I83 L83 (by omega) ff (frb_tr fL y2) hB2 (OX_frb hO y1) hC2 hwb2) (by repeat (first | exact trivial | refine ⟨rfl, ?_⟩))
      refine r_aload_n d_X7_worst_0 rfl ?_
      refine r_iload_n d_X7_worst_1 rfl ?_
      refine r_iload_n d_X7_worst_2 rfl ?_
      refine r_V2i d_X7_worst_3 (w_X7_197 _ rfl) (tt_3 _ _) rfl rfl (hrf) (by decide) (Nat.le_of_ble_eq_true rfl) (fun z3 T3 I3 L3 R3 h3 => ?_)
      obtain ⟨rfl, rfl, rfl, rfl, rfl⟩ := h3
      refine r_istore d_X7_worst_6 (by decide) ?_
      refine r_iload d_X7_worst_8 rfl ?_
      refine r_if_eq d_X7_worst_10 (by omega) (fun c10 => ?_) (fun c10 => absurd c10 (by decide))
      refine r_iload_n d_X7_worst_16 rfl ?_
      refine r_iconst d_X7_worst_17 ?_
      refine r_S2i d_X7_worst_18 (w_X7_124 _ rfl) (c_isBelow hw (by omega)) (by decide) (Nat.le_of_ble_eq_true rfl) (fun z18 T18 I18 L18 R18 h18 => ?_)
      obtain ⟨rfl, rfl, rfl, rfl, rfl⟩ := h18
      refine r_if_ne d_X7_worst_21 (by split <;> omega) (fun c21 => ?_) (fun c21 => absurd c21 (by rw [if_pos hwt]; decide))
      refine r_aload_n d_X7_worst_27 rfl ?_
      refine r_getr d_X7_worst_28 f_X7_28 (tt_3 _ _) (by decide) rfl (rr_3_3 _) ?_
      refine r_iload_n d_X7_worst_31 rfl ?_
      refine r_aaldJ d_X7_worst_32 (tt_62 _ _) (by decide) rfl (by have := hR.2.1; omega) (rrr_62 (by exact hq)) (kk := ?_)
      refine r_astore d_X7_worst_33 (by decide) ?_
      refine r_aload_n d_X7_worst_35 rfl ?_
      refine r_getr d_X7_worst_36 f_X7_53 (tt_3 _ _) (by decide) rfl (rr_3_7 _) ?_
      refine r_aload d_X7_worst_39 rfl ?_
      refine r_geti d_X7_worst_41 f_X7_160 (ttr_0 hql) (by decide) (by decide) ?_
      refine r_aload d_X7_worst_44 rfl ?_
      refine r_geti d_X7_worst_46 f_X7_163 (ttr_0 hql) (by decide) (by decide) ?_
      rw [ek, en]
      refine r_V2r d_X7_worst_49 (w_X7_166 _ rfl) (tt_122 _ _) rfl rfl (c_orderFor b1 b2 ok2 b3 b4 b5 b7 b6 hk hhn) (by decide) (Nat.le_of_ble_eq_true rfl) (fun z49 T49 I49 L49 R49 h49 => ?_)
      obtain ⟨rfl, rfl, f1, f2, k, c1, c2⟩ := h49
      obtain ⟨hB1, od, hod, hO⟩ := order_post (Ls := Ls) (tl := tl) hB hhn f1 f2 k c1 c2
      obtain ⟨⟨on, t1, -⟩, -⟩ := id hO
      rw [← hnn] at hod
      refine r_astore d_X7_worst_52 (by decide) ?_
      refine r_iconst d_X7_worst_54 ?_
      refine r_istore d_X7_worst_55 (by decide) ?_
      refine r_iconst d_X7_worst_57 ?_
      refine r_istore d_X7_worst_58 (by decide) ?_
      refine r_iconst d_X7_worst_60 ?_
      refine r_istore d_X7_worst_61 (by decide) ?_
      exact CpL (loop z49 od hod (2 ^ chn σ nr) 0 (fun _ => 0) I49 L49 (by omega) (frb_wd f1 (by omega) (by omega)) f2 hB1 hO (fun way h => absurd h (by omega)) (by show (-1 : Int) ≤ -1 ∧ (-1 : Int) ≤ 4000; omega)) (by repeat (first | exact trivial | refine ⟨rfl, ?_⟩))
    · skip
      refine r_aload_n d_X7_worst_0 rfl ?_
      refine r_iload_n d_X7_worst_1 rfl ?_
      refine r_iload_n d_X7_worst_2 rfl ?_
      refine r_V2i d_X7_worst_3 (w_X7_197 _ rfl) (tt_3 _ _) rfl rfl (hrf) (by decide) (Nat.le_of_ble_eq_true rfl) (fun z3 T3 I3 L3 R3 h3 => ?_)
      obtain ⟨rfl, rfl, rfl, rfl, rfl⟩ := h3
      refine r_istore d_X7_worst_6 (by decide) ?_
      refine r_iload d_X7_worst_8 rfl ?_
      refine r_if_eq d_X7_worst_10 (by omega) (fun c10 => ?_) (fun c10 => absurd c10 (by decide))
      refine r_iload_n d_X7_worst_16 rfl ?_
      refine r_iconst d_X7_worst_17 ?_
      refine r_S2i d_X7_worst_18 (w_X7_124 _ rfl) (c_isBelow hw (by omega)) (by decide) (Nat.le_of_ble_eq_true rfl) (fun z18 T18 I18 L18 R18 h18 => ?_)
      obtain ⟨rfl, rfl, rfl, rfl, rfl⟩ := h18
      refine r_if_ne d_X7_worst_21 (by split <;> omega) (fun c21 => absurd c21 (by rw [if_neg hwt]; decide)) (fun c21 => ?_)
      refine r_bipush d_X7_worst_24 (by decide) ?_
      refine r_iret d_X7_worst_26 rfl ?_
      exact XS_same hX ⟨fun h => absurd hz h, fun _ _ => rfl, fun _ h => absurd h hwt⟩
  · skip
    refine r_aload_n d_X7_worst_0 rfl ?_
    refine r_iload_n d_X7_worst_1 rfl ?_
    refine r_iload_n d_X7_worst_2 rfl ?_
    refine r_V2i d_X7_worst_3 (w_X7_197 _ rfl) (tt_3 _ _) rfl rfl (hrf) (by decide) (Nat.le_of_ble_eq_true rfl) (fun z3 T3 I3 L3 R3 h3 => ?_)
    obtain ⟨rfl, rfl, rfl, rfl, rfl⟩ := h3
    refine r_istore d_X7_worst_6 (by decide) ?_
    refine r_iload d_X7_worst_8 rfl ?_
    refine r_if_eq d_X7_worst_10 (by omega) (fun c10 => absurd c10 (by exact hz)) (fun c10 => ?_)
    refine r_iload d_X7_worst_13 rfl ?_
    refine r_iret d_X7_worst_15 rfl ?_
    exact XS_same hX ⟨fun _ => rfl, fun h => absurd h hz, fun h => absurd h hz⟩
end C50
