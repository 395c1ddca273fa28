/-! what the reference answers -/
def FP (I I' : sI) : Prop := (∀ a, a ≠ 139 → (a < 173 ∨ 186 ≤ a) → I' a = I a) ∧ (∀ k, (k < 55 ∨ (56 < k ∧ k < 66) ∨ 70 < k) → I' 139 k = I 139 k)
theorem FP_rf {I : sI} : FP I I := ⟨fun _ _ _ => rfl, fun _ _ => rfl⟩
theorem FP_tr {I J K : sI} (h : FP I J) (k : FP J K) : FP I K := ⟨fun a h1 h2 => (k.1 a h1 h2).trans (h.1 a h1 h2), fun x hx => (k.2 x hx).trans (h.2 x hx)⟩
theorem FM_FP {I I' : sI} (h : FM I I') : FP I I' := ⟨fun a h1 h2 => h.1 a h1 (by omega), fun k hk => h.2 k (by omega)⟩
def MS (σ : Sg) (ℓ : Int) (nr nw ng : Nat) (tl : List Nat) (ukd unn : Nat → Int) (utr utw : Nat → Nat → Nat) (I : sI) : Prop := MV σ ℓ nr nw ng ∧ nw ≤ 3 ∧ CAN σ nr ∧ ARS σ ng ∧ MX σ nr nw ng I ∧ I 139 17 = ℓ ∧ I 139 8 = (nw : Int) ∧ KNM σ ℓ (-1) nr nw ng I ∧ RXM tl ukd unn utr utw I
def AM (σ : Sg) (ℓ : Int) (nr nw ng : Nat) (Ls : Nat) (tl : List Nat) (ukd unn : Nat → Int) (utr utw : Nat → Nat → Nat) (I L : sI) (A : Int → Prop) : sQ := qI fun z T' I' L' R' => T' = TT Ls tl ∧ R' = RR tl ∧ L' = L ∧ FP I I' ∧ MS σ ℓ nr nw ng tl ukd unn utr utw I' ∧ A z
def brS (n nr W : Nat) (rule way ok : Int) : Int := if 0 ≤ rule ∧ rule < n then (if 0 < nr then (if ok = 1 ∧ (way = -1 ∨ (0 ≤ way ∧ way < W)) then 0 else -102) else -103) else -101
theorem CDX_ex {σ : Sg} {ℓ ab : Int} {nr nW ng : Nat} {kd nn : Int} {tr tw : Nat → Nat} {tn : Nat} {how : Int} (hS : SV σ ℓ nr nW) (hg8 : ng ≤ 8) (hg : ∀ q, q < ng → GV σ q) : ∃ C : Nat → Int, ∀ way z, CD σ ℓ ab nr nW ng kd nn tr tw tn way how z → z = C way := by
  have h : ∀ way : Nat, ∃ c : Int, ∀ z, CD σ ℓ ab nr nW ng kd nn tr tw tn way how z → z = c := fun way => by
    by_cases hx : ∃ z, CD σ ℓ ab nr nW ng kd nn tr tw tn way how z
    · obtain ⟨c, hc⟩ := hx
      exact ⟨c, fun z hz => CD_uq hS hg8 hg hz hc⟩
    · exact ⟨0, fun z hz => absurd ⟨z, hz⟩ hx⟩
  exact Classical.axiomOfChoice h
section X94
variable {g : sG} {Ls : Nat} {T : sT} {R : sR} {I L : sI} {σ δ : Sg} {ℓ ab : Int} {nr nw nW ng : Nat} {tl : List Nat} {ukd unn : Nat → Int} {utr utw : Nat → Nat → Nat}
theorem x_costBy (hM : MB σ ℓ ab nr nW ng tl ukd unn utr utw I) {q way : Nat} (hq : q < tl.length) (hw : way < 8) (h0 : 0 < nr) {how : Int} (hh : how = 0 ∨ how = 1) : Mc g 10 m_X8_costBy 0 0 [vr 139, vi (q : Int), vi (way : Int), vi how] (TT Ls tl) I L (RR tl) (qI fun z T' I' L' R' => T' = TT Ls tl ∧ R' = RR tl ∧ L' = L ∧ FM I I' ∧ KNM σ ℓ ab nr nW ng I' ∧ (0 ≤ z ∧ z ≤ 4000) ∧ (∀ q, q < ng → -1 ≤ I' 181 q ∧ I' 181 q < nr) ∧ ∃ od, ODS σ ℓ ab nr nW ng (ukd q) (unn q) od ∧ DC σ ℓ ab nr nW ng (ukd q) od (utr q) (utw q) (tl.getD q 0) way how z (I' 181) ∧ ∀ r, r < nr → I' 179 r = planX σ ℓ ab (fun r => pmS σ r ng) nr nW (ukd q) od (utr q) (utw q) (tl.getD q 0) way 3 r) := by
  refine Mc_of rfl (Nat.le_of_ble_eq_true rfl) ?_
  obtain ⟨hV, hcan, hA, hab, hX, hK, hN, hR⟩ := id hM
  obtain ⟨⟨s1, s2, s3, s4, s5⟩, v2, v3, v4⟩ := id hV
  obtain ⟨ar, a1, a2⟩ := hA
  refine r_aload_n d_X8_costBy_0 rfl ?_
  refine r_iload_n d_X8_costBy_1 rfl ?_
  refine r_iload_n d_X8_costBy_2 rfl ?_
  refine r_V2v d_X8_costBy_3 (w_X8_390 _ rfl) (tt_139 _ _) rfl rfl (x_laySchedule hM hq hw h0) (by decide) (Nat.le_of_ble_eq_true rfl) (fun T3 I3 L3 R3 h3 => ?_)
  obtain ⟨rfl, rfl, rfl, y1, y2, od, y3, y4, y5⟩ := h3
  refine r_aload_n d_X8_costBy_6 rfl ?_
  refine r_iload_n d_X8_costBy_7 rfl ?_
  refine r_V1i d_X8_costBy_8 (w_X8_369 _ rfl) (tt_139 _ _) rfl rfl (x_giveAll hV (MX_fm hX y1) (rd := planX σ ℓ ab (fun r => pmS σ r ng) nr nW (ukd q) od (utr q) (utw q) (tl.getD q 0) way 3) (fun r hr => ⟨(y5 r hr).2.2.2, plan_bd hV.1 y3 r hr⟩) a1 a2 hh) (by decide) (Nat.le_of_ble_eq_true rfl) (fun z8 T8 I8 L8 R8 h8 => ?_)
  obtain ⟨rfl, rfl, rfl, u1, u2, u3⟩ := h8
  refine r_iret d_X8_costBy_11 rfl ?_
  refine ⟨_, rfl, rfl, rfl, rfl, FM_tr y1 (FM_frb u1 (by omega) (by omega)), KNM_fr y2 (u1 173 (by omega)) (u1 183 (by omega)), ⟨GVX_nn s1 v2 (plan_bd hV.1 y3) v3 u2, (GVX_bd v3 ⟨s1, v2⟩ (plan_bd hV.1 y3) u2).2⟩, u3, od, y4, u2, fun r hr => by rw [u1 179 (by omega)]; exact (y5 r hr).2.2.2⟩
theorem x_sumBy (hM : MB σ ℓ ab nr nW ng tl ukd unn utr utw I) {q : Nat} (hq : q < tl.length) (h0 : 0 < nr) {how : Int} (hh : how = 0 ∨ how = 1) : Mc g 11 m_X8_sumBy 0 0 [vr 139, vi (q : Int), vi how] (TT Ls tl) I L (RR tl) (qI fun z T' I' L' R' => T' = TT Ls tl ∧ R' = RR tl ∧ L' = L ∧ FM I I' ∧ KNM σ ℓ ab nr nW ng I' ∧ (0 ≤ z ∧ z ≤ 32000000) ∧ CW σ ℓ ab nr nW ng (ukd q) (unn q) (utr q) (utw q) (tl.getD q 0) how z) := by
  refine Mc_of rfl (Nat.le_of_ble_eq_true rfl) ?_
  obtain ⟨hV, hcan, hA, hab, hX, hK, hN, hR⟩ := id hM
  obtain ⟨⟨s1, s2, s3, s4, s5⟩, v2, v3, v4⟩ := id hV
  have hp := p2 v4
  have h10 := p10 v4
  obtain ⟨C, hC⟩ := CDX_ex (ab := ab) (kd := ukd q) (nn := unn q) (tr := utr q) (tw := utw q) (tn := tl.getD q 0) (how := how) hV.1 v2 v3
  obtain ⟨Q, hQ⟩ : ∃ Q : sQ, Q = (qI fun z T' I' L' R' => T' = TT Ls tl ∧ R' = RR tl ∧ L' = L ∧ FM I I' ∧ KNM σ ℓ ab nr nW ng I' ∧ (0 ≤ z ∧ z ≤ 32000000) ∧ CW σ ℓ ab nr nW ng (ukd q) (unn q) (utr q) (utw q) (tl.getD q 0) how z) := ⟨_, rfl⟩
  rw [← hQ]
  have loop : ∀ (k way : Nat) (I1 : sI), way + k = 2 ^ chn σ nr → FM I I1 → KNM σ ℓ ab nr nW ng I1 → DCA σ ℓ ab nr nW ng (ukd q) (unn q) (utr q) (utw q) (tl.getD q 0) how C way → (∀ w, w < way → 0 ≤ C w ∧ C w ≤ 4000) → Cp g 11 m_X8_sumBy 0 0 Q 5 [(0, vr 139), (1, vi (q : Int)), (2, vi how), (3, vi (sumN (fun w => wtM σ w nr * C w) way)), (4, vi (way : Int))] [] (TT Ls tl) I1 L (RR tl) := by
    intro k
    induction k with
    | zero =>
      intro way I1 hk f hN1 hd hb
      have ew : way = 2 ^ chn σ nr := by omega
      have hiw := x_isWay (g := g) (Ls := Ls) (tl := tl) (L := L) hV (MX_fm hX f) (way := (way : Int)) (by omega)
      rw [if_neg (by omega)] at hiw
      refine r_aload_n d_X8_sumBy_5 rfl ?_
      refine r_iload d_X8_sumBy_6 rfl ?_
      refine r_V1i d_X8_sumBy_8 (w_X8_272 _ rfl) (tt_139 _ _) rfl rfl (hiw) (by decide) (Nat.le_of_ble_eq_true rfl) (fun z8 T8 I8 L8 R8 h8 => ?_)
      obtain ⟨rfl, rfl, rfl, rfl, rfl⟩ := h8
      refine r_if_eq d_X8_sumBy_11 (by omega) (fun c11 => ?_) (fun c11 => absurd c11 (by decide))
      refine r_iload_n d_X8_sumBy_38 rfl ?_
      refine r_iret d_X8_sumBy_39 rfl ?_
      rw [hQ]
      refine ⟨_, rfl, rfl, rfl, rfl, f, hN1, ⟨sumN_nonneg _ (fun w hw => Int.mul_nonneg (wtM_bd2 nr s3).1 (hb w hw).1), ?_⟩, by rw [ew] at hd ⊢; exact CW_of hV.1 hcan v2 v3 hd⟩
      have := (sumN_bd (f := fun w => wtM σ w nr * C w) (B := 4000000) way (fun w hw => mul_sg (by have := wtM_bd2 (σ := σ) (way := w) nr s3; omega) (by have := hb w hw; omega))).2
      omega
    | succ k ih =>
      intro way I1 hk f hN1 hd hb
      have hiw := x_isWay (g := g) (Ls := Ls) (tl := tl) (L := L) hV (MX_fm hX f) (way := (way : Int)) (by omega)
      rw [if_pos (by omega)] at hiw
      refine r_aload_n d_X8_sumBy_5 rfl ?_
      refine r_iload d_X8_sumBy_6 rfl ?_
      refine r_V1i d_X8_sumBy_8 (w_X8_272 _ rfl) (tt_139 _ _) rfl rfl (hiw) (by decide) (Nat.le_of_ble_eq_true rfl) (fun z8 T8 I8 L8 R8 h8 => ?_)
      obtain ⟨rfl, rfl, rfl, rfl, rfl⟩ := h8
      refine r_if_eq d_X8_sumBy_11 (by omega) (fun c11 => absurd c11 (by decide)) (fun c11 => ?_)
      refine r_iload_n d_X8_sumBy_14 rfl ?_
      refine r_aload_n d_X8_sumBy_15 rfl ?_
      refine r_iload d_X8_sumBy_16 rfl ?_
      refine r_V1i d_X8_sumBy_18 (w_X8_366 _ rfl) (tt_139 _ _) rfl rfl (x_weight hV (MX_fm hX f) (by omega)) (by decide) (Nat.le_of_ble_eq_true rfl) (fun z18 T18 I18 L18 R18 h18 => ?_)
      obtain ⟨rfl, rfl, rfl, rfl, rfl⟩ := h18
      refine r_aload_n d_X8_sumBy_21 rfl ?_
      refine r_iload_n d_X8_sumBy_22 rfl ?_
      refine r_iload d_X8_sumBy_23 rfl ?_
      refine r_iload_n d_X8_sumBy_25 rfl ?_
      refine r_V3i d_X8_sumBy_26 (w_X8_406 _ rfl) (tt_139 _ _) rfl rfl (x_costBy (MB_fm hM f hN1) hq (by omega) h0 hh) (by decide) (Nat.le_of_ble_eq_true rfl) (fun z26 T26 I26 L26 R26 h26 => ?_)
      obtain ⟨rfl, rfl, rfl, y1, y2, y3, y4, od, y5, y6, y7⟩ := h26
      refine r_imul d_X8_sumBy_29 ?_
      refine r_iadd d_X8_sumBy_30 ?_
      refine r_istore_n d_X8_sumBy_31 (by decide) ?_
      refine r_iinc d_X8_sumBy_32 rfl (by decide) ?_
      refine r_goto d_X8_sumBy_35 ?_
      have hz := hC way z26 ⟨od, _, y5, y6⟩
      rw [hz] at y3 y6
      refine CpL (ih (way + 1) I26 (by omega) (FM_tr f y1) y2 (fun w hw => ?_) (fun w hw => ?_)) (by repeat (first | exact trivial | refine ⟨rfl, ?_⟩ | refine ⟨by rw [hz]; rfl, ?_⟩))
      · by_cases e : w = way
        · rw [e]; exact ⟨od, _, y5, y6⟩
        · exact hd w (by omega)
      · by_cases e : w = way
        · rw [e]; exact y3
        · exact hb w (by omega)
  refine r_iconst d_X8_sumBy_0 ?_
  refine r_istore_n d_X8_sumBy_1 (by decide) ?_
  refine r_iconst d_X8_sumBy_2 ?_
  refine r_istore d_X8_sumBy_3 (by decide) ?_
  exact CpL (loop _ 0 I (Nat.zero_add _) FM_rf hN (fun w hw => absurd hw (by omega)) (fun w hw => absurd hw (by omega))) (by repeat (first | exact trivial | refine ⟨rfl, ?_⟩))
theorem x_divisor {a b : Nat} (ha : a ≤ 1000000000) (hb : b ≤ 1000000000) : Mc g 0 m_X8_divisor 0 0 [vi (a : Int), vi (b : Int)] T I L R (qI fun z T' I' L' R' => z = (Nat.gcd a b : Int) ∧ same T I L R T' I' L' R') := by
  refine Mc_of rfl (Nat.le_of_ble_eq_true rfl) ?_
  have loop : ∀ (n d r : Nat), r < n → d ≤ 1000000000 → r ≤ 1000000000 → Nat.gcd d r = Nat.gcd a b → Cp g 0 m_X8_divisor 0 0 (qI fun z T' I' L' R' => z = (Nat.gcd a b : Int) ∧ same T I L R T' I' L' R') 4 [(2, vi (d : Int)), (3, vi (r : Int))] [] T I L R := by
    intro n
    induction n with
    | zero => intro d r h; omega
    | succ n ih =>
      intro d r hr hd hr2 hg
      by_cases h0 : r = 0
      · subst h0
        rw [Nat.gcd_zero_right] at hg
        refine r_iload_n d_X8_divisor_4 rfl ?_
        refine r_if_eq d_X8_divisor_5 (by omega) (fun c5 => ?_) (fun c5 => absurd c5 (by omega))
        refine r_iload_n d_X8_divisor_21 rfl ?_
        refine r_iret d_X8_divisor_22 rfl ?_
        exact ⟨_, rfl, by rw [hg], same_rf⟩
      · have em : (d : Int).tmod (r : Int) = ((d % r : Nat) : Int) := by rw [Int.ofNat_tmod]
        have hl := Nat.mod_lt d (show r > 0 by omega)
        rw [gcd_step] at hg
        refine r_iload_n d_X8_divisor_4 rfl ?_
        refine r_if_eq d_X8_divisor_5 (by omega) (fun c5 => absurd c5 (by omega)) (fun c5 => ?_)
        refine r_iload_n d_X8_divisor_8 rfl ?_
        refine r_iload_n d_X8_divisor_9 rfl ?_
        refine r_irem d_X8_divisor_10 (by omega) (by omega) ?_
        refine r_istore d_X8_divisor_11 (by decide) ?_
        refine r_iload_n d_X8_divisor_13 rfl ?_
        refine r_istore_n d_X8_divisor_14 (by decide) ?_
        refine r_iload d_X8_divisor_15 rfl ?_
        refine r_istore_n d_X8_divisor_17 (by decide) ?_
        refine r_goto d_X8_divisor_18 ?_
        exact CpL (ih r (d % r) (by omega) hr2 (by omega) hg) (by repeat (first | exact trivial | refine ⟨rfl, ?_⟩ | refine ⟨by rw [em]; rfl, ?_⟩))
  refine r_iload_n d_X8_divisor_0 rfl ?_
  refine r_istore_n d_X8_divisor_1 (by decide) ?_
  refine r_iload_n d_X8_divisor_2 rfl ?_
  refine r_istore_n d_X8_divisor_3 (by decide) ?_
  exact CpL (loop (b + 1) a b (by omega) ha hb rfl) (by repeat (first | exact trivial | refine ⟨rfl, ?_⟩))
theorem x_lowest {s : Int} {W : Nat} {part : Int} (hs : -100000000 ≤ s ∧ s ≤ 100000000) (hW : 1 ≤ W ∧ W ≤ 1000) (hp : part = 0 ∨ part = 1) : Mc g 1 m_X8_lowest 0 0 [vi s, vi (W : Int), vi part] T I L R (qI fun z T' I' L' R' => z = (if part = 0 then s else (W : Int)).tdiv (Nat.gcd W s.natAbs : Nat) ∧ same T I L R T' I' L' R') := by
  refine Mc_of rfl (Nat.le_of_ble_eq_true rfl) ?_
  have ea : absI s = (s.natAbs : Int) := by unfold absI; split <;> omega
  have hg : 0 < Nat.gcd W s.natAbs := Nat.gcd_pos_of_pos_left _ (by omega)
  have hg2 : Nat.gcd W s.natAbs ≤ W := Nat.gcd_le_left _ (by omega)
  have ec : Nat.gcd s.natAbs W = Nat.gcd W s.natAbs := Nat.gcd_comm _ _
  have hsz := x_size (g := g) (T := T) (I := I) (L := L) (R := R) (a := s) (by omega)
  rw [ea] at hsz
  have hdv := x_divisor (g := g) (T := T) (I := I) (L := L) (R := R) (a := s.natAbs) (b := W) (by omega) (by omega)
  rw [ec] at hdv
  generalize Nat.gcd W s.natAbs = d at *
  rcases hp with rfl | rfl
  · skip
    refine r_iload_n d_X8_lowest_0 rfl ?_
    refine r_S1i d_X8_lowest_1 (w_X8_281 _ rfl) (hsz) (by decide) (Nat.le_of_ble_eq_true rfl) (fun z1 T1 I1 L1 R1 h1 => ?_)
    obtain ⟨rfl, rfl, rfl, rfl, rfl⟩ := h1
    refine r_iload_n d_X8_lowest_4 rfl ?_
    refine r_S2i d_X8_lowest_5 (w_X8_409 _ rfl) (hdv) (by decide) (Nat.le_of_ble_eq_true rfl) (fun z5 T5 I5 L5 R5 h5 => ?_)
    obtain ⟨rfl, rfl, rfl, rfl, rfl⟩ := h5
    refine r_istore_n d_X8_lowest_8 (by decide) ?_
    refine r_iload_n d_X8_lowest_9 rfl ?_
    refine r_if_ne d_X8_lowest_10 (by omega) (fun c10 => absurd c10 (by decide)) (fun c10 => ?_)
    refine r_iload_n d_X8_lowest_13 rfl ?_
    refine r_iload_n d_X8_lowest_14 rfl ?_
    refine r_idiv d_X8_lowest_15 (by omega) (by omega) ?_
    refine r_goto d_X8_lowest_16 ?_
    refine r_iret d_X8_lowest_22 rfl ?_
    exact ⟨_, rfl, by rw [if_pos rfl], same_rf⟩
  · skip
    refine r_iload_n d_X8_lowest_0 rfl ?_
    refine r_S1i d_X8_lowest_1 (w_X8_281 _ rfl) (hsz) (by decide) (Nat.le_of_ble_eq_true rfl) (fun z1 T1 I1 L1 R1 h1 => ?_)
    obtain ⟨rfl, rfl, rfl, rfl, rfl⟩ := h1
    refine r_iload_n d_X8_lowest_4 rfl ?_
    refine r_S2i d_X8_lowest_5 (w_X8_409 _ rfl) (hdv) (by decide) (Nat.le_of_ble_eq_true rfl) (fun z5 T5 I5 L5 R5 h5 => ?_)
    obtain ⟨rfl, rfl, rfl, rfl, rfl⟩ := h5
    refine r_istore_n d_X8_lowest_8 (by decide) ?_
    refine r_iload_n d_X8_lowest_9 rfl ?_
    refine r_if_ne d_X8_lowest_10 (by omega) (fun c10 => ?_) (fun c10 => absurd c10 (by decide))
    refine r_iload_n d_X8_lowest_19 rfl ?_
    refine r_iload_n d_X8_lowest_20 rfl ?_
    refine r_idiv d_X8_lowest_21 (by omega) (by omega) ?_
    refine r_iret d_X8_lowest_22 rfl ?_
    exact ⟨_, rfl, by rw [if_neg (by decide)], same_rf⟩
theorem x_bars (hM : MS σ ℓ nr nw ng tl ukd unn utr utw I) {rule way ok : Int} (hr : i32 rule) (hw : i32 way) (ho : ok = 0 ∨ ok = 1) : Mc g 2 m_X8_bars 0 0 [vr 139, vi rule, vi way, vi ok] (TT Ls tl) I L (RR tl) (qI fun z T' I' L' R' => z = brS tl.length nr (2 ^ chn σ nr) rule way ok ∧ same (TT Ls tl) I L (RR tl) T' I' L' R') := by
  refine Mc_of rfl (Nat.le_of_ble_eq_true rfl) ?_
  obtain ⟨hV, h3, hcan, hA, hX, hl, hwm, hN, hR⟩ := id hM
  have hr2 : -2147483648 ≤ rule ∧ rule ≤ 2147483647 := hr
  have hw2 : -2147483648 ≤ way ∧ way ≤ 2147483647 := hw
  have e0 := hX.1
  have s1 := hV.1.1
  have hru := x_isRule (g := g) (Ls := Ls) (tl := tl) (L := L) hr2 hR.1 hR.2.1
  have hiw := x_isWay (g := g) (Ls := Ls) (tl := tl) (L := L) hV hX hw2
  by_cases c1 : 0 ≤ rule ∧ rule < (tl.length : Int)
  · rw [if_pos c1] at hru
    by_cases c2 : 0 < nr
    · by_cases c3 : ok = 1
      · subst c3
        by_cases c4 : way = -1
        · skip
          refine r_aload_n d_X8_bars_0 rfl ?_
          refine r_iload_n d_X8_bars_1 rfl ?_
          refine r_V1i d_X8_bars_2 (w_X8_250 _ rfl) (tt_139 _ _) rfl rfl (hru) (by decide) (Nat.le_of_ble_eq_true rfl) (fun z2 T2 I2 L2 R2 h2 => ?_)
          obtain ⟨rfl, rfl, rfl, rfl, rfl⟩ := h2
          refine r_if_ne d_X8_bars_5 (by omega) (fun c5 => ?_) (fun c5 => absurd c5 (by decide))
          refine r_aload_n d_X8_bars_11 rfl ?_
          refine r_geti d_X8_bars_12 f_X8_232 (tt_139 _ _) (by decide) (by decide) ?_
          refine r_if_ne d_X8_bars_15 (by omega) (fun c15 => ?_) (fun c15 => absurd c15 (by omega))
          refine r_iload_n d_X8_bars_21 rfl ?_
          refine r_if_eq d_X8_bars_22 (by omega) (fun c22 => absurd c22 (by decide)) (fun c22 => ?_)
          refine r_iload_n d_X8_bars_25 rfl ?_
          refine r_iconst d_X8_bars_26 ?_
          refine r_icmp_eq d_X8_bars_27 (by omega) (by omega) (fun c27 => ?_) (fun c27 => absurd c27 (by exact fun q => q c4))
          refine r_iconst d_X8_bars_38 ?_
          refine r_goto d_X8_bars_39 ?_
          refine r_iret d_X8_bars_44 rfl ?_
          exact ⟨_, rfl, by unfold brS; rw [if_pos c1, if_pos c2, if_pos ⟨rfl, Or.inl c4⟩], same_rf⟩
        · by_cases k5 : 0 ≤ way ∧ way < ((2 ^ chn σ nr : Nat) : Int)
          · rw [if_pos k5] at hiw
            refine r_aload_n d_X8_bars_0 rfl ?_
            refine r_iload_n d_X8_bars_1 rfl ?_
            refine r_V1i d_X8_bars_2 (w_X8_250 _ rfl) (tt_139 _ _) rfl rfl (hru) (by decide) (Nat.le_of_ble_eq_true rfl) (fun z2 T2 I2 L2 R2 h2 => ?_)
            obtain ⟨rfl, rfl, rfl, rfl, rfl⟩ := h2
            refine r_if_ne d_X8_bars_5 (by omega) (fun c5 => ?_) (fun c5 => absurd c5 (by decide))
            refine r_aload_n d_X8_bars_11 rfl ?_
            refine r_geti d_X8_bars_12 f_X8_232 (tt_139 _ _) (by decide) (by decide) ?_
            refine r_if_ne d_X8_bars_15 (by omega) (fun c15 => ?_) (fun c15 => absurd c15 (by omega))
            refine r_iload_n d_X8_bars_21 rfl ?_
            refine r_if_eq d_X8_bars_22 (by omega) (fun c22 => absurd c22 (by decide)) (fun c22 => ?_)
            refine r_iload_n d_X8_bars_25 rfl ?_
            refine r_iconst d_X8_bars_26 ?_
            refine r_icmp_eq d_X8_bars_27 (by omega) (by omega) (fun c27 => absurd c27 (by exact c4)) (fun c27 => ?_)
            refine r_aload_n d_X8_bars_30 rfl ?_
            refine r_iload_n d_X8_bars_31 rfl ?_
            refine r_V1i d_X8_bars_32 (w_X8_272 _ rfl) (tt_139 _ _) rfl rfl (hiw) (by decide) (Nat.le_of_ble_eq_true rfl) (fun z32 T32 I32 L32 R32 h32 => ?_)
            obtain ⟨rfl, rfl, rfl, rfl, rfl⟩ := h32
            refine r_if_eq d_X8_bars_35 (by omega) (fun c35 => absurd c35 (by decide)) (fun c35 => ?_)
            refine r_iconst d_X8_bars_38 ?_
            refine r_goto d_X8_bars_39 ?_
            refine r_iret d_X8_bars_44 rfl ?_
            exact ⟨_, rfl, by unfold brS; rw [if_pos c1, if_pos c2, if_pos ⟨rfl, Or.inr k5⟩], same_rf⟩
          · rw [if_neg k5] at hiw
            refine r_aload_n d_X8_bars_0 rfl ?_
            refine r_iload_n d_X8_bars_1 rfl ?_
            refine r_V1i d_X8_bars_2 (w_X8_250 _ rfl) (tt_139 _ _) rfl rfl (hru) (by decide) (Nat.le_of_ble_eq_true rfl) (fun z2 T2 I2 L2 R2 h2 => ?_)
            obtain ⟨rfl, rfl, rfl, rfl, rfl⟩ := h2
            refine r_if_ne d_X8_bars_5 (by omega) (fun c5 => ?_) (fun c5 => absurd c5 (by decide))
            refine r_aload_n d_X8_bars_11 rfl ?_
            refine r_geti d_X8_bars_12 f_X8_232 (tt_139 _ _) (by decide) (by decide) ?_
            refine r_if_ne d_X8_bars_15 (by omega) (fun c15 => ?_) (fun c15 => absurd c15 (by omega))
            refine r_iload_n d_X8_bars_21 rfl ?_
            refine r_if_eq d_X8_bars_22 (by omega) (fun c22 => absurd c22 (by decide)) (fun c22 => ?_)
            refine r_iload_n d_X8_bars_25 rfl ?_
            refine r_iconst d_X8_bars_26 ?_
            refine r_icmp_eq d_X8_bars_27 (by omega) (by omega) (fun c27 => absurd c27 (by exact c4)) (fun c27 => ?_)
            refine r_aload_n d_X8_bars_30 rfl ?_
            refine r_iload_n d_X8_bars_31 rfl ?_
            refine r_V1i d_X8_bars_32 (w_X8_272 _ rfl) (tt_139 _ _) rfl rfl (hiw) (by decide) (Nat.le_of_ble_eq_true rfl) (fun z32 T32 I32 L32 R32 h32 => ?_)
            obtain ⟨rfl, rfl, rfl, rfl, rfl⟩ := h32
            refine r_if_eq d_X8_bars_35 (by omega) (fun c35 => ?_) (fun c35 => absurd c35 (by decide))
            refine r_bipush d_X8_bars_42 (by decide) ?_
            refine r_iret d_X8_bars_44 rfl ?_
            exact ⟨_, rfl, by unfold brS; rw [if_pos c1, if_pos c2, if_neg (fun p => p.2.elim c4 k5)], same_rf⟩
      · have e : ok = 0 := by omega
        subst e
        refine r_aload_n d_X8_bars_0 rfl ?_
        refine r_iload_n d_X8_bars_1 rfl ?_
        refine r_V1i d_X8_bars_2 (w_X8_250 _ rfl) (tt_139 _ _) rfl rfl (hru) (by decide) (Nat.le_of_ble_eq_true rfl) (fun z2 T2 I2 L2 R2 h2 => ?_)
        obtain ⟨rfl, rfl, rfl, rfl, rfl⟩ := h2
        refine r_if_ne d_X8_bars_5 (by omega) (fun c5 => ?_) (fun c5 => absurd c5 (by decide))
        refine r_aload_n d_X8_bars_11 rfl ?_
        refine r_geti d_X8_bars_12 f_X8_232 (tt_139 _ _) (by decide) (by decide) ?_
        refine r_if_ne d_X8_bars_15 (by omega) (fun c15 => ?_) (fun c15 => absurd c15 (by omega))
        refine r_iload_n d_X8_bars_21 rfl ?_
        refine r_if_eq d_X8_bars_22 (by omega) (fun c22 => ?_) (fun c22 => absurd c22 (by decide))
        refine r_bipush d_X8_bars_42 (by decide) ?_
        refine r_iret d_X8_bars_44 rfl ?_
        exact ⟨_, rfl, by unfold brS; rw [if_pos c1, if_pos c2, if_neg (fun p => c3 p.1)], same_rf⟩
    · skip
      refine r_aload_n d_X8_bars_0 rfl ?_
      refine r_iload_n d_X8_bars_1 rfl ?_
      refine r_V1i d_X8_bars_2 (w_X8_250 _ rfl) (tt_139 _ _) rfl rfl (hru) (by decide) (Nat.le_of_ble_eq_true rfl) (fun z2 T2 I2 L2 R2 h2 => ?_)
      obtain ⟨rfl, rfl, rfl, rfl, rfl⟩ := h2
      refine r_if_ne d_X8_bars_5 (by omega) (fun c5 => ?_) (fun c5 => absurd c5 (by decide))
      refine r_aload_n d_X8_bars_11 rfl ?_
      refine r_geti d_X8_bars_12 f_X8_232 (tt_139 _ _) (by decide) (by decide) ?_
      refine r_if_ne d_X8_bars_15 (by omega) (fun c15 => absurd c15 (by omega)) (fun c15 => ?_)
      refine r_bipush d_X8_bars_18 (by decide) ?_
      refine r_iret d_X8_bars_20 rfl ?_
      exact ⟨_, rfl, by unfold brS; rw [if_pos c1, if_neg c2], same_rf⟩
  · rw [if_neg c1] at hru
    refine r_aload_n d_X8_bars_0 rfl ?_
    refine r_iload_n d_X8_bars_1 rfl ?_
    refine r_V1i d_X8_bars_2 (w_X8_250 _ rfl) (tt_139 _ _) rfl rfl (hru) (by decide) (Nat.le_of_ble_eq_true rfl) (fun z2 T2 I2 L2 R2 h2 => ?_)
    obtain ⟨rfl, rfl, rfl, rfl, rfl⟩ := h2
    refine r_if_ne d_X8_bars_5 (by omega) (fun c5 => absurd c5 (by decide)) (fun c5 => ?_)
    refine r_bipush d_X8_bars_8 (by decide) ?_
    refine r_iret d_X8_bars_10 rfl ?_
    exact ⟨_, rfl, by unfold brS; rw [if_neg c1], same_rf⟩
theorem MS_all (hM : MS σ ℓ nr nw ng tl ukd unn utr utw I) : MB σ ℓ (-1) nr nw ng tl ukd unn utr utw (up2 (up2 I 139 56 (I 139 8)) 139 55 (-1)) ∧ FP I (up2 (up2 I 139 56 (I 139 8)) 139 55 (-1)) := by
  obtain ⟨hV, h3, hcan, hA, hX, hl, hw, hN, hR⟩ := id hM
  have fa : ∀ a, a ≠ 139 → up2 (up2 I 139 56 (I 139 8)) 139 55 (-1) a = I a := fun a h => by rw [up2_ne _ _ h, up2_ne _ _ h]
  have fk : ∀ k, k ≠ 55 → k ≠ 56 → up2 (up2 I 139 56 (I 139 8)) 139 55 (-1) 139 k = I 139 k := fun k h1 h2 => by rw [up2_nj _ _ h1, up2_nj _ _ h2]
  refine ⟨⟨hV, hcan, hA, by omega, MX_fr hX (fun a h1 _ => fa a (by omega)) (fk 0 (by decide) (by decide)) (fk 12 (by decide) (by decide)), ⟨by rw [fk 17 (by decide) (by decide)]; exact hl, by rw [up2_at], by rw [up2_nj _ _ (by decide), up2_at]; exact hw⟩, KNM_fr hN (fa 173 (by decide)) (fa 183 (by decide)), ?_⟩, ⟨fun a h _ => fa a h, fun k hk => fk k (by omega) (by omega)⟩⟩
  obtain ⟨r1, r2, r3⟩ := hR
  refine ⟨by rw [fk 19 (by decide) (by decide)]; exact r1, r2, fun q hq => ?_⟩
  rw [fa 154 (by decide), fa 155 (by decide), fa 156 (by decide)]
  exact r3 q hq
theorem MS_fp {I I' : sI} (hM : MS σ ℓ nr nw ng tl ukd unn utr utw I) (f : FP I I') (k : KNM σ ℓ (-1) nr nw ng I') : MS σ ℓ nr nw ng tl ukd unn utr utw I' := by
  obtain ⟨hV, h3, hcan, hA, hX, hl, hw, hN, hR⟩ := id hM
  refine ⟨hV, h3, hcan, hA, MX_fr hX (fun a h1 h2 => f.1 a (by omega) (by omega)) (f.2 0 (by omega)) (f.2 12 (by omega)), by rw [f.2 17 (by omega)]; exact hl, by rw [f.2 8 (by omega)]; exact hw, k, ?_⟩
  obtain ⟨r1, r2, r3⟩ := hR
  refine ⟨by rw [f.2 19 (by omega)]; exact r1, r2, fun q hq => ?_⟩
  rw [f.1 154 (by decide) (by omega), f.1 155 (by decide) (by omega), f.1 156 (by decide) (by omega)]
  exact r3 q hq
end X94
