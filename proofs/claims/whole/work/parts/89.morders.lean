/-! the reference's orders -/
def ARS (σ : Sg) (ng : Nat) : Prop := ∃ ar : Nat → Nat, (∀ i, i < ng → ar i < ng) ∧ (∀ i j, i < j → j < ng → bef σ (ar i) (ar j))
/-- what the reference's days leave as it was -/
def FM (I I' : sI) : Prop := (∀ a, a ≠ 139 → (a < 173 ∨ 185 ≤ a) → I' a = I a) ∧ (∀ k, (k < 66 ∨ 70 < k) → I' 139 k = I 139 k)
theorem FM_rf {I : sI} : FM I I := ⟨fun _ _ _ => rfl, fun _ _ => rfl⟩
theorem FM_tr {I J K : sI} (h : FM I J) (k : FM J K) : FM I K := ⟨fun a h1 h2 => (k.1 a h1 h2).trans (h.1 a h1 h2), fun x hx => (k.2 x hx).trans (h.2 x hx)⟩
theorem FM_frb {lo hi : Nat} {I I' : sI} (h : frb lo hi I I') (h1 : 173 ≤ lo) (h2 : hi ≤ 185) : FM I I' := ⟨fun a _ h3 => h a (by omega), fun k _ => by rw [h 139 (by omega)]⟩
theorem MX_fm {σ : Sg} {nr nW ng : Nat} {I I' : sI} (h : MX σ nr nW ng I) (f : FM I I') : MX σ nr nW ng I' := MX_fr h (fun a h1 h2 => f.1 a (by omega) (by omega)) (f.2 0 (by omega)) (f.2 12 (by omega))
theorem MK_fm {ℓ ab : Int} {nW : Nat} {I I' : sI} (h : MK ℓ ab nW I) (f : FM I I') : MK ℓ ab nW I' := ⟨by rw [f.2 17 (by omega)]; exact h.1, by rw [f.2 55 (by omega)]; exact h.2.1, by rw [f.2 56 (by omega)]; exact h.2.2⟩
def FO (I I' : sI) : Prop := (∀ a, a ≠ 139 → ¬ (174 ≤ a ∧ a < 180) → ¬ (181 ≤ a ∧ a < 183) → I' a = I a) ∧ (∀ k, k ≠ 66 → k ≠ 67 → I' 139 k = I 139 k)
theorem FO_rf {I : sI} : FO I I := ⟨fun _ _ _ _ => rfl, fun _ _ _ => rfl⟩
theorem FO_tr {I J K : sI} (h : FO I J) (k : FO J K) : FO I K := ⟨fun a h1 h2 h3 => (k.1 a h1 h2 h3).trans (h.1 a h1 h2 h3), fun x hx hy => (k.2 x hx hy).trans (h.2 x hx hy)⟩
theorem FO_frb {lo hi : Nat} {I I' : sI} (h : frb lo hi I I') (h1 : (174 ≤ lo ∧ hi ≤ 180) ∨ (181 ≤ lo ∧ hi ≤ 183)) : FO I I' := ⟨fun a _ h3 h4 => h a (by omega), fun k _ _ => by rw [h 139 (by omega)]⟩
theorem FO_FM {I I' : sI} (h : FO I I') : FM I I' := ⟨fun a h1 h2 => h.1 a h1 (by omega) (by omega), fun k hk => h.2 k (by omega) (by omega)⟩
def soS9 (σ : Sg) (nr bit : Nat) (c : Nat → Int) (n : Nat) : Int := sumN (fun way => if way.testBit bit = true then 0 else wtM σ way nr * c way) n
def laS9 (σ : Sg) (nr bit : Nat) (c : Nat → Int) (n : Nat) : Int := sumN (fun way => if way.testBit bit = true then wtM σ way nr * c way else 0) n
theorem sola {σ : Sg} {nr bit : Nat} {c : Nat → Int} (n : Nat) : soS9 σ nr bit c n + laS9 σ nr bit c n = sumN (fun way => wtM σ way nr * c way) n := by
  unfold soS9 laS9
  rw [← sumN_add]
  refine sumN_eq n (fun w _ => ?_)
  show (if w.testBit bit = true then 0 else wtM σ w nr * c w) + (if w.testBit bit = true then wtM σ w nr * c w else 0) = wtM σ w nr * c w
  split <;> omega
theorem sumN_bd {f : Nat → Int} {B : Int} : ∀ n, (∀ i, i < n → -B ≤ f i ∧ f i ≤ B) → -(B * n) ≤ sumN f n ∧ sumN f n ≤ B * n
  | 0, _ => by show -(B * 0) ≤ 0 ∧ (0 : Int) ≤ B * 0; rw [Int.mul_zero]; omega
  | n + 1, h => by
    have ih := sumN_bd n (fun i hi => h i (by omega))
    have := h n (by omega)
    show -(B * ((n + 1 : Nat) : Int)) ≤ sumN f n + f n ∧ sumN f n + f n ≤ B * ((n + 1 : Nat) : Int)
    rw [show ((n + 1 : Nat) : Int) = (n : Int) + 1 from rfl, Int.mul_add, Int.mul_one]
    omega
theorem mul_sg {w c : Int} (hw : 0 ≤ w ∧ w ≤ 1000) (hc : -4000 ≤ c ∧ c ≤ 4000) : -4000000 ≤ w * c ∧ w * c ≤ 4000000 := by
  have h1 := Int.mul_le_mul_of_nonneg_left hc.1 hw.1
  have h2 := Int.mul_le_mul_of_nonneg_left hc.2 hw.1
  omega
theorem sola_bd {σ : Sg} {nr bit : Nat} {c : Nat → Int} (hr : ∀ r, r < nr → RV σ r) (h3 : chn σ nr ≤ 3) {n : Nat} (hn : n ≤ 8) (hc : ∀ w, w < n → -4000 ≤ c w ∧ c w ≤ 4000) : (-32000000 ≤ soS9 σ nr bit c n ∧ soS9 σ nr bit c n ≤ 32000000) ∧ (-32000000 ≤ laS9 σ nr bit c n ∧ laS9 σ nr bit c n ≤ 32000000) := by
  have h10 := p10 h3
  have hb : ∀ w, w < n → -4000000 ≤ wtM σ w nr * c w ∧ wtM σ w nr * c w ≤ 4000000 := fun w hw => by
    have := wtM_bd2 (σ := σ) (way := w) nr hr
    exact mul_sg (by omega) (hc w hw)
  have b1 := sumN_bd (f := fun way => if way.testBit bit = true then 0 else wtM σ way nr * c way) (B := 4000000) n (fun w hw => by
    have := hb w hw
    show _ ≤ (if w.testBit bit = true then 0 else wtM σ w nr * c w) ∧ (if w.testBit bit = true then 0 else wtM σ w nr * c w) ≤ _
    split <;> omega)
  have b2 := sumN_bd (f := fun way => if way.testBit bit = true then wtM σ way nr * c way else 0) (B := 4000000) n (fun w hw => by
    have := hb w hw
    show _ ≤ (if w.testBit bit = true then wtM σ w nr * c w else 0) ∧ (if w.testBit bit = true then wtM σ w nr * c w else 0) ≤ _
    split <;> omega)
  unfold soS9 laS9
  omega
section X89
variable {g : sG} {Ls : Nat} {tl : List Nat} {T : sT} {R : sR} {I L : sI} {σ δ : Sg} {ℓ ab : Int} {nr nW ng : Nat} {C : List Nat → Nat → Int} {how : Int}
theorem x_layOrderCost (hV : MV σ ℓ nr nW ng) (hA : ARS σ ng) (hX : MX σ nr nW ng I) (hK : MK ℓ ab nW I) (hab : -1 ≤ ab ∧ ab ≤ 100) (hh : how = 0 ∨ how = 1) (hC : CCX σ ℓ ab nr nW ng how C) {l : List Nat} (hln : l.length = nr) (hl : LFX nr l (I 180)) {bit : Nat} (hb : bit < 8) : Mc g 6 m_X8_layOrderCost 0 0 [vr 139, vi how, vi (bit : Int)] (TT Ls tl) I L (RR tl) (qV fun T' I' L' R' => T' = TT Ls tl ∧ R' = RR tl ∧ L' = L ∧ FO I I' ∧ I' 139 66 = soS9 σ nr bit (C l) (2 ^ chn σ nr) ∧ I' 139 67 = laS9 σ nr bit (C l) (2 ^ chn σ nr) ∧ ∀ way, way < 2 ^ chn σ nr → CS σ nr ng (lofS σ ℓ ab nW l (opS σ way) 3) how (C l way)) := by
  refine Mc_of rfl (Nat.le_of_ble_eq_true rfl) ?_
  obtain ⟨⟨s1, s2, s3, s4, s5⟩, v2, v3, v4⟩ := id hV
  obtain ⟨ar, a1, a2⟩ := hA
  obtain ⟨Q, hQ⟩ : ∃ Q : sQ, Q = (qV fun T' I' L' R' => T' = TT Ls tl ∧ R' = RR tl ∧ L' = L ∧ FO I I' ∧ I' 139 66 = soS9 σ nr bit (C l) (2 ^ chn σ nr) ∧ I' 139 67 = laS9 σ nr bit (C l) (2 ^ chn σ nr) ∧ ∀ way, way < 2 ^ chn σ nr → CS σ nr ng (lofS σ ℓ ab nW l (opS σ way) 3) how (C l way)) := ⟨_, rfl⟩
  rw [← hQ]
  have hp := p2 v4
  obtain ⟨od, hod0⟩ : ∃ od : Nat → Nat, od = fun k => l.getD k 0 := ⟨_, rfl⟩
  have hod : ∀ k, k < nr → l[k]? = some (od k) ∧ od k < nr ∧ I 180 k = (od k : Int) := fun k hk => by
    obtain ⟨x, x1, x2, x3⟩ := hl k hk
    have : od k = x := by rw [hod0]; show l.getD k 0 = x; rw [List.getD_eq_getElem?_getD, x1]; rfl
    rw [this]; exact ⟨x1, x2, x3⟩
  have hlx : ∀ x ∈ l, x < nr := fun x hx => by
    obtain ⟨k, hk, rfl⟩ := List.getElem_of_mem hx
    obtain ⟨y, y1, y2, -⟩ := hl k (by omega)
    rw [List.getElem?_eq_getElem hk] at y1
    have := Option.some.inj y1
    omega
  have elof : ∀ δ, lofS σ ℓ ab nW l δ = lstS σ ℓ ab nW od nr δ := fun δ => by
    have := lof_lst (σ := σ) (ℓ := ℓ) (ab := ab) (nW := nW) (l := l) (od := od) (δ := δ) nr (fun k hk => (hod k hk).1)
    rw [← hln, List.take_length] at this
    rw [← hln]; exact this
  obtain ⟨W, hW⟩ : ∃ W : Nat, W = 2 ^ chn σ nr := ⟨_, rfl⟩
  rw [← hW] at hp hQ
  have loop : ∀ (k way : Nat) (I1 : sI), way + k = W → FO I I1 → I1 139 66 = soS9 σ nr bit (C l) way → I1 139 67 = laS9 σ nr bit (C l) way → (∀ w, w < way → CS σ nr ng (lofS σ ℓ ab nW l (opS σ w) 3) how (C l w)) → Cp g 6 m_X8_layOrderCost 0 0 Q 12 [(0, vr 139), (1, vi how), (2, vi (bit : Int)), (3, vi (way : Int))] [] (TT Ls tl) I1 L (RR tl) := by
    intro k
    induction k with
    | zero =>
      intro way I1 hw f h66 h67 hcs
      have hX1 := MX_fm hX (FO_FM f)
      have hiw := x_isWay (g := g) (Ls := Ls) (tl := tl) (L := L) hV hX1 (way := (way : Int)) (by omega)
      rw [← hW, if_neg (by omega)] at hiw
      have ew : way = W := by omega
      refine r_aload_n d_X8_layOrderCost_12 rfl ?_
      refine r_iload_n d_X8_layOrderCost_13 rfl ?_
      refine r_V1i d_X8_layOrderCost_14 (w_X8_272 _ rfl) (tt_139 _ _) rfl rfl (hiw) (by decide) (Nat.le_of_ble_eq_true rfl) (fun z14 T14 I14 L14 R14 h14 => ?_)
      obtain ⟨rfl, rfl, rfl, rfl, rfl⟩ := h14
      refine r_if_eq d_X8_layOrderCost_17 (by omega) (fun c17 => ?_) (fun c17 => absurd c17 (by decide))
      refine r_vret d_X8_layOrderCost_86 rfl ?_
      rw [hQ]
      exact ⟨rfl, rfl, rfl, rfl, f, by rw [h66, ew], by rw [h67, ew], fun w hw => hcs w (by omega)⟩
    | succ k ih =>
      intro way I1 hw f h66 h67 hcs
      have hX1 := MX_fm hX (FO_FM f)
      have hK1 := MK_fm hK (FO_FM f)
      have hiw := x_isWay (g := g) (Ls := Ls) (tl := tl) (L := L) hV hX1 (way := (way : Int)) (by omega)
      rw [← hW, if_pos (by omega)] at hiw
      have et : sand (sshr (way : Int) (bit : Int)) 1 = if way.testBit bit then 1 else 0 := bit_tst (by omega) (by omega)
      have t33 : ∀ (I2 : sI), FO I I2 → I2 139 66 = soS9 σ nr bit (C l) way → I2 139 67 = laS9 σ nr bit (C l) way → DM (lstS σ ℓ ab nW od nr (opS σ way)) nr nW I2 → Cp g 6 m_X8_layOrderCost 0 0 Q 33 [(0, vr 139), (1, vi how), (2, vi (bit : Int)), (3, vi (way : Int))] [] (TT Ls tl) I2 L (RR tl) := by
        intro I2 f2 k66 k67 hD2
        have hX2 := MX_fm hX (FO_FM f2)
        have hDV2 : DV (lstS σ ℓ ab nW od nr (opS σ way)) nr nW := DV_lst hV.1 (DV_op hV.1) nr (fun k hk => (hod k hk).2.1)
        have hg := x_giveAll (g := g) (Ls := Ls) (tl := tl) (L := L) (rd := lstS σ ℓ ab nW od nr (opS σ way) 3) hV hX2 (fun r hr => ⟨(hD2.1 r hr).2.2.2, (hDV2.1 r hr).2.2.2⟩) a1 a2 hh
        by_cases htb : way.testBit bit = true
        · rw [htb, if_pos rfl] at et
          refine r_aload_n d_X8_layOrderCost_33 rfl ?_
          refine r_iload_n d_X8_layOrderCost_34 rfl ?_
          refine r_V1i d_X8_layOrderCost_35 (w_X8_366 _ rfl) (tt_139 _ _) rfl rfl (x_weight hV hX2 (by omega)) (by decide) (Nat.le_of_ble_eq_true rfl) (fun z35 T35 I35 L35 R35 h35 => ?_)
          obtain ⟨rfl, rfl, rfl, rfl, rfl⟩ := h35
          refine r_aload_n d_X8_layOrderCost_38 rfl ?_
          refine r_iload_n d_X8_layOrderCost_39 rfl ?_
          refine r_V1i d_X8_layOrderCost_40 (w_X8_369 _ rfl) (tt_139 _ _) rfl rfl (hg) (by decide) (Nat.le_of_ble_eq_true rfl) (fun z40 T40 I40 L40 R40 h40 => ?_)
          obtain ⟨rfl, rfl, rfl, y1, y2, y3⟩ := h40
          refine r_imul d_X8_layOrderCost_43 ?_
          refine r_istore d_X8_layOrderCost_44 (by decide) ?_
          refine r_iload_n d_X8_layOrderCost_46 rfl ?_
          refine r_iload_n d_X8_layOrderCost_47 rfl ?_
          refine r_ishr d_X8_layOrderCost_48 ?_
          refine r_iconst d_X8_layOrderCost_49 ?_
          refine r_iand d_X8_layOrderCost_50 ?_
          refine r_iconst d_X8_layOrderCost_51 ?_
          rw [et]
          refine r_icmp_ne d_X8_layOrderCost_52 (by omega) (by omega) (fun c52 => absurd c52 (by decide)) (fun c52 => ?_)
          refine r_aload_n d_X8_layOrderCost_55 rfl ?_
          refine r_dup d_X8_layOrderCost_56 rfl ?_
          refine r_geti d_X8_layOrderCost_57 f_X8_363 (tt_139 _ _) (by decide) (by decide) ?_
          refine r_iload d_X8_layOrderCost_60 rfl ?_
          refine r_iadd d_X8_layOrderCost_62 ?_
          refine r_puti d_X8_layOrderCost_63 f_X8_363 (tt_139 _ _) (by decide) (Or.inl rfl) ?_
          refine r_goto d_X8_layOrderCost_66 ?_
          refine r_iinc d_X8_layOrderCost_80 rfl (by decide) ?_
          refine r_goto d_X8_layOrderCost_83 ?_
          have hz := hC l way z40 hlx (by rw [elof]; exact ⟨_, y2⟩)
          have e66 : I40 139 66 = soS9 σ nr bit (C l) way := by rw [y1 139 (by omega)]; exact k66
          have e67 : I40 139 67 = laS9 σ nr bit (C l) way := by rw [y1 139 (by omega)]; exact k67
          have f3 := FO_tr f2 (FO_frb y1 (by omega))
          refine CpL (ih (way + 1) _ (by omega) (FO_tr f3 ⟨fun a h1 _ _ => by rw [up2_ne _ _ h1], fun k h1 h2 => by rw [up2_nj _ _ h2]⟩) ?_ ?_ ?_) (by repeat (first | exact trivial | refine ⟨rfl, ?_⟩))
          · rw [up2_nj _ _ (by decide), e66]
            show _ = soS9 σ nr bit (C l) way + (if way.testBit bit = true then 0 else wtM σ way nr * C l way)
            rw [if_pos htb, Int.add_zero]
          · rw [up2_at, e67, hz]
            show _ = laS9 σ nr bit (C l) way + (if way.testBit bit = true then wtM σ way nr * C l way else 0)
            rw [if_pos htb]
          · intro w hw2
            by_cases e : w = way
            · rw [e, ← hz, elof]; exact ⟨_, y2⟩
            · exact hcs w (by omega)
        · rw [if_neg htb] at et
          refine r_aload_n d_X8_layOrderCost_33 rfl ?_
          refine r_iload_n d_X8_layOrderCost_34 rfl ?_
          refine r_V1i d_X8_layOrderCost_35 (w_X8_366 _ rfl) (tt_139 _ _) rfl rfl (x_weight hV hX2 (by omega)) (by decide) (Nat.le_of_ble_eq_true rfl) (fun z35 T35 I35 L35 R35 h35 => ?_)
          obtain ⟨rfl, rfl, rfl, rfl, rfl⟩ := h35
          refine r_aload_n d_X8_layOrderCost_38 rfl ?_
          refine r_iload_n d_X8_layOrderCost_39 rfl ?_
          refine r_V1i d_X8_layOrderCost_40 (w_X8_369 _ rfl) (tt_139 _ _) rfl rfl (hg) (by decide) (Nat.le_of_ble_eq_true rfl) (fun z40 T40 I40 L40 R40 h40 => ?_)
          obtain ⟨rfl, rfl, rfl, y1, y2, y3⟩ := h40
          refine r_imul d_X8_layOrderCost_43 ?_
          refine r_istore d_X8_layOrderCost_44 (by decide) ?_
          refine r_iload_n d_X8_layOrderCost_46 rfl ?_
          refine r_iload_n d_X8_layOrderCost_47 rfl ?_
          refine r_ishr d_X8_layOrderCost_48 ?_
          refine r_iconst d_X8_layOrderCost_49 ?_
          refine r_iand d_X8_layOrderCost_50 ?_
          refine r_iconst d_X8_layOrderCost_51 ?_
          rw [et]
          refine r_icmp_ne d_X8_layOrderCost_52 (by omega) (by omega) (fun c52 => ?_) (fun c52 => absurd c52 (by decide))
          refine r_aload_n d_X8_layOrderCost_69 rfl ?_
          refine r_dup d_X8_layOrderCost_70 rfl ?_
          refine r_geti d_X8_layOrderCost_71 f_X8_360 (tt_139 _ _) (by decide) (by decide) ?_
          refine r_iload d_X8_layOrderCost_74 rfl ?_
          refine r_iadd d_X8_layOrderCost_76 ?_
          refine r_puti d_X8_layOrderCost_77 f_X8_360 (tt_139 _ _) (by decide) (Or.inl rfl) ?_
          refine r_iinc d_X8_layOrderCost_80 rfl (by decide) ?_
          refine r_goto d_X8_layOrderCost_83 ?_
          have hz := hC l way z40 hlx (by rw [elof]; exact ⟨_, y2⟩)
          have e66 : I40 139 66 = soS9 σ nr bit (C l) way := by rw [y1 139 (by omega)]; exact k66
          have e67 : I40 139 67 = laS9 σ nr bit (C l) way := by rw [y1 139 (by omega)]; exact k67
          have f3 := FO_tr f2 (FO_frb y1 (by omega))
          refine CpL (ih (way + 1) _ (by omega) (FO_tr f3 ⟨fun a h1 _ _ => by rw [up2_ne _ _ h1], fun k h1 h2 => by rw [up2_nj _ _ h1]⟩) ?_ ?_ ?_) (by repeat (first | exact trivial | refine ⟨rfl, ?_⟩))
          · rw [up2_at, e66, hz]
            show _ = soS9 σ nr bit (C l) way + (if way.testBit bit = true then 0 else wtM σ way nr * C l way)
            rw [if_neg htb]
          · rw [up2_nj _ _ (by decide), e67]
            show _ = laS9 σ nr bit (C l) way + (if way.testBit bit = true then wtM σ way nr * C l way else 0)
            rw [if_neg htb, Int.add_zero]
          · intro w hw2
            by_cases e : w = way
            · rw [e, ← hz, elof]; exact ⟨_, y2⟩
            · exact hcs w (by omega)
      refine r_aload_n d_X8_layOrderCost_12 rfl ?_
      refine r_iload_n d_X8_layOrderCost_13 rfl ?_
      refine r_V1i d_X8_layOrderCost_14 (w_X8_272 _ rfl) (tt_139 _ _) rfl rfl (hiw) (by decide) (Nat.le_of_ble_eq_true rfl) (fun z14 T14 I14 L14 R14 h14 => ?_)
      obtain ⟨rfl, rfl, rfl, rfl, rfl⟩ := h14
      refine r_if_eq d_X8_layOrderCost_17 (by omega) (fun c17 => absurd c17 (by decide)) (fun c17 => ?_)
      refine r_aload_n d_X8_layOrderCost_20 rfl ?_
      refine r_iload_n d_X8_layOrderCost_21 rfl ?_
      refine r_V1v d_X8_layOrderCost_22 (w_X8_275 _ rfl) (tt_139 _ _) rfl rfl (x_layGone hV hX1 (by omega)) (by decide) (Nat.le_of_ble_eq_true rfl) (fun T22 I22 L22 R22 h22 => ?_)
      obtain ⟨rfl, rfl, rfl, y1, y2⟩ := h22
      refine r_aload_n d_X8_layOrderCost_25 rfl ?_
      refine r_V0v d_X8_layOrderCost_26 (w_X8_321 _ rfl) (tt_139 _ _) rfl rfl (x_clear hV (MX_frb hX1 y1 (by omega)) (MK_frb hK1 y1 (by omega)) y2) (by decide) (Nat.le_of_ble_eq_true rfl) (fun T26 I26 L26 R26 h26 => ?_)
      obtain ⟨rfl, rfl, rfl, u1, u2⟩ := h26
      refine r_aload_n d_X8_layOrderCost_29 rfl ?_
      refine r_V0v d_X8_layOrderCost_30 (w_X8_298 _ rfl) (tt_139 _ _) rfl rfl (x_layList hV (MX_frb (MX_frb hX1 y1 (by omega)) u1 (by omega)) (MK_frb (MK_frb hK1 y1 (by omega)) u1 (by omega)) hab (DV_op hV.1) u2 (fun k hk => ⟨(hod k hk).2.1, by rw [u1 180 (by omega), y1 180 (by omega), f.1 180 (by decide) (by omega) (by omega)]; exact (hod k hk).2.2⟩)) (by decide) (Nat.le_of_ble_eq_true rfl) (fun T30 I30 L30 R30 h30 => ?_)
      obtain ⟨rfl, rfl, rfl, x1, x2⟩ := h30
      exact t33 I30 (FO_tr f (FO_tr (FO_frb y1 (by omega)) (FO_tr (FO_frb u1 (by omega)) (FO_frb x1 (by omega))))) (by rw [x1 139 (by omega), u1 139 (by omega), y1 139 (by omega)]; exact h66) (by rw [x1 139 (by omega), u1 139 (by omega), y1 139 (by omega)]; exact h67) x2
  refine r_aload_n d_X8_layOrderCost_0 rfl ?_
  refine r_iconst d_X8_layOrderCost_1 ?_
  refine r_puti d_X8_layOrderCost_2 f_X8_360 (tt_139 _ _) (by decide) (Or.inl rfl) ?_
  refine r_aload_n d_X8_layOrderCost_5 rfl ?_
  refine r_iconst d_X8_layOrderCost_6 ?_
  refine r_puti d_X8_layOrderCost_7 f_X8_363 (tt_139 _ _) (by decide) (Or.inl rfl) ?_
  refine r_iconst d_X8_layOrderCost_10 ?_
  refine r_istore_n d_X8_layOrderCost_11 (by decide) ?_
  refine CpL (loop W 0 _ (by omega) ⟨fun a h1 _ _ => by rw [up2_ne _ _ h1, up2_ne _ _ h1], fun k h1 h2 => by rw [up2_nj _ _ h2, up2_nj _ _ h1]⟩ ?_ ?_ (fun w hw => absurd hw (by omega))) (by repeat (first | exact trivial | refine ⟨rfl, ?_⟩))
  · rw [up2_nj _ _ (by decide), up2_at]; rfl
  · rw [up2_at]; rfl
end X89
