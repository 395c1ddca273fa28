/-- told rooms, one behind the other -/
def tdO (σ : Sg) (ℓ ab : Int) (nr nW : Nat) (δ : Sg) (q : Nat × Nat) : Sg := if q.2 < nW ∧ q.1 < nr then stepS σ ℓ ab δ q.2 q.1 else δ
def tdL (σ : Sg) (ℓ ab : Int) (nr nW : Nat) (l : List (Nat × Nat)) (δ : Sg) : Sg := l.foldl (tdO σ ℓ ab nr nW) δ
theorem tdX_L {σ : Sg} {ℓ ab : Int} {nr nW : Nat} {l : List (Nat × Nat)} {δ : Sg} {tr tw : Nat → Nat} (ht : ∀ i, i < l.length → tr i = (l.getD i (0, 0)).1 ∧ tw i = (l.getD i (0, 0)).2) : ∀ n, n ≤ l.length → tdX σ ℓ ab nr nW tr tw n δ = tdL σ ℓ ab nr nW (l.take n) δ
  | 0, _ => rfl
  | n + 1, h => by
    obtain ⟨h1, h2⟩ := ht n (by omega)
    have ih := tdX_L (σ := σ) (ℓ := ℓ) (ab := ab) (nr := nr) (nW := nW) (δ := δ) ht n (by omega)
    have et : l.take (n + 1) = l.take n ++ [l.getD n (0, 0)] := by
      rw [List.take_succ, List.getElem?_eq_getElem (by omega), List.getD_eq_getElem?_getD, List.getElem?_eq_getElem (by omega)]
      rfl
    rw [et]
    unfold tdL
    rw [List.foldl_append]
    show (if tw n < nW ∧ tr n < nr then stepS σ ℓ ab (tdX σ ℓ ab nr nW tr tw n δ) (tw n) (tr n) else tdX σ ℓ ab nr nW tr tw n δ) = tdO σ ℓ ab nr nW (tdL σ ℓ ab nr nW (l.take n) δ) (l.getD n (0, 0))
    rw [ih, h1, h2]
    rfl
def flW (l : List (Nat × Nat)) (w : Nat) : List (Nat × Nat) := l.filter (fun q => q.2 == w)
def SRT (l : List (Nat × Nat)) : Prop := l = flW l 0 ++ flW l 1 ++ flW l 2
theorem flW_none {l : List (Nat × Nat)} {w : Nat} (h : ∀ q ∈ l, q.2 ≠ w) : flW l w = [] := by
  unfold flW
  rw [List.filter_eq_nil_iff]
  intro q hq
  simp [h q hq]
theorem SRT_run {pg : Nat → Int} : ∀ (k : Nat) (s : tSt), runT pg k = some s → SRT s.2.2
  | 0, s, h => by
    have := Option.some.inj h
    subst this
    rfl
  | k + 1, s, h => by
    have h2 : (match runT pg k with
      | none => none
      | some E => tstT E (pg k)) = some s := h
    cases hr : runT pg k with
    | none => rw [hr] at h2; cases h2
    | some E =>
      rw [hr] at h2
      have ih := SRT_run k E hr
      obtain ⟨t1, t2, t3⟩ := TIV_run k E hr
      have h3 : tstT E (pg k) = some s := h2
      unfold tstT at h3
      split at h3
      · have := Option.some.inj h3
        subst this
        exact ih
      · split at h3
        · have := Option.some.inj h3
          subst this
          obtain ⟨x, hx⟩ : ∃ x, x = (pg k - 48).toNat := ⟨_, rfl⟩
          rw [← hx]
          show E.2.2 ++ [(x, E.2.1)] = flW (E.2.2 ++ [(x, E.2.1)]) 0 ++ flW (E.2.2 ++ [(x, E.2.1)]) 1 ++ flW (E.2.2 ++ [(x, E.2.1)]) 2
          have fa : ∀ w, flW (E.2.2 ++ [(x, E.2.1)]) w = flW E.2.2 w ++ (if E.2.1 = w then [(x, E.2.1)] else []) := fun w => by
            unfold flW
            rw [List.filter_append]
            congr 1
            by_cases e : E.2.1 = w
            · rw [if_pos e]; simp [e]
            · rw [if_neg e]; simp [e]
          rw [fa, fa, fa]
          unfold SRT at ih
          rcases (show E.2.1 = 0 ∨ E.2.1 = 1 ∨ E.2.1 = 2 by omega) with e | e | e
          · have n1 : flW E.2.2 1 = [] := flW_none (fun q hq => by have := (t3 q hq).2; omega)
            have n2 : flW E.2.2 2 = [] := flW_none (fun q hq => by have := (t3 q hq).2; omega)
            rw [n1, n2, List.append_nil, List.append_nil] at ih
            rw [n1, n2, if_pos e, if_neg (by omega), if_neg (by omega), ← ih]
            simp
          · have n2 : flW E.2.2 2 = [] := flW_none (fun q hq => by have := (t3 q hq).2; omega)
            rw [n2, List.append_nil] at ih
            rw [n2, if_neg (by omega), if_pos e, if_neg (by omega)]
            simp only [List.append_nil]
            rw [← List.append_assoc, ← ih]
          · rw [if_neg (by omega), if_neg (by omega), if_pos e]
            simp only [List.append_nil]
            rw [← List.append_assoc, ← ih]
        · cases h3
/-- the told in the reference: of each woman her rooms in a row, -1 behind them -/
def TLM (l : List (Nat × Nat)) (A : Nat → Int) : Prop := ∀ w, w < 3 → ∀ k, k < 8 → A (8 * w + k) = match (flW l w)[k]? with
  | some q => (q.1 : Int)
  | none => -1
theorem DV_tdL {σ : Sg} {ℓ ab : Int} {nr nW : Nat} (hS : SV σ ℓ nr nW) : ∀ (l : List (Nat × Nat)) (δ : Sg), DV δ nr nW → DV (tdL σ ℓ ab nr nW l δ) nr nW
  | [], _, h => h
  | q :: l, δ, h => by
    refine DV_tdL hS l _ ?_
    unfold tdO
    split
    · next hc => exact DV_step hS h hc.1 hc.2
    · exact h
theorem tdL_skip {σ : Sg} {ℓ ab : Int} {nr nW : Nat} : ∀ (l : List (Nat × Nat)) (δ : Sg), (∀ q ∈ l, nW ≤ q.2) → tdL σ ℓ ab nr nW l δ = δ
  | [], _, _ => rfl
  | q :: l, δ, h => by
    show tdL σ ℓ ab nr nW l (tdO σ ℓ ab nr nW δ q) = δ
    have e : tdO σ ℓ ab nr nW δ q = δ := by
      unfold tdO
      rw [if_neg (by have := h q (by simp); omega)]
    rw [e]
    exact tdL_skip l δ (fun x hx => h x (by simp [hx]))
section X81
variable {g : sG} {Ls : Nat} {tl : List Nat} {I L : sI} {σ δ : Sg} {ℓ ab : Int} {nr nW ng : Nat}
theorem x_layFloors (hV : MV σ ℓ nr nW ng) (hX : MX σ nr nW ng I) (hK : MK ℓ ab nW I) (hab : -1 ≤ ab ∧ ab ≤ 100) (hDV : DV δ nr nW) (hD : DM δ nr nW I) : Mc g 3 m_X8_layFloors 0 0 [vr 139] (TT Ls tl) I L (RR tl) (qV fun T' I' L' R' => T' = TT Ls tl ∧ R' = RR tl ∧ L' = L ∧ frb 175 180 I I' ∧ DM (flrX σ ℓ ab nr nW nr 0 δ) nr nW I') := by
  refine Mc_of rfl (Nat.le_of_ble_eq_true rfl) ?_
  obtain ⟨⟨s1, s2, s3, s4, s5⟩, v2, v3, v4⟩ := id hV
  obtain ⟨F, hF⟩ : ∃ F, F = flrX σ ℓ ab nr nW nr 0 δ := ⟨_, rfl⟩
  obtain ⟨Q, hQ⟩ : ∃ Q : sQ, Q = (qV fun T' I' L' R' => T' = TT Ls tl ∧ R' = RR tl ∧ L' = L ∧ frb 175 180 I I' ∧ DM F nr nW I') := ⟨_, rfl⟩
  rw [← hF, ← hQ]
  have fst0 : ∀ (δ1 : Sg) (r : Nat), fstS σ ℓ ab nW δ1 r 0 = δ1 0 := fun δ1 r => by
    unfold fstS
    split
    · rfl
    · unfold stepS
      split
      · funext j; exact (doS_ne (σ := σ) (ℓ := ℓ) (δ := δ1)).2.1 j
      · rfl
  have outer : ∀ (k2 q : Nat) (δ1 : Sg) (k seen : Nat) (I1 : sI), q + k2 = 45 → frb 175 180 I I1 → DV δ1 nr nW → DM δ1 nr nW I1 → (∀ i, i < nr → seen.testBit i = decide (δ1 0 i < (q : Int))) → cnN (fun i => !seen.testBit i) nr ≤ k → flrX σ ℓ ab nr nW k seen δ1 = F → Cp g 3 m_X8_layFloors 0 0 Q 2 [(0, vr 139), (1, vi (q : Int))] [] (TT Ls tl) I1 L (RR tl) := by
    intro k2
    induction k2 with
    | zero =>
      intro q δ1 k seen I1 hq f hV1 hD1 hs hc hF1
      have ha : amin (fun r => !seen.testBit r) (fun r => δ1 0 r) nr = -1 := by
        rcases amin_spec (fun r => !seen.testBit r) (fun r => δ1 0 r) nr with ⟨h, -⟩ | ⟨b, h1, h2, h3, -⟩
        · exact h
        · rw [hs b h2] at h3
          have := (hV1.1 b h2).1
          rw [decide_eq_true (by omega)] at h3
          cases h3
      have e : flrX σ ℓ ab nr nW k seen δ1 = δ1 := by
        cases k with
        | zero => rfl
        | succ k => show (if _ = -1 then δ1 else _) = δ1; rw [if_pos ha]
      refine r_iload_n d_X8_layFloors_2 rfl ?_
      refine r_bipush d_X8_layFloors_3 (by decide) ?_
      refine r_icmp_gt d_X8_layFloors_5 (by omega) (by omega) (fun c5 => ?_) (fun c5 => absurd c5 (by omega))
      refine r_vret d_X8_layFloors_70 rfl ?_
      rw [hQ]
      exact ⟨rfl, rfl, rfl, rfl, f, by rw [← hF1, e]; exact hD1⟩
    | succ k2 ih =>
      intro q δ1 k seen I1 hq f hV1 hD1 hs hc hF1
      have inner : ∀ (k3 r : Nat) (δ1 : Sg) (k seen : Nat) (I1 : sI), r + k3 = nr → frb 175 180 I I1 → DV δ1 nr nW → DM δ1 nr nW I1 → (∀ i, i < nr → seen.testBit i = decide (δ1 0 i < (q : Int) ∨ (δ1 0 i = (q : Int) ∧ i < r))) → cnN (fun i => !seen.testBit i) nr ≤ k → flrX σ ℓ ab nr nW k seen δ1 = F → Cp g 3 m_X8_layFloors 0 0 Q 10 [(0, vr 139), (1, vi (q : Int)), (2, vi (r : Int))] [] (TT Ls tl) I1 L (RR tl) := by
        intro k3
        induction k3 with
        | zero =>
          intro r δ1 k seen I1 hr f hV1 hD1 hs hc hF1
          have e0 : I1 139 0 = (nr : Int) := by rw [f 139 (by omega)]; exact hX.1
          refine r_iload_n d_X8_layFloors_10 rfl ?_
          refine r_aload_n d_X8_layFloors_11 rfl ?_
          refine r_geti d_X8_layFloors_12 f_X8_232 (tt_139 _ _) (by decide) (by decide) ?_
          refine r_icmp_ge d_X8_layFloors_15 (by omega) (by omega) (fun c15 => ?_) (fun c15 => absurd c15 (by omega))
          refine r_iinc d_X8_layFloors_64 rfl (by decide) ?_
          refine r_goto d_X8_layFloors_67 ?_
          refine CpL (ih (q + 1) δ1 k seen I1 (by omega) f hV1 hD1 (fun i hi => ?_) hc hF1) (by repeat (first | exact trivial | refine ⟨rfl, ?_⟩))
          rw [hs i hi]
          exact decide_eq_decide.mpr (by omega)
        | succ k3 ih3 =>
          intro r δ1 k seen I1 hr f hV1 hD1 hs hc hF1
          have hrn : r < nr := by omega
          have hX1 := MX_frb hX f (by omega)
          have hK1 := MK_frb hK f (by omega)
          have e0 : I1 139 0 = (nr : Int) := hX1.1
          have g0 := (hD1.1 r hrn).1
          have d0 := (hV1.1 r hrn).1
          by_cases kq : δ1 0 r = (q : Int)
          · have us : (!seen.testBit r) = true := by rw [hs r hrn, decide_eq_false (by omega)]; rfl
            have ha : amin (fun r => !seen.testBit r) (fun r => δ1 0 r) nr = (r : Int) := by
              refine amin_uniq hrn us (fun i hi ho => ?_) (fun i hi ho => ?_)
              · rw [hs i hi] at ho
                simp at ho
                show δ1 0 r ≤ δ1 0 i
                omega
              · rw [hs i (by omega)] at ho
                simp at ho
                show δ1 0 r < δ1 0 i
                omega
            have hc1 : 1 ≤ k := by
              have := cn_lt (p := fun _ => false) (q := fun i => !seen.testBit i) (r := r) nr (fun i _ h => by cases h) hrn us rfl
              omega
            obtain ⟨k', rfl⟩ : ∃ k', k = k' + 1 := ⟨k - 1, by omega⟩
            have hF2 : flrX σ ℓ ab nr nW k' (seen ||| 2 ^ r) (fstS σ ℓ ab nW δ1 r) = F := by
              rw [← hF1]
              show _ = (if amin (fun r => !seen.testBit r) (fun r => δ1 0 r) nr = -1 then δ1 else flrX σ ℓ ab nr nW k' (seen ||| 2 ^ (amin (fun r => !seen.testBit r) (fun r => δ1 0 r) nr).toNat) (fstS σ ℓ ab nW δ1 (amin (fun r => !seen.testBit r) (fun r => δ1 0 r) nr).toNat))
              rw [ha, if_neg (by omega), Int.toNat_natCast]
            have hs2 : ∀ i, i < nr → (seen ||| 2 ^ r).testBit i = decide (δ1 0 i < (q : Int) ∨ (δ1 0 i = (q : Int) ∧ i < r + 1)) := fun i hi => by
              rw [or_bit, hs i hi]
              by_cases e : r = i
              · subst e
                rw [decide_eq_true (show r = r from rfl), Bool.or_true, decide_eq_true (by omega)]
              · rw [decide_eq_false e, Bool.or_false]
                exact decide_eq_decide.mpr (by omega)
            have hc2 : cnN (fun i => !(seen ||| 2 ^ r).testBit i) nr ≤ k' := by
              have := cn_lt (p := fun i => !(seen ||| 2 ^ r).testBit i) (q := fun i => !seen.testBit i) (r := r) nr (fun i hi h => ?_) hrn us ?_
              · omega
              · rw [or_bit] at h
                cases hb : seen.testBit i with
                | true => rw [hb] at h; simp at h
                | false => rfl
              · show (!(seen ||| 2 ^ r).testBit r) = false
                rw [or_bit]; simp
            have hV2 : DV (fstS σ ℓ ab nW δ1 r) nr nW := DV_fst hV.1 hV1 hrn
            have e00 := fst0 δ1 r
            have go : ∀ (I2 : sI), frb 175 180 I I2 → DM (fstS σ ℓ ab nW δ1 r) nr nW I2 → Cp g 3 m_X8_layFloors 0 0 Q 10 [(0, vr 139), (1, vi (q : Int)), (2, vi ((r : Int) + 1))] [] (TT Ls tl) I2 L (RR tl) := fun I2 f2 hD2 => CpL (ih3 (r + 1) _ k' (seen ||| 2 ^ r) I2 (by omega) f2 hV2 hD2 (fun i hi => by rw [e00]; exact hs2 i hi) hc2 hF2) (by repeat (first | exact trivial | refine ⟨rfl, ?_⟩))
            have hnr := x_nearestWoman (g := g) (Ls := Ls) (tl := tl) (L := L) hV hX1 hK1 hab hrn
            have nb : -1 ≤ nearS σ ab nW r ∧ nearS σ ab nW r < nW := amin_rng _ _ _
            by_cases hn : nearS σ ab nW r = -1
            · have ef : fstS σ ℓ ab nW δ1 r = δ1 := by unfold fstS; rw [if_pos hn]
              rw [hn] at hnr
              rw [ef] at go
              refine r_iload_n d_X8_layFloors_10 rfl ?_
              refine r_aload_n d_X8_layFloors_11 rfl ?_
              refine r_geti d_X8_layFloors_12 f_X8_232 (tt_139 _ _) (by decide) (by decide) ?_
              refine r_icmp_ge d_X8_layFloors_15 (by omega) (by omega) (fun c15 => absurd c15 (by omega)) (fun c15 => ?_)
              refine r_aload_n d_X8_layFloors_18 rfl ?_
              refine r_getr d_X8_layFloors_19 f_X8_118 (tt_139 _ _) (by decide) rfl (rr_139_54 _) ?_
              refine r_iload_n d_X8_layFloors_22 rfl ?_
              refine r_ialdJ d_X8_layFloors_23 (tt_174 _ _) rfl (by omega) (kk := ?_)
              rw [g0]
              refine r_iload_n d_X8_layFloors_24 rfl ?_
              refine r_icmp_ne d_X8_layFloors_25 (by omega) (by omega) (fun c25 => absurd c25 (by omega)) (fun c25 => ?_)
              refine r_aload_n d_X8_layFloors_28 rfl ?_
              refine r_iload_n d_X8_layFloors_29 rfl ?_
              refine r_V1i d_X8_layFloors_30 (w_X8_301 _ rfl) (tt_139 _ _) rfl rfl (hnr) (by decide) (Nat.le_of_ble_eq_true rfl) (fun z30 T30 I30 L30 R30 h30 => ?_)
              obtain ⟨rfl, rfl, rfl, rfl, rfl⟩ := h30
              refine r_goto d_X8_layFloors_33 ?_
              refine r_istore_n d_X8_layFloors_37 (by decide) ?_
              refine r_iload_n d_X8_layFloors_38 rfl ?_
              refine r_iconst d_X8_layFloors_39 ?_
              refine r_icmp_eq d_X8_layFloors_40 (by omega) (by omega) (fun c40 => ?_) (fun c40 => absurd c40 (by decide))
              refine r_iinc d_X8_layFloors_58 rfl (by decide) ?_
              refine r_goto d_X8_layFloors_61 ?_
              exact CpL (go I1 f hD1) (by repeat (first | exact trivial | refine ⟨rfl, ?_⟩))
            · obtain ⟨w, hwe⟩ : ∃ w : Nat, nearS σ ab nW r = (w : Int) := ⟨(nearS σ ab nW r).toNat, by omega⟩
              have hw : w < nW := by omega
              have ef : fstS σ ℓ ab nW δ1 r = stepS σ ℓ ab δ1 w r := by unfold fstS; rw [if_neg hn, hwe, Int.toNat_natCast]
              rw [hwe] at hnr
              rw [ef] at go
              unfold stepS at go
              have hm := x_may (g := g) (Ls := Ls) (tl := tl) (L := L) hV hX1 hK1 hab hV1 hD1 hw hrn
              cases hmy : mayS σ ℓ ab δ1 w r with
              | true =>
                rw [hmy, if_pos rfl] at hm go
                refine r_iload_n d_X8_layFloors_10 rfl ?_
                refine r_aload_n d_X8_layFloors_11 rfl ?_
                refine r_geti d_X8_layFloors_12 f_X8_232 (tt_139 _ _) (by decide) (by decide) ?_
                refine r_icmp_ge d_X8_layFloors_15 (by omega) (by omega) (fun c15 => absurd c15 (by omega)) (fun c15 => ?_)
                refine r_aload_n d_X8_layFloors_18 rfl ?_
                refine r_getr d_X8_layFloors_19 f_X8_118 (tt_139 _ _) (by decide) rfl (rr_139_54 _) ?_
                refine r_iload_n d_X8_layFloors_22 rfl ?_
                refine r_ialdJ d_X8_layFloors_23 (tt_174 _ _) rfl (by omega) (kk := ?_)
                rw [g0]
                refine r_iload_n d_X8_layFloors_24 rfl ?_
                refine r_icmp_ne d_X8_layFloors_25 (by omega) (by omega) (fun c25 => absurd c25 (by omega)) (fun c25 => ?_)
                refine r_aload_n d_X8_layFloors_28 rfl ?_
                refine r_iload_n d_X8_layFloors_29 rfl ?_
                refine r_V1i d_X8_layFloors_30 (w_X8_301 _ rfl) (tt_139 _ _) rfl rfl (hnr) (by decide) (Nat.le_of_ble_eq_true rfl) (fun z30 T30 I30 L30 R30 h30 => ?_)
                obtain ⟨rfl, rfl, rfl, rfl, rfl⟩ := h30
                refine r_goto d_X8_layFloors_33 ?_
                refine r_istore_n d_X8_layFloors_37 (by decide) ?_
                refine r_iload_n d_X8_layFloors_38 rfl ?_
                refine r_iconst d_X8_layFloors_39 ?_
                refine r_icmp_eq d_X8_layFloors_40 (by omega) (by omega) (fun c40 => absurd c40 (by omega)) (fun c40 => ?_)
                refine r_aload_n d_X8_layFloors_43 rfl ?_
                refine r_iload_n d_X8_layFloors_44 rfl ?_
                refine r_iload_n d_X8_layFloors_45 rfl ?_
                refine r_V2i d_X8_layFloors_46 (w_X8_291 _ rfl) (tt_139 _ _) rfl rfl (hm) (by decide) (Nat.le_of_ble_eq_true rfl) (fun z46 T46 I46 L46 R46 h46 => ?_)
                obtain ⟨rfl, rfl, rfl, rfl, rfl⟩ := h46
                refine r_if_eq d_X8_layFloors_49 (by omega) (fun c49 => absurd c49 (by decide)) (fun c49 => ?_)
                refine r_aload_n d_X8_layFloors_52 rfl ?_
                refine r_iload_n d_X8_layFloors_53 rfl ?_
                refine r_iload_n d_X8_layFloors_54 rfl ?_
                refine r_V2v d_X8_layFloors_55 (w_X8_295 _ rfl) (tt_139 _ _) rfl rfl (x_doRoom hV hX1 hK1.1 hV1 hD1 hw hrn) (by decide) (Nat.le_of_ble_eq_true rfl) (fun T55 I55 L55 R55 h55 => ?_)
                obtain ⟨rfl, rfl, rfl, y1, y2⟩ := h55
                refine r_iinc d_X8_layFloors_58 rfl (by decide) ?_
                refine r_goto d_X8_layFloors_61 ?_
                exact CpL (go I55 (frb_tr f y1) y2) (by repeat (first | exact trivial | refine ⟨rfl, ?_⟩))
              | false =>
                rw [hmy, if_neg (by decide)] at hm go
                refine r_iload_n d_X8_layFloors_10 rfl ?_
                refine r_aload_n d_X8_layFloors_11 rfl ?_
                refine r_geti d_X8_layFloors_12 f_X8_232 (tt_139 _ _) (by decide) (by decide) ?_
                refine r_icmp_ge d_X8_layFloors_15 (by omega) (by omega) (fun c15 => absurd c15 (by omega)) (fun c15 => ?_)
                refine r_aload_n d_X8_layFloors_18 rfl ?_
                refine r_getr d_X8_layFloors_19 f_X8_118 (tt_139 _ _) (by decide) rfl (rr_139_54 _) ?_
                refine r_iload_n d_X8_layFloors_22 rfl ?_
                refine r_ialdJ d_X8_layFloors_23 (tt_174 _ _) rfl (by omega) (kk := ?_)
                rw [g0]
                refine r_iload_n d_X8_layFloors_24 rfl ?_
                refine r_icmp_ne d_X8_layFloors_25 (by omega) (by omega) (fun c25 => absurd c25 (by omega)) (fun c25 => ?_)
                refine r_aload_n d_X8_layFloors_28 rfl ?_
                refine r_iload_n d_X8_layFloors_29 rfl ?_
                refine r_V1i d_X8_layFloors_30 (w_X8_301 _ rfl) (tt_139 _ _) rfl rfl (hnr) (by decide) (Nat.le_of_ble_eq_true rfl) (fun z30 T30 I30 L30 R30 h30 => ?_)
                obtain ⟨rfl, rfl, rfl, rfl, rfl⟩ := h30
                refine r_goto d_X8_layFloors_33 ?_
                refine r_istore_n d_X8_layFloors_37 (by decide) ?_
                refine r_iload_n d_X8_layFloors_38 rfl ?_
                refine r_iconst d_X8_layFloors_39 ?_
                refine r_icmp_eq d_X8_layFloors_40 (by omega) (by omega) (fun c40 => absurd c40 (by omega)) (fun c40 => ?_)
                refine r_aload_n d_X8_layFloors_43 rfl ?_
                refine r_iload_n d_X8_layFloors_44 rfl ?_
                refine r_iload_n d_X8_layFloors_45 rfl ?_
                refine r_V2i d_X8_layFloors_46 (w_X8_291 _ rfl) (tt_139 _ _) rfl rfl (hm) (by decide) (Nat.le_of_ble_eq_true rfl) (fun z46 T46 I46 L46 R46 h46 => ?_)
                obtain ⟨rfl, rfl, rfl, rfl, rfl⟩ := h46
                refine r_if_eq d_X8_layFloors_49 (by omega) (fun c49 => ?_) (fun c49 => absurd c49 (by decide))
                refine r_iinc d_X8_layFloors_58 rfl (by decide) ?_
                refine r_goto d_X8_layFloors_61 ?_
                exact CpL (go I1 f hD1) (by repeat (first | exact trivial | refine ⟨rfl, ?_⟩))
          · skip
            refine r_iload_n d_X8_layFloors_10 rfl ?_
            refine r_aload_n d_X8_layFloors_11 rfl ?_
            refine r_geti d_X8_layFloors_12 f_X8_232 (tt_139 _ _) (by decide) (by decide) ?_
            refine r_icmp_ge d_X8_layFloors_15 (by omega) (by omega) (fun c15 => absurd c15 (by omega)) (fun c15 => ?_)
            refine r_aload_n d_X8_layFloors_18 rfl ?_
            refine r_getr d_X8_layFloors_19 f_X8_118 (tt_139 _ _) (by decide) rfl (rr_139_54 _) ?_
            refine r_iload_n d_X8_layFloors_22 rfl ?_
            refine r_ialdJ d_X8_layFloors_23 (tt_174 _ _) rfl (by omega) (kk := ?_)
            rw [g0]
            refine r_iload_n d_X8_layFloors_24 rfl ?_
            refine r_icmp_ne d_X8_layFloors_25 (by omega) (by omega) (fun c25 => ?_) (fun c25 => absurd c25 (by exact kq))
            refine r_iconst d_X8_layFloors_36 ?_
            refine r_istore_n d_X8_layFloors_37 (by decide) ?_
            refine r_iload_n d_X8_layFloors_38 rfl ?_
            refine r_iconst d_X8_layFloors_39 ?_
            refine r_icmp_eq d_X8_layFloors_40 (by omega) (by omega) (fun c40 => ?_) (fun c40 => absurd c40 (by decide))
            refine r_iinc d_X8_layFloors_58 rfl (by decide) ?_
            refine r_goto d_X8_layFloors_61 ?_
            refine CpL (ih3 (r + 1) δ1 k seen I1 (by omega) f hV1 hD1 (fun i hi => ?_) hc hF1) (by repeat (first | exact trivial | refine ⟨rfl, ?_⟩))
            rw [hs i hi]
            by_cases e : i = r
            · subst e
              exact decide_eq_decide.mpr (by omega)
            · exact decide_eq_decide.mpr (by omega)
      refine r_iload_n d_X8_layFloors_2 rfl ?_
      refine r_bipush d_X8_layFloors_3 (by decide) ?_
      refine r_icmp_gt d_X8_layFloors_5 (by omega) (by omega) (fun c5 => absurd c5 (by omega)) (fun c5 => ?_)
      refine r_iconst d_X8_layFloors_8 ?_
      refine r_istore_n d_X8_layFloors_9 (by decide) ?_
      refine CpL (inner nr 0 δ1 k seen I1 (by omega) f hV1 hD1 (fun i hi => ?_) hc hF1) (by repeat (first | exact trivial | refine ⟨rfl, ?_⟩))
      rw [hs i hi]
      exact decide_eq_decide.mpr (by omega)
  refine r_iconst d_X8_layFloors_0 ?_
  refine r_istore_n d_X8_layFloors_1 (by decide) ?_
  refine CpL (outer 45 0 δ nr 0 I (by omega) frb_rf hDV hD (fun i hi => ?_) (cn_le _ _) hF.symm) (by repeat (first | exact trivial | refine ⟨rfl, ?_⟩))
  have := (hDV.1 i hi).1
  rw [Nat.zero_testBit, decide_eq_false (by omega)]
theorem x_layTold (hV : MV σ ℓ nr nW ng) (hX : MX σ nr nW ng I) (hK : MK ℓ ab nW I) (hab : -1 ≤ ab ∧ ab ≤ 100) (hDV : DV δ nr nW) (hD : DM δ nr nW I) {l : List (Nat × Nat)} {q : Nat} (hq : q < 8) (hl : SRT l) (hA : TLM l (fun j => I 156 (24 * q + j))) (h8 : ∀ x ∈ l, x.1 < 8) (hl8 : l.length ≤ 8) : Mc g 3 m_X8_layTold 0 0 [vr 139, vi (q : Int)] (TT Ls tl) I L (RR tl) (qV fun T' I' L' R' => T' = TT Ls tl ∧ R' = RR tl ∧ L' = L ∧ frb 175 180 I I' ∧ DM (tdL σ ℓ ab nr nW l δ) nr nW I') := by
  refine Mc_of rfl (Nat.le_of_ble_eq_true rfl) ?_
  obtain ⟨⟨s1, s2, s3, s4, s5⟩, v2, v3, v4⟩ := id hV
  obtain ⟨Q, hQ⟩ : ∃ Q : sQ, Q = (qV fun T' I' L' R' => T' = TT Ls tl ∧ R' = RR tl ∧ L' = L ∧ frb 175 180 I I' ∧ DM (tdL σ ℓ ab nr nW l δ) nr nW I') := ⟨_, rfl⟩
  rw [← hQ]
  obtain ⟨pr, hpr⟩ : ∃ pr : Nat → List (Nat × Nat), pr = fun w => (if 0 < w then flW l 0 else []) ++ (if 1 < w then flW l 1 else []) ++ (if 2 < w then flW l 2 else []) := ⟨_, rfl⟩
  have p3 : pr 3 = l := by rw [hpr]; exact hl.symm
  have psuc : ∀ w, w < 3 → pr (w + 1) = pr w ++ flW l w := fun w hw => by
    rw [hpr]
    rcases (show w = 0 ∨ w = 1 ∨ w = 2 by omega) with rfl | rfl | rfl <;> simp
  have late : ∀ w, w ≤ 3 → nW ≤ w → ∀ d, tdL σ ℓ ab nr nW l d = tdL σ ℓ ab nr nW (pr w) d := by
    intro w hw hn d
    have : ∀ j, w + j ≤ 3 → tdL σ ℓ ab nr nW (pr (w + j)) d = tdL σ ℓ ab nr nW (pr w) d := by
      intro j
      induction j with
      | zero => intro _; rfl
      | succ j ih =>
        intro hj
        rw [show w + (j + 1) = w + j + 1 by omega, psuc (w + j) (by omega)]
        unfold tdL
        rw [List.foldl_append]
        have e2 : ∀ d, (flW l (w + j)).foldl (tdO σ ℓ ab nr nW) d = d := fun d => tdL_skip (flW l (w + j)) d (fun x hx => by
          have hx2 : x ∈ l.filter (fun q => q.2 == w + j) := hx
          have := (List.mem_filter.mp hx2).2
          simp at this
          omega)
        rw [e2]
        exact ih (by omega)
    have h3 := this (3 - w) (by omega)
    rw [show w + (3 - w) = 3 by omega, p3] at h3
    exact h3
  have outer : ∀ (k w : Nat) (I1 : sI), w + k = 3 → frb 175 180 I I1 → DM (tdL σ ℓ ab nr nW (pr w) δ) nr nW I1 → Cp g 3 m_X8_layTold 0 0 Q 2 [(0, vr 139), (1, vi (q : Int)), (2, vi (w : Int))] [] (TT Ls tl) I1 L (RR tl) := by
    intro k
    induction k with
    | zero =>
      intro w I1 hw f hD1
      have hK1 := MK_frb hK f (by omega)
      have e56 : I1 139 56 = (nW : Int) := hK1.2.2
      have hD2 : DM (tdL σ ℓ ab nr nW l δ) nr nW I1 := by rw [← p3, show 3 = w by omega]; exact hD1
      refine r_iload_n d_X8_layTold_2 rfl ?_
      refine r_aload_n d_X8_layTold_3 rfl ?_
      refine r_geti d_X8_layTold_4 f_X8_278 (tt_139 _ _) (by decide) (by decide) ?_
      refine r_icmp_ge d_X8_layTold_7 (by omega) (by omega) (fun c7 => ?_) (fun c7 => ?_)
      · refine r_vret d_X8_layTold_79 rfl ?_
        rw [hQ]
        exact ⟨rfl, rfl, rfl, rfl, f, hD2⟩
      · refine r_iload_n d_X8_layTold_10 rfl ?_
        refine r_iconst d_X8_layTold_11 ?_
        refine r_icmp_ge d_X8_layTold_12 (by omega) (by omega) (fun c12 => ?_) (fun c12 => absurd c12 (by omega))
        refine r_vret d_X8_layTold_79 rfl ?_
        rw [hQ]
        exact ⟨rfl, rfl, rfl, rfl, f, hD2⟩
    | succ k ih =>
      intro w I1 hw f hD1
      have hK1 := MK_frb hK f (by omega)
      have e56 : I1 139 56 = (nW : Int) := hK1.2.2
      by_cases hwn : w < nW
      · obtain ⟨Δ, hΔ⟩ : ∃ Δ, Δ = tdL σ ℓ ab nr nW (pr w) δ := ⟨_, rfl⟩
        have hVΔ : DV Δ nr nW := by rw [hΔ]; exact DV_tdL hV.1 _ _ hDV
        rw [← hΔ] at hD1
        have inner : ∀ (k3 j : Nat) (I1 : sI), j + k3 = 8 → frb 175 180 I I1 → DM (tdL σ ℓ ab nr nW ((flW l w).take j) Δ) nr nW I1 → Cp g 3 m_X8_layTold 0 0 Q 17 [(0, vr 139), (1, vi (q : Int)), (2, vi (w : Int)), (3, vi (j : Int))] [] (TT Ls tl) I1 L (RR tl) := by
          intro k3
          induction k3 with
          | zero =>
            intro j I1 hj f hD1
            have hlen : (flW l w).length ≤ 8 := Nat.le_trans (List.length_filter_le _ _) hl8
            have e1 : tdL σ ℓ ab nr nW (pr (w + 1)) δ = tdL σ ℓ ab nr nW ((flW l w).take j) Δ := by
              rw [psuc w (by omega), List.take_of_length_le (by omega), hΔ]
              unfold tdL
              rw [List.foldl_append]
            refine r_iload_n d_X8_layTold_17 rfl ?_
            refine r_bipush d_X8_layTold_18 (by decide) ?_
            refine r_icmp_ge d_X8_layTold_20 (by omega) (by omega) (fun c20 => ?_) (fun c20 => absurd c20 (by omega))
            refine r_iinc d_X8_layTold_73 rfl (by decide) ?_
            refine r_goto d_X8_layTold_76 ?_
            exact CpL (ih (w + 1) I1 (by omega) f (by rw [e1]; exact hD1)) (by repeat (first | exact trivial | refine ⟨rfl, ?_⟩))
          | succ k3 ih3 =>
            intro j I1 hj f hD1
            have hX1 := MX_frb hX f (by omega)
            have hK1 := MK_frb hK f (by omega)
            have hA1 : I1 156 (24 * q + (8 * w + j)) = match (flW l w)[j]? with
              | some q => (q.1 : Int)
              | none => -1 := by rw [f 156 (by omega)]; exact hA w (by omega) j (by omega)
            obtain ⟨Δ1, hΔ1⟩ : ∃ Δ1, Δ1 = tdL σ ℓ ab nr nW ((flW l w).take j) Δ := ⟨_, rfl⟩
            have hV1 : DV Δ1 nr nW := by rw [hΔ1]; exact DV_tdL hV.1 _ _ hVΔ
            rw [← hΔ1] at hD1
            cases hx : (flW l w)[j]? with
            | none =>
              rw [hx] at hA1
              have e1 : (flW l w).take (j + 1) = (flW l w).take j := by rw [List.take_succ, hx]; simp
              have hA2 : I1 156 (24 * q + (8 * w + j)) = -1 := hA1
              have hir := x_isRoom (g := g) (Ls := Ls) (tl := tl) (I := I1) (L := L) (r := -1) (by omega) hX1.1 s1
              rw [if_neg (by omega)] at hir
              refine r_iload_n d_X8_layTold_17 rfl ?_
              refine r_bipush d_X8_layTold_18 (by decide) ?_
              refine r_icmp_ge d_X8_layTold_20 (by omega) (by omega) (fun c20 => absurd c20 (by omega)) (fun c20 => ?_)
              refine r_aload_n d_X8_layTold_23 rfl ?_
              refine r_getr d_X8_layTold_24 f_X8_63 (tt_139 _ _) (by decide) rfl (rr_139_22 _) ?_
              refine r_bipush d_X8_layTold_27 (by decide) ?_
              refine r_iload_n d_X8_layTold_29 rfl ?_
              refine r_imul d_X8_layTold_30 ?_
              refine r_bipush d_X8_layTold_31 (by decide) ?_
              refine r_iload_n d_X8_layTold_33 rfl ?_
              refine r_imul d_X8_layTold_34 ?_
              refine r_iadd d_X8_layTold_35 ?_
              refine r_iload_n d_X8_layTold_36 rfl ?_
              refine r_iadd d_X8_layTold_37 ?_
              refine r_ialdJ (j := 24 * q + (8 * w + j)) d_X8_layTold_38 (tt_156 _ _) (by omega) (by omega) (kk := ?_)
              rw [hA2]
              refine r_istore d_X8_layTold_39 (by decide) ?_
              refine r_aload_n d_X8_layTold_41 rfl ?_
              refine r_iload d_X8_layTold_42 rfl ?_
              refine r_V1i d_X8_layTold_44 (w_X8_253 _ rfl) (tt_139 _ _) rfl rfl (hir) (by decide) (Nat.le_of_ble_eq_true rfl) (fun z44 T44 I44 L44 R44 h44 => ?_)
              obtain ⟨rfl, rfl, rfl, rfl, rfl⟩ := h44
              refine r_if_eq d_X8_layTold_47 (by omega) (fun c47 => ?_) (fun c47 => absurd c47 (by decide))
              refine r_iinc d_X8_layTold_67 rfl (by decide) ?_
              refine r_goto d_X8_layTold_70 ?_
              exact CpL (ih3 (j + 1) I1 (by omega) f (by rw [e1, ← hΔ1]; exact hD1)) (by repeat (first | exact trivial | refine ⟨rfl, ?_⟩))
            | some x =>
              rw [hx] at hA1
              have e1 : (flW l w).take (j + 1) = (flW l w).take j ++ [x] := by rw [List.take_succ, hx]; rfl
              have hxw : x.2 = w := by
                have h1 : x ∈ l.filter (fun q => q.2 == w) := List.mem_of_getElem? hx
                simpa using (List.mem_filter.mp h1).2
              have hx8 : x.1 < 8 := h8 x (by
                have h1 : x ∈ l.filter (fun q => q.2 == w) := List.mem_of_getElem? hx
                exact (List.mem_filter.mp h1).1)
              have hA2 : I1 156 (24 * q + (8 * w + j)) = (x.1 : Int) := hA1
              have e2 : tdL σ ℓ ab nr nW ((flW l w).take (j + 1)) Δ = if x.1 < nr then stepS σ ℓ ab Δ1 w x.1 else Δ1 := by
                rw [e1, hΔ1]
                unfold tdL
                rw [List.foldl_append]
                show tdO σ ℓ ab nr nW _ x = _
                unfold tdO
                rw [hxw]
                by_cases c : x.1 < nr
                · rw [if_pos ⟨hwn, c⟩, if_pos c]
                · rw [if_neg (fun p => c p.2), if_neg c]
              have hir := x_isRoom (g := g) (Ls := Ls) (tl := tl) (I := I1) (L := L) (r := (x.1 : Int)) (by omega) hX1.1 s1
              by_cases c : x.1 < nr
              · rw [if_pos c] at e2
                rw [if_pos (by omega)] at hir
                unfold stepS at e2
                have hm := x_may (g := g) (Ls := Ls) (tl := tl) (L := L) hV hX1 hK1 hab hV1 hD1 hwn c
                cases hmy : mayS σ ℓ ab Δ1 w x.1 with
                | true =>
                  rw [hmy, if_pos rfl] at hm e2
                  refine r_iload_n d_X8_layTold_17 rfl ?_
                  refine r_bipush d_X8_layTold_18 (by decide) ?_
                  refine r_icmp_ge d_X8_layTold_20 (by omega) (by omega) (fun c20 => absurd c20 (by omega)) (fun c20 => ?_)
                  refine r_aload_n d_X8_layTold_23 rfl ?_
                  refine r_getr d_X8_layTold_24 f_X8_63 (tt_139 _ _) (by decide) rfl (rr_139_22 _) ?_
                  refine r_bipush d_X8_layTold_27 (by decide) ?_
                  refine r_iload_n d_X8_layTold_29 rfl ?_
                  refine r_imul d_X8_layTold_30 ?_
                  refine r_bipush d_X8_layTold_31 (by decide) ?_
                  refine r_iload_n d_X8_layTold_33 rfl ?_
                  refine r_imul d_X8_layTold_34 ?_
                  refine r_iadd d_X8_layTold_35 ?_
                  refine r_iload_n d_X8_layTold_36 rfl ?_
                  refine r_iadd d_X8_layTold_37 ?_
                  refine r_ialdJ (j := 24 * q + (8 * w + j)) d_X8_layTold_38 (tt_156 _ _) (by omega) (by omega) (kk := ?_)
                  rw [hA2]
                  refine r_istore d_X8_layTold_39 (by decide) ?_
                  refine r_aload_n d_X8_layTold_41 rfl ?_
                  refine r_iload d_X8_layTold_42 rfl ?_
                  refine r_V1i d_X8_layTold_44 (w_X8_253 _ rfl) (tt_139 _ _) rfl rfl (hir) (by decide) (Nat.le_of_ble_eq_true rfl) (fun z44 T44 I44 L44 R44 h44 => ?_)
                  obtain ⟨rfl, rfl, rfl, rfl, rfl⟩ := h44
                  refine r_if_eq d_X8_layTold_47 (by omega) (fun c47 => absurd c47 (by decide)) (fun c47 => ?_)
                  refine r_aload_n d_X8_layTold_50 rfl ?_
                  refine r_iload_n d_X8_layTold_51 rfl ?_
                  refine r_iload d_X8_layTold_52 rfl ?_
                  refine r_V2i d_X8_layTold_54 (w_X8_291 _ rfl) (tt_139 _ _) rfl rfl (hm) (by decide) (Nat.le_of_ble_eq_true rfl) (fun z54 T54 I54 L54 R54 h54 => ?_)
                  obtain ⟨rfl, rfl, rfl, rfl, rfl⟩ := h54
                  refine r_if_eq d_X8_layTold_57 (by omega) (fun c57 => absurd c57 (by decide)) (fun c57 => ?_)
                  refine r_aload_n d_X8_layTold_60 rfl ?_
                  refine r_iload_n d_X8_layTold_61 rfl ?_
                  refine r_iload d_X8_layTold_62 rfl ?_
                  refine r_V2v d_X8_layTold_64 (w_X8_295 _ rfl) (tt_139 _ _) rfl rfl (x_doRoom hV hX1 hK1.1 hV1 hD1 hwn c) (by decide) (Nat.le_of_ble_eq_true rfl) (fun T64 I64 L64 R64 h64 => ?_)
                  obtain ⟨rfl, rfl, rfl, y1, y2⟩ := h64
                  refine r_iinc d_X8_layTold_67 rfl (by decide) ?_
                  refine r_goto d_X8_layTold_70 ?_
                  exact CpL (ih3 (j + 1) I64 (by omega) (frb_tr f y1) (by rw [e2]; exact y2)) (by repeat (first | exact trivial | refine ⟨rfl, ?_⟩))
                | false =>
                  rw [hmy, if_neg (by decide)] at hm e2
                  refine r_iload_n d_X8_layTold_17 rfl ?_
                  refine r_bipush d_X8_layTold_18 (by decide) ?_
                  refine r_icmp_ge d_X8_layTold_20 (by omega) (by omega) (fun c20 => absurd c20 (by omega)) (fun c20 => ?_)
                  refine r_aload_n d_X8_layTold_23 rfl ?_
                  refine r_getr d_X8_layTold_24 f_X8_63 (tt_139 _ _) (by decide) rfl (rr_139_22 _) ?_
                  refine r_bipush d_X8_layTold_27 (by decide) ?_
                  refine r_iload_n d_X8_layTold_29 rfl ?_
                  refine r_imul d_X8_layTold_30 ?_
                  refine r_bipush d_X8_layTold_31 (by decide) ?_
                  refine r_iload_n d_X8_layTold_33 rfl ?_
                  refine r_imul d_X8_layTold_34 ?_
                  refine r_iadd d_X8_layTold_35 ?_
                  refine r_iload_n d_X8_layTold_36 rfl ?_
                  refine r_iadd d_X8_layTold_37 ?_
                  refine r_ialdJ (j := 24 * q + (8 * w + j)) d_X8_layTold_38 (tt_156 _ _) (by omega) (by omega) (kk := ?_)
                  rw [hA2]
                  refine r_istore d_X8_layTold_39 (by decide) ?_
                  refine r_aload_n d_X8_layTold_41 rfl ?_
                  refine r_iload d_X8_layTold_42 rfl ?_
                  refine r_V1i d_X8_layTold_44 (w_X8_253 _ rfl) (tt_139 _ _) rfl rfl (hir) (by decide) (Nat.le_of_ble_eq_true rfl) (fun z44 T44 I44 L44 R44 h44 => ?_)
                  obtain ⟨rfl, rfl, rfl, rfl, rfl⟩ := h44
                  refine r_if_eq d_X8_layTold_47 (by omega) (fun c47 => absurd c47 (by decide)) (fun c47 => ?_)
                  refine r_aload_n d_X8_layTold_50 rfl ?_
                  refine r_iload_n d_X8_layTold_51 rfl ?_
                  refine r_iload d_X8_layTold_52 rfl ?_
                  refine r_V2i d_X8_layTold_54 (w_X8_291 _ rfl) (tt_139 _ _) rfl rfl (hm) (by decide) (Nat.le_of_ble_eq_true rfl) (fun z54 T54 I54 L54 R54 h54 => ?_)
                  obtain ⟨rfl, rfl, rfl, rfl, rfl⟩ := h54
                  refine r_if_eq d_X8_layTold_57 (by omega) (fun c57 => ?_) (fun c57 => absurd c57 (by decide))
                  refine r_iinc d_X8_layTold_67 rfl (by decide) ?_
                  refine r_goto d_X8_layTold_70 ?_
                  exact CpL (ih3 (j + 1) I1 (by omega) f (by rw [e2]; exact hD1)) (by repeat (first | exact trivial | refine ⟨rfl, ?_⟩))
              · rw [if_neg c] at e2
                rw [if_neg (by omega)] at hir
                refine r_iload_n d_X8_layTold_17 rfl ?_
                refine r_bipush d_X8_layTold_18 (by decide) ?_
                refine r_icmp_ge d_X8_layTold_20 (by omega) (by omega) (fun c20 => absurd c20 (by omega)) (fun c20 => ?_)
                refine r_aload_n d_X8_layTold_23 rfl ?_
                refine r_getr d_X8_layTold_24 f_X8_63 (tt_139 _ _) (by decide) rfl (rr_139_22 _) ?_
                refine r_bipush d_X8_layTold_27 (by decide) ?_
                refine r_iload_n d_X8_layTold_29 rfl ?_
                refine r_imul d_X8_layTold_30 ?_
                refine r_bipush d_X8_layTold_31 (by decide) ?_
                refine r_iload_n d_X8_layTold_33 rfl ?_
                refine r_imul d_X8_layTold_34 ?_
                refine r_iadd d_X8_layTold_35 ?_
                refine r_iload_n d_X8_layTold_36 rfl ?_
                refine r_iadd d_X8_layTold_37 ?_
                refine r_ialdJ (j := 24 * q + (8 * w + j)) d_X8_layTold_38 (tt_156 _ _) (by omega) (by omega) (kk := ?_)
                rw [hA2]
                refine r_istore d_X8_layTold_39 (by decide) ?_
                refine r_aload_n d_X8_layTold_41 rfl ?_
                refine r_iload d_X8_layTold_42 rfl ?_
                refine r_V1i d_X8_layTold_44 (w_X8_253 _ rfl) (tt_139 _ _) rfl rfl (hir) (by decide) (Nat.le_of_ble_eq_true rfl) (fun z44 T44 I44 L44 R44 h44 => ?_)
                obtain ⟨rfl, rfl, rfl, rfl, rfl⟩ := h44
                refine r_if_eq d_X8_layTold_47 (by omega) (fun c47 => ?_) (fun c47 => absurd c47 (by decide))
                refine r_iinc d_X8_layTold_67 rfl (by decide) ?_
                refine r_goto d_X8_layTold_70 ?_
                exact CpL (ih3 (j + 1) I1 (by omega) f (by rw [e2]; exact hD1)) (by repeat (first | exact trivial | refine ⟨rfl, ?_⟩))
        refine r_iload_n d_X8_layTold_2 rfl ?_
        refine r_aload_n d_X8_layTold_3 rfl ?_
        refine r_geti d_X8_layTold_4 f_X8_278 (tt_139 _ _) (by decide) (by decide) ?_
        refine r_icmp_ge d_X8_layTold_7 (by omega) (by omega) (fun c7 => absurd c7 (by omega)) (fun c7 => ?_)
        refine r_iload_n d_X8_layTold_10 rfl ?_
        refine r_iconst d_X8_layTold_11 ?_
        refine r_icmp_ge d_X8_layTold_12 (by omega) (by omega) (fun c12 => absurd c12 (by omega)) (fun c12 => ?_)
        refine r_iconst d_X8_layTold_15 ?_
        refine r_istore_n d_X8_layTold_16 (by decide) ?_
        exact CpL (inner 8 0 I1 (by omega) f hD1) (by repeat (first | exact trivial | refine ⟨rfl, ?_⟩))
      · have hD2 : DM (tdL σ ℓ ab nr nW l δ) nr nW I1 := by rw [late w (by omega) (by omega)]; exact hD1
        refine r_iload_n d_X8_layTold_2 rfl ?_
        refine r_aload_n d_X8_layTold_3 rfl ?_
        refine r_geti d_X8_layTold_4 f_X8_278 (tt_139 _ _) (by decide) (by decide) ?_
        refine r_icmp_ge d_X8_layTold_7 (by omega) (by omega) (fun c7 => ?_) (fun c7 => absurd c7 (by omega))
        refine r_vret d_X8_layTold_79 rfl ?_
        rw [hQ]
        exact ⟨rfl, rfl, rfl, rfl, f, hD2⟩
  refine r_iconst d_X8_layTold_0 ?_
  refine r_istore_n d_X8_layTold_1 (by decide) ?_
  exact CpL (outer 3 0 I (by omega) frb_rf (by rw [hpr]; exact hD)) (by repeat (first | exact trivial | refine ⟨rfl, ?_⟩))
end X81
