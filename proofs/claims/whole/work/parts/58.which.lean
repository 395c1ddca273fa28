/-- which of n rules costs least -/
def whX (S : Nat → Int) : Nat → Int × Int
  | 0 => (-1, 0)
  | n + 1 => if (whX S n).1 = -1 ∨ S n < (whX S n).2 then ((n : Int), S n) else whX S n
theorem wh_congr {S S' : Nat → Int} : ∀ n, (∀ i, i < n → S i = S' i) → whX S n = whX S' n
  | 0, _ => rfl
  | n + 1, h => by
    unfold whX
    rw [wh_congr n (fun i hi => h i (by omega)), h n (by omega)]
theorem wh_rg {S : Nat → Int} : ∀ n, -1 ≤ (whX S n).1 ∧ (whX S n).1 < n
  | 0 => by show (-1 : Int) ≤ -1 ∧ (-1 : Int) < _; omega
  | n + 1 => by
    have ih := wh_rg (S := S) n
    unfold whX
    split
    · show -1 ≤ (n : Int) ∧ (n : Int) < _; omega
    · omega
def whF (nr : Nat) (how q : Int) : Int := if 0 < nr then (if how = 0 ∨ how = 1 then (if q < 16 then 0 else -103) else -102) else -103
def aWhich (σ : Sg) (ℓ : Int) (nr nw ng : Nat) (tl : List Nat) (ukd unn : Nat → Int) (utr utw : Nat → Nat → Nat) (how q z q' : Int) : Prop := (whF nr how q ≠ 0 → z = whF nr how q ∧ q' = q) ∧ (whF nr how q = 0 → q' = q + 1 ∧ ∃ S, (∀ i, i < tl.length → CW σ ℓ (-1) nr nw ng (ukd i) (unn i) (utr i) (utw i) (tl.getD i 0) how (S i)) ∧ z = (whX S tl.length).1)
section C58
variable {g : sG} {Ls : Nat} {tl : List Nat} {I L : sI} {σ : Sg} {ℓ : Int} {nr nw ng : Nat} {ukd unn : Nat → Int} {utr utw : Nat → Nat → Nat}
theorem c_which (hX : XS σ ℓ nr nw ng tl ukd unn utr utw I L) {how q : Int} (hh : i32 how) (hq : I 3 12 = q) (hq2 : 0 ≤ q ∧ q ≤ 16) : Mc g 13 m_X7_which 0 0 [vr 3, vi how] (TT Ls tl) I L (RR tl) (AK σ ℓ nr nw ng Ls tl ukd unn utr utw I L (aWhich σ ℓ nr nw ng tl ukd unn utr utw how q)) := by
  refine Mc_of rfl (Nat.le_of_ble_eq_true rfl) ?_
  obtain ⟨hB, hR⟩ := id hX
  obtain ⟨b1, b2, b3, b4, b5, b6, b7, b8⟩ := id hB
  obtain ⟨v1, v2, v3, v4, v5, v6, v7⟩ := id b1
  have e3 : I 8 3 = (nr : Int) := b3.1
  have hc2 := c_isHoused (g := g) (Ls := Ls) (tl := tl) (I := I) (L := L) (by omega)
  rw [e3] at hc2
  have h8 := hR.2.1
  obtain ⟨D, hD⟩ : ∃ D, D = whF nr how q := ⟨_, rfl⟩
  have no : ∀ z : Int, z = D → z ≠ 0 → AK σ ℓ nr nw ng Ls tl ukd unn utr utw I L (aWhich σ ℓ nr nw ng tl ukd unn utr utw how q) (some (vi z)) (TT Ls tl) I L (RR tl) := fun z h1 h2 => AK_no hX hq ⟨fun _ => ⟨by rw [h1, hD], rfl⟩, fun h => absurd (by rw [h1, hD]; exact h) h2⟩
  unfold whF at hD
  by_cases k2 : 0 < nr
  · rw [if_pos (by omega)] at hc2
    rw [if_pos k2] at hD
    by_cases k4 : how = 0 ∨ how = 1
    · rw [if_pos k4] at hD
      by_cases k5 : q < 16
      · have hz : whF nr how q = 0 := by unfold whF; rw [if_pos k2, if_pos k4, if_pos k5]
        have hX1 := XS_ask (v := q + 1) hX
        obtain ⟨J, hJ⟩ : ∃ J, J = up2 I 3 12 (q + 1) := ⟨_, rfl⟩
        rw [← hJ] at hX1
        have loop : ∀ (k b : Nat) (S : Nat → Int) (I1 L1 : sI), b + k = tl.length → frb 70 137 J I1 → frb 81 120 L L1 → XB σ ℓ (-1) nr nw nw ng I1 L1 → (∀ i, i < b → CW σ ℓ (-1) nr nw ng (ukd i) (unn i) (utr i) (utw i) (tl.getD i 0) how (S i)) → (-100000000 ≤ (whX S b).2 ∧ (whX S b).2 ≤ 100000000) → Cp g 13 m_X7_which 0 0 (AK σ ℓ nr nw ng Ls tl ukd unn utr utw I L (aWhich σ ℓ nr nw ng tl ukd unn utr utw how q)) 49 [(0, vr 3), (1, vi how), (2, vi (whX S b).2), (3, vi (whX S b).1), (4, vi (b : Int))] [] (TT Ls tl) I1 L1 (RR tl) := by
          intro k
          induction k with
          | zero =>
            intro b S I1 L1 hbk f1 f2 hB1 hS hbd
            have hR1 := RX_frb hX1.2 f1 (by omega) (by omega)
            have e4 := hR1.1
            have hb : b = tl.length := by omega
            refine r_iload d_X7_which_49 rfl ?_
            refine r_aload_n d_X7_which_51 rfl ?_
            refine r_geti d_X7_which_52 f_X7_97 (tt_3 _ _) (by decide) (by decide) ?_
            refine r_icmp_ge d_X7_which_55 (by omega) (by omega) (fun c55 => ?_) (fun c55 => absurd c55 (by omega))
            refine r_iload_n d_X7_which_95 rfl ?_
            refine r_iret d_X7_which_96 rfl ?_
            refine ⟨_, rfl, rfl, rfl, fun a h1 h2 => ?_, fun k hk => ?_, f2, ⟨hB1, hR1⟩, fun h => absurd hz h, fun _ => ⟨?_, S, by rw [← hb]; exact hS, by rw [hb]⟩⟩
            · rw [f1 a (by omega), hJ]; exact up2_ne _ _ h1
            · rw [f1 3 (by omega), hJ]; exact up2_nj _ _ hk
            · rw [f1 3 (by omega), hJ]; exact up2_at _ _ _ _
          | succ k ih =>
            intro b S I1 L1 hbk f1 f2 hB1 hS hbd
            have hR1 := RX_frb hX1.2 f1 (by omega) (by omega)
            have e4 := hR1.1
            have hb : b < tl.length := by omega
            have hU := hR1.2.2 b hb
            have hql := hU.1
            have hwr := wh_rg (S := S) b
            refine r_iload d_X7_which_49 rfl ?_
            refine r_aload_n d_X7_which_51 rfl ?_
            refine r_geti d_X7_which_52 f_X7_97 (tt_3 _ _) (by decide) (by decide) ?_
            refine r_icmp_ge d_X7_which_55 (by omega) (by omega) (fun c55 => absurd c55 (by omega)) (fun c55 => ?_)
            refine r_aload_n d_X7_which_58 rfl ?_
            refine r_aload_n d_X7_which_59 rfl ?_
            refine r_getr d_X7_which_60 f_X7_28 (tt_3 _ _) (by decide) rfl (rr_3_3 _) ?_
            refine r_iload d_X7_which_63 rfl ?_
            refine r_aaldJ d_X7_which_65 (tt_62 _ _) (by decide) rfl (by omega) (rrr_62 (by exact hb)) (kk := ?_)
            refine r_iload_n d_X7_which_66 rfl ?_
            refine r_V2i d_X7_which_67 (w_X7_203 _ rfl) (tt_3 _ _) rfl rfl (c_costOverWays hB1 k2 hU k4) (by decide) (Nat.le_of_ble_eq_true rfl) (fun z67 T67 I67 L67 R67 h67 => ?_)
            obtain ⟨rfl, rfl, y1, y2, hB2, hcw⟩ := h67
            have hcw' : CW σ ℓ (-1) nr nw ng (ukd b) (unn b) (utr b) (utw b) (tl.getD b 0) how z67 := hcw
            have hbz := CW_bd b1 b2 hcw'
            obtain ⟨S', sb, sn⟩ : ∃ S' : Nat → Int, S' b = z67 ∧ ∀ i, i ≠ b → S' i = S i := ⟨fun i => if i = b then z67 else S i, if_pos rfl, fun i hi => if_neg hi⟩
            have hS' : ∀ i, i < b + 1 → CW σ ℓ (-1) nr nw ng (ukd i) (unn i) (utr i) (utw i) (tl.getD i 0) how (S' i) := by
              intro i hi
              by_cases e2 : i = b
              · rw [e2, sb]; exact hcw'
              · rw [sn _ e2]; exact hS i (by omega)
            have es : whX S' (b + 1) = (if (whX S b).1 = -1 ∨ z67 < (whX S b).2 then ((b : Int), z67) else whX S b) := by
              have e0 : whX S' b = whX S b := wh_congr b (fun i hi => sn i (by omega))
              show (if (whX S' b).1 = -1 ∨ S' b < (whX S' b).2 then ((b : Int), S' b) else whX S' b) = _
              rw [e0, sb]
            refine r_istore d_X7_which_70 (by decide) ?_
            refine r_iload_n d_X7_which_72 rfl ?_
            refine r_iconst d_X7_which_73 ?_
            refine r_icmp_eq d_X7_which_74 (by omega) (by omega) (fun c74 => ?_) (fun c74 => ?_)
            · refine r_iload d_X7_which_83 rfl ?_
              refine r_istore_n d_X7_which_85 (by decide) ?_
              refine r_iload d_X7_which_86 rfl ?_
              refine r_istore_n d_X7_which_88 (by decide) ?_
              refine r_iinc d_X7_which_89 rfl (by decide) ?_
              refine r_goto d_X7_which_92 ?_
              first
              | have e9 : whX S' (b + 1) = ((b : Int), z67) := by rw [es, if_pos (Or.inl (by omega))]
                exact CpL (ih (b + 1) S' I67 L67 (by omega) (frb_tr f1 y1) (frb_tr f2 y2) hB2 hS' (by rw [e9]; show _ ≤ z67 ∧ z67 ≤ _; omega)) (by repeat (first | exact trivial | refine ⟨rfl, ?_⟩ | refine ⟨by rw [e9]; rfl, ?_⟩))
              | have e9 : whX S' (b + 1) = ((b : Int), z67) := by rw [es, if_pos (Or.inr (by omega))]
                exact CpL (ih (b + 1) S' I67 L67 (by omega) (frb_tr f1 y1) (frb_tr f2 y2) hB2 hS' (by rw [e9]; show _ ≤ z67 ∧ z67 ≤ _; omega)) (by repeat (first | exact trivial | refine ⟨rfl, ?_⟩ | refine ⟨by rw [e9]; rfl, ?_⟩))
              | have e9 : whX S' (b + 1) = whX S b := by rw [es, if_neg (by omega)]
                exact CpL (ih (b + 1) S' I67 L67 (by omega) (frb_tr f1 y1) (frb_tr f2 y2) hB2 hS' (by rw [e9]; exact hbd)) (by repeat (first | exact trivial | refine ⟨rfl, ?_⟩ | refine ⟨by rw [e9]; rfl, ?_⟩))
            · refine r_iload d_X7_which_77 rfl ?_
              refine r_iload_n d_X7_which_79 rfl ?_
              refine r_icmp_ge d_X7_which_80 (by omega) (by omega) (fun c80 => ?_) (fun c80 => ?_)
              · refine r_iinc d_X7_which_89 rfl (by decide) ?_
                refine r_goto d_X7_which_92 ?_
                first
                | have e9 : whX S' (b + 1) = ((b : Int), z67) := by rw [es, if_pos (Or.inl (by omega))]
                  exact CpL (ih (b + 1) S' I67 L67 (by omega) (frb_tr f1 y1) (frb_tr f2 y2) hB2 hS' (by rw [e9]; show _ ≤ z67 ∧ z67 ≤ _; omega)) (by repeat (first | exact trivial | refine ⟨rfl, ?_⟩ | refine ⟨by rw [e9]; rfl, ?_⟩))
                | have e9 : whX S' (b + 1) = ((b : Int), z67) := by rw [es, if_pos (Or.inr (by omega))]
                  exact CpL (ih (b + 1) S' I67 L67 (by omega) (frb_tr f1 y1) (frb_tr f2 y2) hB2 hS' (by rw [e9]; show _ ≤ z67 ∧ z67 ≤ _; omega)) (by repeat (first | exact trivial | refine ⟨rfl, ?_⟩ | refine ⟨by rw [e9]; rfl, ?_⟩))
                | have e9 : whX S' (b + 1) = whX S b := by rw [es, if_neg (by omega)]
                  exact CpL (ih (b + 1) S' I67 L67 (by omega) (frb_tr f1 y1) (frb_tr f2 y2) hB2 hS' (by rw [e9]; exact hbd)) (by repeat (first | exact trivial | refine ⟨rfl, ?_⟩ | refine ⟨by rw [e9]; rfl, ?_⟩))
              · refine r_iload d_X7_which_83 rfl ?_
                refine r_istore_n d_X7_which_85 (by decide) ?_
                refine r_iload d_X7_which_86 rfl ?_
                refine r_istore_n d_X7_which_88 (by decide) ?_
                refine r_iinc d_X7_which_89 rfl (by decide) ?_
                refine r_goto d_X7_which_92 ?_
                first
                | have e9 : whX S' (b + 1) = ((b : Int), z67) := by rw [es, if_pos (Or.inl (by omega))]
                  exact CpL (ih (b + 1) S' I67 L67 (by omega) (frb_tr f1 y1) (frb_tr f2 y2) hB2 hS' (by rw [e9]; show _ ≤ z67 ∧ z67 ≤ _; omega)) (by repeat (first | exact trivial | refine ⟨rfl, ?_⟩ | refine ⟨by rw [e9]; rfl, ?_⟩))
                | have e9 : whX S' (b + 1) = ((b : Int), z67) := by rw [es, if_pos (Or.inr (by omega))]
                  exact CpL (ih (b + 1) S' I67 L67 (by omega) (frb_tr f1 y1) (frb_tr f2 y2) hB2 hS' (by rw [e9]; show _ ≤ z67 ∧ z67 ≤ _; omega)) (by repeat (first | exact trivial | refine ⟨rfl, ?_⟩ | refine ⟨by rw [e9]; rfl, ?_⟩))
                | have e9 : whX S' (b + 1) = whX S b := by rw [es, if_neg (by omega)]
                  exact CpL (ih (b + 1) S' I67 L67 (by omega) (frb_tr f1 y1) (frb_tr f2 y2) hB2 hS' (by rw [e9]; exact hbd)) (by repeat (first | exact trivial | refine ⟨rfl, ?_⟩ | refine ⟨by rw [e9]; rfl, ?_⟩))
        refine r_aload_n d_X7_which_0 rfl ?_
        refine r_V0i d_X7_which_1 (w_X7_157 _ rfl) (tt_3 _ _) rfl rfl (hc2) (by decide) (Nat.le_of_ble_eq_true rfl) (fun z1 T1 I1 L1 R1 h1 => ?_)
        obtain ⟨rfl, rfl, rfl, rfl, rfl⟩ := h1
        refine r_if_ne d_X7_which_4 (by omega) (fun c4 => ?_) (fun c4 => absurd c4 (by decide))
        refine r_iload_n d_X7_which_10 rfl ?_
        refine r_S1i d_X7_which_11 (w_X7_183 _ rfl) (c_isGiving hh) (by decide) (Nat.le_of_ble_eq_true rfl) (fun z11 T11 I11 L11 R11 h11 => ?_)
        obtain ⟨rfl, rfl, rfl, rfl, rfl⟩ := h11
        refine r_if_ne d_X7_which_14 (by split <;> omega) (fun c14 => ?_) (fun c14 => absurd c14 (by rw [if_pos k4]; decide))
        refine r_aload_n d_X7_which_20 rfl ?_
        refine r_geti d_X7_which_21 f_X7_244 (tt_3 _ _) (by decide) (by decide) ?_
        rw [hq]
        refine r_bipush d_X7_which_24 (by decide) ?_
        refine r_icmp_lt d_X7_which_26 (by omega) (by omega) (fun c26 => ?_) (fun c26 => absurd c26 (by omega))
        refine r_aload_n d_X7_which_32 rfl ?_
        refine r_dup d_X7_which_33 rfl ?_
        refine r_geti d_X7_which_34 f_X7_244 (tt_3 _ _) (by decide) (by decide) ?_
        refine r_iconst d_X7_which_37 ?_
        refine r_iadd d_X7_which_38 ?_
        rw [hq]
        refine r_puti d_X7_which_39 f_X7_244 (tt_3 _ _) (by decide) (Or.inl rfl) ?_
        rw [← hJ]
        refine r_iconst d_X7_which_42 ?_
        refine r_istore_n d_X7_which_43 (by decide) ?_
        refine r_iconst d_X7_which_44 ?_
        refine r_istore_n d_X7_which_45 (by decide) ?_
        refine r_iconst d_X7_which_46 ?_
        refine r_istore d_X7_which_47 (by decide) ?_
        exact CpL (loop tl.length 0 (fun _ => 0) J L (by omega) frb_rf frb_rf hX1.1 (fun i h => absurd h (by omega)) (by show (-100000000 : Int) ≤ 0 ∧ (0 : Int) ≤ 100000000; omega)) (by repeat (first | exact trivial | refine ⟨rfl, ?_⟩))
      · rw [if_neg k5] at hD
        have e := no (-103) hD.symm (by decide)
        refine r_aload_n d_X7_which_0 rfl ?_
        refine r_V0i d_X7_which_1 (w_X7_157 _ rfl) (tt_3 _ _) rfl rfl (hc2) (by decide) (Nat.le_of_ble_eq_true rfl) (fun z1 T1 I1 L1 R1 h1 => ?_)
        obtain ⟨rfl, rfl, rfl, rfl, rfl⟩ := h1
        refine r_if_ne d_X7_which_4 (by omega) (fun c4 => ?_) (fun c4 => absurd c4 (by decide))
        refine r_iload_n d_X7_which_10 rfl ?_
        refine r_S1i d_X7_which_11 (w_X7_183 _ rfl) (c_isGiving hh) (by decide) (Nat.le_of_ble_eq_true rfl) (fun z11 T11 I11 L11 R11 h11 => ?_)
        obtain ⟨rfl, rfl, rfl, rfl, rfl⟩ := h11
        refine r_if_ne d_X7_which_14 (by split <;> omega) (fun c14 => ?_) (fun c14 => absurd c14 (by rw [if_pos k4]; decide))
        refine r_aload_n d_X7_which_20 rfl ?_
        refine r_geti d_X7_which_21 f_X7_244 (tt_3 _ _) (by decide) (by decide) ?_
        rw [hq]
        refine r_bipush d_X7_which_24 (by decide) ?_
        refine r_icmp_lt d_X7_which_26 (by omega) (by omega) (fun c26 => absurd c26 (by omega)) (fun c26 => ?_)
        refine r_bipush d_X7_which_29 (by decide) ?_
        refine r_iret d_X7_which_31 rfl ?_
        exact e
    · rw [if_neg k4] at hD
      have e := no (-102) hD.symm (by decide)
      refine r_aload_n d_X7_which_0 rfl ?_
      refine r_V0i d_X7_which_1 (w_X7_157 _ rfl) (tt_3 _ _) rfl rfl (hc2) (by decide) (Nat.le_of_ble_eq_true rfl) (fun z1 T1 I1 L1 R1 h1 => ?_)
      obtain ⟨rfl, rfl, rfl, rfl, rfl⟩ := h1
      refine r_if_ne d_X7_which_4 (by omega) (fun c4 => ?_) (fun c4 => absurd c4 (by decide))
      refine r_iload_n d_X7_which_10 rfl ?_
      refine r_S1i d_X7_which_11 (w_X7_183 _ rfl) (c_isGiving hh) (by decide) (Nat.le_of_ble_eq_true rfl) (fun z11 T11 I11 L11 R11 h11 => ?_)
      obtain ⟨rfl, rfl, rfl, rfl, rfl⟩ := h11
      refine r_if_ne d_X7_which_14 (by split <;> omega) (fun c14 => absurd c14 (by rw [if_neg k4]; decide)) (fun c14 => ?_)
      refine r_bipush d_X7_which_17 (by decide) ?_
      refine r_iret d_X7_which_19 rfl ?_
      exact e
  · rw [if_neg (by omega)] at hc2
    rw [if_neg k2] at hD
    have e := no (-103) hD.symm (by decide)
    refine r_aload_n d_X7_which_0 rfl ?_
    refine r_V0i d_X7_which_1 (w_X7_157 _ rfl) (tt_3 _ _) rfl rfl (hc2) (by decide) (Nat.le_of_ble_eq_true rfl) (fun z1 T1 I1 L1 R1 h1 => ?_)
    obtain ⟨rfl, rfl, rfl, rfl, rfl⟩ := h1
    refine r_if_ne d_X7_which_4 (by omega) (fun c4 => absurd c4 (by decide)) (fun c4 => ?_)
    refine r_bipush d_X7_which_7 (by decide) ?_
    refine r_iret d_X7_which_9 rfl ?_
    exact e
end C58
