def RX (tl : List Nat) (ukd unn : Nat → Int) (utr utw : Nat → Nat → Nat) (I : sI) : Prop := I 3 4 = (tl.length : Int) ∧ tl.length ≤ 8 ∧ ∀ q, q < tl.length → UX tl q (ukd q) (unn q) (utr q) (utw q) (tl.getD q 0) I
theorem RX_frb {tl : List Nat} {ukd unn : Nat → Int} {utr utw : Nat → Nat → Nat} {I I' : sI} {lo hi : Nat} (h : RX tl ukd unn utr utw I) (hf : frb lo hi I I') (hlo : 4 ≤ lo) (hhi : hi ≤ 186) : RX tl ukd unn utr utw I' := ⟨by rw [hf 3 (by omega)]; exact h.1, h.2.1, fun q hq => UX_frb (h.2.2 q hq) hf hhi⟩
/-- the refusal of a rule and a giving -/
def rfS (n nr : Nat) (rule how : Int) : Int := if 0 ≤ rule ∧ rule < n then (if 0 < nr then (if how = 0 ∨ how = 1 then 0 else -102) else -103) else -101
def rgS (n nr ng : Nat) (rule how guest : Int) : Int := if (0 ≤ rule ∧ rule < n) ∧ 0 < nr ∧ ¬ (0 ≤ guest ∧ guest < ng) then -101 else rfS n nr rule how
section C46
variable {g : sG} {Ls : Nat} {tl : List Nat} {I L : sI} {σ : Sg} {ℓ ab : Int} {nr nw nW ng n : Nat}
theorem c_isRule (h : I 3 4 = (n : Int)) (hn : n ≤ 8) {r : Int} (hr : -2147483648 ≤ r ∧ r ≤ 2147483647) : Mc g 1 m_X7_isRule 0 0 [vr 3, vi r] (TT Ls tl) I L (RR tl) (qI fun z T' I' L' R' => z = (if 0 ≤ r ∧ r < n then 1 else 0) ∧ same (TT Ls tl) I L (RR tl) T' I' L' R') := by
  refine Mc_of rfl (Nat.le_of_ble_eq_true rfl) ?_
  refine r_iload_n d_X7_isRule_0 rfl ?_
  refine r_aload_n d_X7_isRule_1 rfl ?_
  refine r_geti d_X7_isRule_2 f_X7_97 (tt_3 _ _) (by decide) (by decide) ?_
  rw [h]
  refine r_S2i d_X7_isRule_5 (w_X7_124 _ rfl) (c_isBelow hr (by omega)) (by decide) (Nat.le_of_ble_eq_true rfl) (fun z5 T5 I5 L5 R5 h5 => ?_)
  obtain ⟨rfl, rfl, rfl, rfl, rfl⟩ := h5
  refine r_zret d_X7_isRule_8 rfl (by split <;> omega) ?_
  exact ⟨_, rfl, rfl, same_rf⟩
theorem c_isGuest (h : I 8 5 = (n : Int)) (hn : n ≤ 8) {r : Int} (hr : -2147483648 ≤ r ∧ r ≤ 2147483647) : Mc g 1 m_X7_isGuest 0 0 [vr 3, vi r] (TT Ls tl) I L (RR tl) (qI fun z T' I' L' R' => z = (if 0 ≤ r ∧ r < n then 1 else 0) ∧ same (TT Ls tl) I L (RR tl) T' I' L' R') := by
  refine Mc_of rfl (Nat.le_of_ble_eq_true rfl) ?_
  refine r_iload_n d_X7_isGuest_0 rfl ?_
  refine r_aload_n d_X7_isGuest_1 rfl ?_
  refine r_getr d_X7_isGuest_2 f_X7_19 (tt_3 _ _) (by decide) rfl (rr_3_1 _) ?_
  refine r_geti d_X7_isGuest_5 f_X7_276 (tt_8 _ _) (by decide) (by decide) ?_
  rw [h]
  refine r_S2i d_X7_isGuest_8 (w_X7_124 _ rfl) (c_isBelow hr (by omega)) (by decide) (Nat.le_of_ble_eq_true rfl) (fun z8 T8 I8 L8 R8 h8 => ?_)
  obtain ⟨rfl, rfl, rfl, rfl, rfl⟩ := h8
  refine r_zret d_X7_isGuest_11 rfl (by split <;> omega) ?_
  exact ⟨_, rfl, rfl, same_rf⟩
theorem c_isWay (hV : HV σ nr nw ng) (hX : HX 8 σ nr nw ng I) {r : Int} (hr : -2147483648 ≤ r ∧ r ≤ 2147483647) : Mc g 1 m_X7_isWay 0 0 [vr 3, vi r] (TT Ls tl) I L (RR tl) (qI fun z T' I' L' R' => z = (if 0 ≤ r ∧ r < ((2 ^ chn σ nr : Nat) : Int) then 1 else 0) ∧ same (TT Ls tl) I L (RR tl) T' I' L' R') := by
  refine Mc_of rfl (Nat.le_of_ble_eq_true rfl) ?_
  have hpw := p2 hV.2.2.2.2.2.2
  refine r_iload_n d_X7_isWay_0 rfl ?_
  refine r_aload_n d_X7_isWay_1 rfl ?_
  refine r_getr d_X7_isWay_2 f_X7_19 (tt_3 _ _) (by decide) rfl (rr_3_1 _) ?_
  refine r_V0i d_X7_isWay_5 (w_X7_210 _ rfl) (tt_8 _ _) rfl rfl (c_wayCount hV hX) (by decide) (Nat.le_of_ble_eq_true rfl) (fun z5 T5 I5 L5 R5 h5 => ?_)
  obtain ⟨rfl, rfl, rfl, rfl, rfl⟩ := h5
  refine r_S2i d_X7_isWay_8 (w_X7_124 _ rfl) (c_isBelow hr (by omega)) (by decide) (Nat.le_of_ble_eq_true rfl) (fun z8 T8 I8 L8 R8 h8 => ?_)
  obtain ⟨rfl, rfl, rfl, rfl, rfl⟩ := h8
  refine r_zret d_X7_isWay_11 rfl (by split <;> omega) ?_
  exact ⟨_, rfl, rfl, same_rf⟩
theorem c_refusalOf (h : I 3 4 = (n : Int)) (hn : n ≤ 8) (h3 : I 8 3 = (nr : Int)) (h8 : nr ≤ 8) {rule how : Int} (hr : -2147483648 ≤ rule ∧ rule ≤ 2147483647) (hh : -2147483648 ≤ how ∧ how ≤ 2147483647) : Mc g 2 m_X7_refusalOf 0 0 [vr 3, vi rule, vi how] (TT Ls tl) I L (RR tl) (qI fun z T' I' L' R' => z = rfS n nr rule how ∧ same (TT Ls tl) I L (RR tl) T' I' L' R') := by
  refine Mc_of rfl (Nat.le_of_ble_eq_true rfl) ?_
  have hc := c_isHoused (g := g) (Ls := Ls) (tl := tl) (I := I) (L := L) (by omega)
  rw [h3] at hc
  unfold rfS
  refine r_aload_n d_X7_refusalOf_0 rfl ?_
  refine r_iload_n d_X7_refusalOf_1 rfl ?_
  refine r_V1i d_X7_refusalOf_2 (w_X7_114 _ rfl) (tt_3 _ _) rfl rfl (c_isRule h hn hr) (by decide) (Nat.le_of_ble_eq_true rfl) (fun z2 T2 I2 L2 R2 h2 => ?_)
  obtain ⟨rfl, rfl, rfl, rfl, rfl⟩ := h2
  refine r_if_ne d_X7_refusalOf_5 (by split <;> omega) (fun c5 => ?_) (fun c5 => ?_)
  · have q5 : 0 ≤ rule ∧ rule < n := Classical.byContradiction (fun q => by rw [if_neg q] at c5; omega)
    refine r_aload_n d_X7_refusalOf_11 rfl ?_
    refine r_V0i d_X7_refusalOf_12 (w_X7_157 _ rfl) (tt_3 _ _) rfl rfl (hc) (by decide) (Nat.le_of_ble_eq_true rfl) (fun z12 T12 I12 L12 R12 h12 => ?_)
    obtain ⟨rfl, rfl, rfl, rfl, rfl⟩ := h12
    refine r_if_ne d_X7_refusalOf_15 (by split <;> omega) (fun c15 => ?_) (fun c15 => ?_)
    · have q15 : 0 < nr := Classical.byContradiction (fun q => by rw [if_neg (by omega)] at c15; omega)
      refine r_iload_n d_X7_refusalOf_21 rfl ?_
      refine r_S1i d_X7_refusalOf_22 (w_X7_183 _ rfl) (c_isGiving hh) (by decide) (Nat.le_of_ble_eq_true rfl) (fun z22 T22 I22 L22 R22 h22 => ?_)
      obtain ⟨rfl, rfl, rfl, rfl, rfl⟩ := h22
      refine r_if_eq d_X7_refusalOf_25 (by split <;> omega) (fun c25 => ?_) (fun c25 => ?_)
      · have q25 : ¬ (how = 0 ∨ how = 1) := fun q => by rw [if_pos q] at c25; omega
        refine r_bipush d_X7_refusalOf_32 (by decide) ?_
        refine r_iret d_X7_refusalOf_34 rfl ?_
        first
        | exact ⟨_, rfl, by rw [if_pos q5, if_pos q15, if_pos q25], same_rf⟩
        | exact ⟨_, rfl, by rw [if_pos q5, if_pos q15, if_neg q25], same_rf⟩
      · have q25 : how = 0 ∨ how = 1 := Classical.byContradiction (fun q => by rw [if_neg q] at c25; omega)
        refine r_iconst d_X7_refusalOf_28 ?_
        refine r_goto d_X7_refusalOf_29 ?_
        refine r_iret d_X7_refusalOf_34 rfl ?_
        first
        | exact ⟨_, rfl, by rw [if_pos q5, if_pos q15, if_pos q25], same_rf⟩
        | exact ⟨_, rfl, by rw [if_pos q5, if_pos q15, if_neg q25], same_rf⟩
    · refine r_bipush d_X7_refusalOf_18 (by decide) ?_
      refine r_iret d_X7_refusalOf_20 rfl ?_
      exact ⟨_, rfl, by rw [if_pos q5, if_neg (fun q => by rw [if_pos (by omega)] at c15; omega)], same_rf⟩
  · refine r_bipush d_X7_refusalOf_8 (by decide) ?_
    refine r_iret d_X7_refusalOf_10 rfl ?_
    exact ⟨_, rfl, by rw [if_neg (fun q => by rw [if_pos q] at c5; omega)], same_rf⟩
theorem c_refusalOf_ (h : I 3 4 = (n : Int)) (hn : n ≤ 8) (h3 : I 8 3 = (nr : Int)) (h8 : nr ≤ 8) (h5 : I 8 5 = (ng : Int)) (hg8 : ng ≤ 8) {rule how guest : Int} (hr : -2147483648 ≤ rule ∧ rule ≤ 2147483647) (hh : -2147483648 ≤ how ∧ how ≤ 2147483647) (hgu : -2147483648 ≤ guest ∧ guest ≤ 2147483647) : Mc g 3 m_X7_refusalOf_ 0 0 [vr 3, vi rule, vi how, vi guest] (TT Ls tl) I L (RR tl) (qI fun z T' I' L' R' => z = rgS n nr ng rule how guest ∧ same (TT Ls tl) I L (RR tl) T' I' L' R') := by
  refine Mc_of rfl (Nat.le_of_ble_eq_true rfl) ?_
  have hc := c_isHoused (g := g) (Ls := Ls) (tl := tl) (I := I) (L := L) (by omega)
  rw [h3] at hc
  unfold rgS
  refine r_aload_n d_X7_refusalOf__0 rfl ?_
  refine r_iload_n d_X7_refusalOf__1 rfl ?_
  refine r_V1i d_X7_refusalOf__2 (w_X7_114 _ rfl) (tt_3 _ _) rfl rfl (c_isRule h hn hr) (by decide) (Nat.le_of_ble_eq_true rfl) (fun z2 T2 I2 L2 R2 h2 => ?_)
  obtain ⟨rfl, rfl, rfl, rfl, rfl⟩ := h2
  refine r_if_eq d_X7_refusalOf__5 (by split <;> omega) (fun c5 => ?_) (fun c5 => ?_)
  · have qn : ¬ ((0 ≤ rule ∧ rule < n) ∧ 0 < nr ∧ ¬ (0 ≤ guest ∧ guest < ng)) := fun q => by rw [if_pos q.1] at c5; omega
    refine r_aload_n d_X7_refusalOf__26 rfl ?_
    refine r_iload_n d_X7_refusalOf__27 rfl ?_
    refine r_iload_n d_X7_refusalOf__28 rfl ?_
    refine r_V2i d_X7_refusalOf__29 (w_X7_197 _ rfl) (tt_3 _ _) rfl rfl (c_refusalOf h hn h3 h8 hr hh) (by decide) (Nat.le_of_ble_eq_true rfl) (fun z29 T29 I29 L29 R29 h29 => ?_)
    obtain ⟨rfl, rfl, rfl, rfl, rfl⟩ := h29
    refine r_iret d_X7_refusalOf__32 rfl ?_
    exact ⟨_, rfl, by rw [if_neg qn], same_rf⟩
  · have q5 : 0 ≤ rule ∧ rule < n := Classical.byContradiction (fun q => by rw [if_neg q] at c5; omega)
    refine r_aload_n d_X7_refusalOf__8 rfl ?_
    refine r_V0i d_X7_refusalOf__9 (w_X7_157 _ rfl) (tt_3 _ _) rfl rfl (hc) (by decide) (Nat.le_of_ble_eq_true rfl) (fun z9 T9 I9 L9 R9 h9 => ?_)
    obtain ⟨rfl, rfl, rfl, rfl, rfl⟩ := h9
    refine r_if_eq d_X7_refusalOf__12 (by split <;> omega) (fun c12 => ?_) (fun c12 => ?_)
    · have qn : ¬ ((0 ≤ rule ∧ rule < n) ∧ 0 < nr ∧ ¬ (0 ≤ guest ∧ guest < ng)) := fun q => by rw [if_pos (by omega)] at c12; omega
      refine r_aload_n d_X7_refusalOf__26 rfl ?_
      refine r_iload_n d_X7_refusalOf__27 rfl ?_
      refine r_iload_n d_X7_refusalOf__28 rfl ?_
      refine r_V2i d_X7_refusalOf__29 (w_X7_197 _ rfl) (tt_3 _ _) rfl rfl (c_refusalOf h hn h3 h8 hr hh) (by decide) (Nat.le_of_ble_eq_true rfl) (fun z29 T29 I29 L29 R29 h29 => ?_)
      obtain ⟨rfl, rfl, rfl, rfl, rfl⟩ := h29
      refine r_iret d_X7_refusalOf__32 rfl ?_
      exact ⟨_, rfl, by rw [if_neg qn], same_rf⟩
    · have q12 : 0 < nr := Classical.byContradiction (fun q => by rw [if_neg (by omega)] at c12; omega)
      refine r_aload_n d_X7_refusalOf__15 rfl ?_
      refine r_iload_n d_X7_refusalOf__16 rfl ?_
      refine r_V1i d_X7_refusalOf__17 (w_X7_138 _ rfl) (tt_3 _ _) rfl rfl (c_isGuest h5 hg8 hgu) (by decide) (Nat.le_of_ble_eq_true rfl) (fun z17 T17 I17 L17 R17 h17 => ?_)
      obtain ⟨rfl, rfl, rfl, rfl, rfl⟩ := h17
      refine r_if_ne d_X7_refusalOf__20 (by split <;> omega) (fun c20 => ?_) (fun c20 => ?_)
      · have qn : ¬ ((0 ≤ rule ∧ rule < n) ∧ 0 < nr ∧ ¬ (0 ≤ guest ∧ guest < ng)) := fun q => by rw [if_neg q.2.2] at c20; omega
        refine r_aload_n d_X7_refusalOf__26 rfl ?_
        refine r_iload_n d_X7_refusalOf__27 rfl ?_
        refine r_iload_n d_X7_refusalOf__28 rfl ?_
        refine r_V2i d_X7_refusalOf__29 (w_X7_197 _ rfl) (tt_3 _ _) rfl rfl (c_refusalOf h hn h3 h8 hr hh) (by decide) (Nat.le_of_ble_eq_true rfl) (fun z29 T29 I29 L29 R29 h29 => ?_)
        obtain ⟨rfl, rfl, rfl, rfl, rfl⟩ := h29
        refine r_iret d_X7_refusalOf__32 rfl ?_
        exact ⟨_, rfl, by rw [if_neg qn], same_rf⟩
      · have q20 : ¬ (0 ≤ guest ∧ guest < ng) := fun q => by rw [if_pos q] at c20; omega
        refine r_bipush d_X7_refusalOf__23 (by decide) ?_
        refine r_iret d_X7_refusalOf__25 rfl ?_
        exact ⟨_, rfl, by rw [if_pos ⟨q5, q12, q20⟩], same_rf⟩
theorem c_addAll {a n : Nat} {x : Int} {f : Nat → Int} (hT : (TT Ls tl)[a]? = some (10, n)) (hn : n ≤ 8) (hf : ∀ j, j < n → I a j = f j ∧ -2147483648 ≤ f j ∧ f j ≤ 2147483647) {F : Nat → Int} (h0 : F 0 = x) (hF : ∀ j, j < n → F (j + 1) = 31 * F j + f j) : Mc g 0 m_X7_addAll 0 0 [vl x, vr a] (TT Ls tl) I L (RR tl) (qL fun z T' I' L' R' => z = F n ∧ same (TT Ls tl) I L (RR tl) T' I' L' R') := by
  refine Mc_of rfl (Nat.le_of_ble_eq_true rfl) ?_
  have loop : ∀ (k b : Nat), b + k = n → Cp g 0 m_X7_addAll 0 0 (qL fun z T' I' L' R' => z = F n ∧ same (TT Ls tl) I L (RR tl) T' I' L' R') 13 [(3, vl (F b)), (5, vr a), (6, vi (n : Int)), (7, vi (b : Int))] [] (TT Ls tl) I L (RR tl) := by
    intro k
    induction k with
    | zero =>
      intro b hbk
      refine r_iload d_X7_addAll_13 rfl ?_
      refine r_iload d_X7_addAll_15 rfl ?_
      refine r_icmp_ge d_X7_addAll_17 (by omega) (by omega) (fun c17 => ?_) (fun c17 => absurd c17 (by omega))
      refine r_lload_n d_X7_addAll_43 rfl ?_
      refine r_lret d_X7_addAll_44 rfl ?_
      exact ⟨_, rfl, by rw [show b = n by omega], same_rf⟩
    | succ k ih =>
      intro b hbk
      obtain ⟨e1, e2, e3⟩ := hf b (by omega)
      have e4 : 31 * F b + I a b = F (b + 1) := by rw [hF b (by omega), e1]
      refine r_iload d_X7_addAll_13 rfl ?_
      refine r_iload d_X7_addAll_15 rfl ?_
      refine r_icmp_ge d_X7_addAll_17 (by omega) (by omega) (fun c17 => absurd c17 (by omega)) (fun c17 => ?_)
      refine r_aload d_X7_addAll_20 rfl ?_
      refine r_iload d_X7_addAll_22 rfl ?_
      refine r_ialdJ d_X7_addAll_24 hT rfl (by omega) (hn := (by omega)) (kk := ?_)
      refine r_istore d_X7_addAll_25 (by decide) ?_
      refine r_ldc2 d_X7_addAll_27 (k_X7_285 _ rfl) ?_
      refine r_lload_n d_X7_addAll_30 rfl ?_
      refine r_lmul d_X7_addAll_31 ?_
      refine r_iload d_X7_addAll_32 rfl ?_
      refine r_i2l d_X7_addAll_34 (by rw [e1]; omega) ?_
      refine r_ladd d_X7_addAll_35 ?_
      rw [e4]
      refine r_lstore_n d_X7_addAll_36 (by decide) ?_
      refine r_iinc d_X7_addAll_37 rfl (by decide) ?_
      refine r_goto d_X7_addAll_40 ?_
      exact CpL (ih (b + 1) (by omega)) (by repeat (first | exact trivial | refine ⟨rfl, ?_⟩))
  refine r_lload_n d_X7_addAll_0 rfl ?_
  refine r_lstore_n d_X7_addAll_1 (by decide) ?_
  refine r_aload_n d_X7_addAll_2 rfl ?_
  refine r_astore d_X7_addAll_3 (by decide) ?_
  refine r_aload d_X7_addAll_5 rfl ?_
  refine r_alen d_X7_addAll_7 hT (by decide) ?_
  refine r_istore d_X7_addAll_8 (by decide) ?_
  refine r_iconst d_X7_addAll_10 ?_
  refine r_istore d_X7_addAll_11 (by decide) ?_
  exact CpL (loop n 0 (by omega)) (by repeat (first | exact trivial | refine ⟨rfl, ?_⟩ | refine ⟨by rw [h0]; rfl, ?_⟩))
end C46
