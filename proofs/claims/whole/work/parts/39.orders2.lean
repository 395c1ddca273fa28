def ODR (nr : Nat) : List (List Nat) := dfs nr nr (fun _ => false)
theorem ODR_len : ∀ n, n < 7 → 1 ≤ (ODR n).length ∧ (ODR n).length ≤ 720 := by decide +kernel
/-- what each order costs by each way that has a chance -/
def WX (σ : Sg) (ℓ ab : Int) (nr nW ng : Nat) (how : Int) (n : Nat) (I : sI) : Prop := ∀ way, way < n → I 132 way = wtX σ way nr ∧ (0 < wtX σ way nr → ∀ (i : Nat) (l : List Nat), (ODR nr)[i]? = some l → CS σ nr ng (lofS σ ℓ ab nW l (opS σ way) 3) how (I (124 + way) i))
theorem wtX_zero {σ : Sg} : ∀ n, (∀ r, r < n → RV σ r) → 0 < wtX σ 0 n
  | 0, _ => by show (0 : Int) < 1; omega
  | n + 1, h => by
    have ih := wtX_zero n (fun r hr => h r (by omega))
    have hv := h n (by omega)
    unfold RV at hv
    show 0 < wtX σ 0 n * (if σ 4 n = -1 then 1 else fcX σ 0 n)
    refine Int.mul_pos ih ?_
    split
    · omega
    · unfold fcX
      rw [Nat.zero_testBit, if_neg (by decide)]
      split <;> omega
section C39
variable {g : sG} {Ls : Nat} {tl : List Nat} {I L : sI} {σ : Sg} {ℓ ab : Int} {nr nw nW ng : Nat} {how : Int}
theorem c_forget : Mc g 0 m_X4_forget 0 0 [vr 122] (TT Ls tl) I L (RR tl) (qV fun T' I' L' R' => T' = TT Ls tl ∧ R' = RR tl ∧ L' = L ∧ (∀ a, a ≠ 136 → I' a = I a) ∧ I' 136 0 = 0 ∧ I' 136 1 = 0) := by
  refine Mc_of rfl (Nat.le_of_ble_eq_true rfl) ?_
  refine r_aload_n d_X4_forget_0 rfl ?_
  refine r_getr d_X4_forget_1 f_X4_23 (tt_122 _ _) (by decide) rfl (rr_122_8 _) ?_
  refine r_iconst d_X4_forget_4 ?_
  refine r_iconst d_X4_forget_5 ?_
  refine r_zastJ (j := 0) d_X4_forget_6 (tt_136 _ _) (by omega) rfl (by omega) (by omega) (kk := ?_)
  refine r_aload_n d_X4_forget_7 rfl ?_
  refine r_getr d_X4_forget_8 f_X4_23 (tt_122 _ _) (by decide) rfl (rr_122_8 _) ?_
  refine r_iconst d_X4_forget_11 ?_
  refine r_iconst d_X4_forget_12 ?_
  refine r_zastJ (j := 1) d_X4_forget_13 (tt_136 _ _) (by omega) rfl (by omega) (by omega) (kk := ?_)
  refine r_vret d_X4_forget_14 rfl ?_
  refine ⟨rfl, rfl, rfl, rfl, fun a ha => ?_, ?_⟩
  · rw [up2_ne _ _ ha, up2_ne _ _ ha]
  · simp [up2]
theorem c_weighAll (hV : HV σ nr nw ng) (hS : SV σ ℓ nr nW) (h0 : 0 < nr) (h6 : nr ≤ 6) (hh : how = 0 ∨ how = 1) (hX : HX 8 σ nr nw ng I) (hH : HS 8 σ nr ng I) (hK : KX σ ℓ ab nr nW I) (hR : RKX L) : Mc g 10 m_X4_weighAll 0 0 [vr 122, vi how] (TT Ls tl) I L (RR tl) (qV fun T' I' L' R' => T' = TT Ls tl ∧ R' = RR tl ∧ frb 70 133 I I' ∧ frb 81 120 L L' ∧ WX σ ℓ ab nr nW ng how (2 ^ chn σ nr) I' ∧ I' 122 5 = ((ODR nr).length : Int)) := by
  refine Mc_of rfl (Nat.le_of_ble_eq_true rfl) ?_
  obtain ⟨v1, v2, v3, v4, v5, v6, v7⟩ := id hV
  have h4 := hS.2.1
  obtain ⟨P, hP⟩ : ∃ P, P = max ng nr := ⟨_, rfl⟩
  have hlen := ODR_len nr (by omega)
  have hpw := p2 v7
  obtain ⟨Q, hQ⟩ : ∃ Q : sQ, Q = (qV fun T' I' L' R' => T' = TT Ls tl ∧ R' = RR tl ∧ frb 70 133 I I' ∧ frb 81 120 L L' ∧ WX σ ℓ ab nr nW ng how (2 ^ chn σ nr) I' ∧ I' 122 5 = ((ODR nr).length : Int)) := ⟨_, rfl⟩
  rw [← hQ]
  have loop : ∀ (k b : Nat) (I1 L1 : sI), b + k = 2 ^ chn σ nr → frb 70 133 I I1 → frb 81 120 L L1 → I1 122 6 = how → WX σ ℓ ab nr nW ng how b I1 → (0 < b → I1 122 5 = ((ODR nr).length : Int)) → Cp g 10 m_X4_weighAll 0 0 Q 7 [(0, vr 122), (1, vi how), (2, vi (b : Int))] [] (TT Ls tl) I1 L1 (RR tl) := by
    intro k
    induction k with
    | zero =>
      intro b I1 L1 hbk fI fL hw hWX hc
      have hb : b = 2 ^ chn σ nr := by omega
      have hX1 := HX_low hV hX (fun a ha => fI a (by omega))
      refine r_iload_n d_X4_weighAll_7 rfl ?_
      refine r_aload_n d_X4_weighAll_8 rfl ?_
      refine r_getr d_X4_weighAll_9 f_X4_27 (tt_122 _ _) (by decide) rfl (rr_122_0 _) ?_
      refine r_V0i d_X4_weighAll_12 (w_X4_67 _ rfl) (tt_8 _ _) rfl rfl (c_wayCount hV hX1) (by decide) (Nat.le_of_ble_eq_true rfl) (fun z12 T12 I12 L12 R12 h12 => ?_)
      obtain ⟨rfl, rfl, rfl, rfl, rfl⟩ := h12
      refine r_icmp_ge d_X4_weighAll_15 (by omega) (by omega) (fun c15 => ?_) (fun c15 => absurd c15 (by omega))
      refine r_vret d_X4_weighAll_82 rfl ?_
      rw [hQ]
      exact ⟨rfl, rfl, rfl, fI, fL, by rw [← hb]; exact hWX, hc (by omega)⟩
    | succ k ih =>
      intro b I1 L1 hbk fI fL hw hWX hc
      have hb : b < 2 ^ chn σ nr := by omega
      have hb8 : b < 8 := by omega
      have hX1 := HX_low hV hX (fun a ha => fI a (by omega))
      have hH1 := HS_low hH (fun a ha => fI a (by omega))
      have hK1 := KX_low v1 h4 hK (fun a ha => fI a (by omega))
      have hbd := wtX_bd (σ := σ) (way := b) nr v4
      have h10 := p10 v7
      have hwt : -2147483648 ≤ wtX σ b nr ∧ wtX σ b nr ≤ 2147483647 := by omega
      have skp : ¬ 0 < wtX σ b nr → Cp g 10 m_X4_weighAll 0 0 Q 7 [(0, vr 122), (1, vi how), (2, vi ((b + 1 : Nat) : Int))] [] (TT Ls tl) (up2 I1 132 b (wtX σ b nr)) L1 (RR tl) := fun hz => by
        refine ih (b + 1) _ L1 (by omega) (frb_up fI (by omega)) fL (by rw [up2_ne _ _ (by omega)]; exact hw) (fun way hwy => ?_) (fun _ => ?_)
        · by_cases e : way = b
          · subst e
            exact ⟨up2_at _ _ _ _, fun h => absurd h hz⟩
          · have := hWX way (by omega)
            refine ⟨by rw [up2_nj _ _ e]; exact this.1, fun h i l hl => ?_⟩
            rw [up2_ne _ _ (by omega)]; exact this.2 h i l hl
        · rw [up2_ne _ _ (by omega)]
          refine hc ?_
          have : b ≠ 0 := fun e => hz (by rw [e]; exact wtX_zero nr v4)
          omega
      have hun : UN (fun _ => false) nr (opS σ b) := fun r hr _ => ⟨rfl, rfl, rfl⟩
      have hdn : dnS nr (opS σ b 3) = fun _ => false := by funext ρ; unfold dnS; exact decide_eq_false (fun h => h.2 rfl)
      refine r_iload_n d_X4_weighAll_7 rfl ?_
      refine r_aload_n d_X4_weighAll_8 rfl ?_
      refine r_getr d_X4_weighAll_9 f_X4_27 (tt_122 _ _) (by decide) rfl (rr_122_0 _) ?_
      refine r_V0i d_X4_weighAll_12 (w_X4_67 _ rfl) (tt_8 _ _) rfl rfl (c_wayCount hV hX1) (by decide) (Nat.le_of_ble_eq_true rfl) (fun z12 T12 I12 L12 R12 h12 => ?_)
      obtain ⟨rfl, rfl, rfl, rfl, rfl⟩ := h12
      refine r_icmp_ge d_X4_weighAll_15 (by omega) (by omega) (fun c15 => absurd c15 (by omega)) (fun c15 => ?_)
      refine r_aload_n d_X4_weighAll_18 rfl ?_
      refine r_getr d_X4_weighAll_19 f_X4_16 (tt_122 _ _) (by decide) rfl (rr_122_4 _) ?_
      refine r_iload_n d_X4_weighAll_22 rfl ?_
      refine r_aload_n d_X4_weighAll_23 rfl ?_
      refine r_getr d_X4_weighAll_24 f_X4_27 (tt_122 _ _) (by decide) rfl (rr_122_0 _) ?_
      refine r_iload_n d_X4_weighAll_27 rfl ?_
      refine r_V1i d_X4_weighAll_28 (w_X4_71 _ rfl) (tt_8 _ _) rfl rfl (c_chanceOf (way := b) hV hX1 hb8) (by decide) (Nat.le_of_ble_eq_true rfl) (fun z28 T28 I28 L28 R28 h28 => ?_)
      obtain ⟨rfl, rfl, rfl, rfl, rfl⟩ := h28
      refine r_iastJ d_X4_weighAll_31 (tt_132 _ _) (by omega) rfl (by omega) (kk := ?_)
      refine r_aload_n d_X4_weighAll_32 rfl ?_
      refine r_getr d_X4_weighAll_33 f_X4_16 (tt_122 _ _) (by decide) rfl (rr_122_4 _) ?_
      refine r_iload_n d_X4_weighAll_36 rfl ?_
      refine r_ialdJ d_X4_weighAll_37 (tt_132 _ _) rfl (by omega) (kk := ?_)
      rw [up2_at]
      refine r_if_le d_X4_weighAll_38 (by exact hwt) (fun c38 => ?_) (fun c38 => ?_)
      · refine r_iinc d_X4_weighAll_76 rfl (by decide) ?_
        refine r_goto d_X4_weighAll_79 ?_
        first
        | exact CpL (skp (by omega)) (by repeat (first | exact trivial | refine ⟨rfl, ?_⟩))
        | (refine CpL (ih (b + 1) I73 L73 (by omega) (fun a ha => ?_) (fun a ha => ?_) ?_ (fun way hwy => ?_) (fun _ => ?_)) (by repeat (first | exact trivial | refine ⟨rfl, ?_⟩))
           · rcases ha with h | h
             · exact hlo a h
             · rw [hi a (by omega), u1 a (by omega)]; exact fI a (by omega)
           · rw [y2 a (by omega), b3 a (by omega)]; exact fL a (by omega)
           · rw [y1.2 6 (by omega)]; exact e6
           · have e132 : I73 132 = I2 132 := hi 132 (by omega)
             by_cases e : way = b
             · subst e
               refine ⟨by rw [e132, hI2, up2_at], fun _ i l hl => ?_⟩
               have := y4.2.1 i l hl
               rw [Nat.zero_add] at this
               exact this
             · have hq := hWX way (by omega)
               refine ⟨by rw [e132, hI2, up2_nj _ _ e]; exact hq.1, fun h i l hl => ?_⟩
               rw [hi _ (by omega), u1 _ (by omega)]; exact hq.2 h i l hl
           · have := y4.1
             rw [Nat.zero_add] at this
             exact this)
      · obtain ⟨I2, hI2⟩ : ∃ I2, I2 = up2 I1 132 b (wtX σ b nr) := ⟨_, rfl⟩
        rw [← hI2]
        have u1 : ∀ a, a ≠ 132 → I2 a = I1 a := fun a ha => by rw [hI2, up2_ne _ _ ha]
        have hX2 := HX_low hV hX1 (I' := up2 I2 122 5 0) (fun a ha => by rw [up2_ne _ _ (by omega)]; exact u1 a (by omega))
        have hK2 := KX_low v1 h4 hK1 (I' := up2 I2 122 5 0) (fun a ha => by rw [up2_ne _ _ (by omega)]; exact u1 a (by omega))
        refine r_aload_n d_X4_weighAll_41 rfl ?_
        refine r_iconst d_X4_weighAll_42 ?_
        refine r_puti d_X4_weighAll_43 f_X4_75 (tt_122 _ _) (by decide) (Or.inl rfl) ?_
        refine r_aload_n d_X4_weighAll_46 rfl ?_
        refine r_getr d_X4_weighAll_47 f_X4_31 (tt_122 _ _) (by decide) rfl (rr_122_1 _) ?_
        refine r_iload_n d_X4_weighAll_50 rfl ?_
        refine r_V1v d_X4_weighAll_51 (w_X4_78 _ rfl) (tt_63 _ _) rfl rfl (c_open hS hV hX2 hK2 hb8) (by decide) (Nat.le_of_ble_eq_true rfl) (fun T51 I51 L51 R51 h51 => ?_)
        obtain ⟨⟨rfl, fo, rfl, rfl⟩, ho, -⟩ := h51
        have hX3 := HX_low hV hX2 (fun a ha => fo a (by omega))
        refine r_aload_n d_X4_weighAll_54 rfl ?_
        refine r_getr d_X4_weighAll_55 f_X4_35 (tt_122 _ _) (by decide) rfl (rr_122_2 _) ?_
        refine r_getr d_X4_weighAll_58 f_X4_83 (tt_77 _ _) (by decide) rfl (rr_77_1 _) ?_
        refine r_V0v d_X4_weighAll_61 (w_X4_89 _ rfl) (tt_79 _ _) rfl rfl (c_begin (P := P) hX3.1 hX3.2.2.1 ⟨v1, v3⟩ hP) (by decide) (Nat.le_of_ble_eq_true rfl) (fun T61 I61 L61 R61 h61 => ?_)
        obtain ⟨rfl, rfl, b1, b2, b3, b4⟩ := h61
        have low : ∀ a, a < 70 → I61 a = I1 a := fun a ha => by rw [b2 a (by omega), fo a (by omega), up2_ne _ _ (by omega), u1 a (by omega)]
        have hX4 := HX_low hV hX1 low
        have hH4 := HS_low hH1 low
        have hK4 := KX_low v1 h4 hK1 low
        have hR4 : RKX L61 := fun j hj => by rw [b3 2 (by omega), fL 2 (by omega)]; exact hR j hj
        have hD4 : DX (opS σ b) nr nW I61 := ⟨fun r hr => by rw [b2 _ (by omega), b2 _ (by omega), b2 _ (by omega), b2 _ (by omega)]; exact ho.1 r hr, fun w hw => by rw [b2 _ (by omega), b2 _ (by omega)]; exact ho.2 w hw⟩
        have e5 : I61 122 5 = ((0 : Nat) : Int) := by rw [b2 122 (by omega), fo 122 (by omega), up2_at]; rfl
        have e6 : I61 122 6 = how := by rw [b2 122 (by omega), fo 122 (by omega), up2_nj _ _ (by omega), u1 122 (by omega)]; exact hw
        have hwk := c_walk (g := g) (Ls := Ls) (tl := tl) (ab := ab) hV hS hP h0 h6 hb8 rfl hh nr 0 0 0 (fun _ => false) (opS σ b) I61 L61 (by omega) (by omega) (fun r hr => Nat.zero_testBit r) (by rw [Nat.zero_add]; exact hlen.2) hX4 hH4 hK4 hR4 (DV_op hS) hD4 hun b1 e5 e6 (fun _ => by rw [hdn]; exact LX_begin (by omega) b4)
        refine r_aload_n d_X4_weighAll_64 rfl ?_
        refine r_iconst d_X4_weighAll_65 ?_
        refine r_iconst d_X4_weighAll_66 ?_
        refine r_aload_n d_X4_weighAll_67 rfl ?_
        refine r_getr d_X4_weighAll_68 f_X4_11 (tt_122 _ _) (by decide) rfl (rr_122_3 _) ?_
        refine r_iload_n d_X4_weighAll_71 rfl ?_
        refine r_aaldJ d_X4_weighAll_72 (tt_123 _ _) (by decide) rfl (by omega) (rr2_123 _ (by omega)) (kk := ?_)
        refine r_V3v d_X4_weighAll_73 (w_X4_94 _ rfl) (tt_122 _ _) rfl rfl (hwk) (by omega) (Nat.le_of_ble_eq_true rfl) (fun T73 I73 L73 R73 h73 => ?_)
        obtain ⟨rfl, rfl, y1, y2, y3, y4⟩ := h73
        have hi : ∀ a, (123 ≤ a ∧ a ≠ 124 + b) → I73 a = I2 a := fun a ha => by rw [y1.1 a (by omega), b2 a (by omega), fo a (by omega), up2_ne _ _ (by omega)]
        have hlo : ∀ a, a < 70 → I73 a = I a := fun a ha => by rw [y1.1 a (by omega), low a ha]; exact fI a (by omega)
        refine r_iinc d_X4_weighAll_76 rfl (by decide) ?_
        refine r_goto d_X4_weighAll_79 ?_
        first
        | exact CpL (skp (by omega)) (by repeat (first | exact trivial | refine ⟨rfl, ?_⟩))
        | (refine CpL (ih (b + 1) I73 L73 (by omega) (fun a ha => ?_) (fun a ha => ?_) ?_ (fun way hwy => ?_) (fun _ => ?_)) (by repeat (first | exact trivial | refine ⟨rfl, ?_⟩))
           · rcases ha with h | h
             · exact hlo a h
             · rw [hi a (by omega), u1 a (by omega)]; exact fI a (by omega)
           · rw [y2 a (by omega), b3 a (by omega)]; exact fL a (by omega)
           · rw [y1.2 6 (by omega)]; exact e6
           · have e132 : I73 132 = I2 132 := hi 132 (by omega)
             by_cases e : way = b
             · subst e
               refine ⟨by rw [e132, hI2, up2_at], fun _ i l hl => ?_⟩
               have := y4.2.1 i l hl
               rw [Nat.zero_add] at this
               exact this
             · have hq := hWX way (by omega)
               refine ⟨by rw [e132, hI2, up2_nj _ _ e]; exact hq.1, fun h i l hl => ?_⟩
               rw [hi _ (by omega), u1 _ (by omega)]; exact hq.2 h i l hl
           · have := y4.1
             rw [Nat.zero_add] at this
             exact this)
  refine r_aload_n d_X4_weighAll_0 rfl ?_
  refine r_iload_n d_X4_weighAll_1 rfl ?_
  refine r_puti d_X4_weighAll_2 f_X4_64 (tt_122 _ _) (by decide) (Or.inl rfl) ?_
  refine r_iconst d_X4_weighAll_5 ?_
  refine r_istore_n d_X4_weighAll_6 (by decide) ?_
  exact CpL (loop (2 ^ chn σ nr) 0 _ L (by omega) (frb_up frb_rf (by omega)) frb_rf (up2_at _ _ _ _) (fun way h => absurd h (by omega)) (fun h => absurd h (by omega))) (by repeat (first | exact trivial | refine ⟨rfl, ?_⟩))
/-- the sum over the ways of these bits -/
def smS (I : sI) (mask bits i : Nat) (n : Nat) : Int := sumN (fun way => if way &&& mask = bits ∧ 0 < I 132 way then I 132 way * I (124 + way) i else 0) n
def CBD (n N : Nat) (I : sI) : Prop := ∀ way, way < n → (0 ≤ I 132 way ∧ I 132 way ≤ 1000) ∧ (0 < I 132 way → ∀ i, i < N → -4000 ≤ I (124 + way) i ∧ I (124 + way) i ≤ 4000)
theorem smS_bd {I : sI} {mask bits i n N : Nat} (h : CBD n N I) (hi : i < N) : ∀ k, k ≤ n → -(k * 4000000 : Int) ≤ smS I mask bits i k ∧ smS I mask bits i k ≤ k * 4000000
  | 0, _ => by show -(((0 : Nat) : Int) * 4000000) ≤ 0 ∧ (0 : Int) ≤ ((0 : Nat) : Int) * 4000000; omega
  | k + 1, hk => by
    have ih := smS_bd (mask := mask) (bits := bits) h hi k (by omega)
    have hw := h k (by omega)
    show _ ≤ smS I mask bits i k + (if k &&& mask = bits ∧ 0 < I 132 k then I 132 k * I (124 + k) i else 0) ∧ smS I mask bits i k + (if k &&& mask = bits ∧ 0 < I 132 k then I 132 k * I (124 + k) i else 0) ≤ _
    split
    · next hc =>
      have hq := hw.2 hc.2 i hi
      have h1 : I 132 k * I (124 + k) i ≤ 1000 * 4000 := by
        rcases Int.le_total 0 (I (124 + k) i) with q | q
        · exact (mul_bd hw.1 ⟨q, hq.2⟩).2
        · have := Int.mul_nonpos_of_nonneg_of_nonpos hw.1.1 q
          omega
      have h2 : -(1000 * 4000) ≤ I 132 k * I (124 + k) i := by
        rcases Int.le_total 0 (I (124 + k) i) with q | q
        · have := Int.mul_nonneg hw.1.1 q
          omega
        · have := (mul_bd hw.1 (show 0 ≤ -I (124 + k) i ∧ -I (124 + k) i ≤ 4000 by omega)).2
          rw [Int.mul_neg] at this
          omega
      omega
    · omega
theorem c_sumOf (hV : HV σ nr nw ng) (hX : HX 8 σ nr nw ng I) {N i mask bits : Nat} (hN : N ≤ 720) (hi : i < N) (hB : CBD (2 ^ chn σ nr) N I) (hm : mask < 8 ∧ bits < 8) : Mc g 1 m_X4_sumOf 0 0 [vr 122, vi (mask : Int), vi (bits : Int), vi (i : Int)] (TT Ls tl) I L (RR tl) (qI fun z T' I' L' R' => z = smS I mask bits i (2 ^ chn σ nr) ∧ same (TT Ls tl) I L (RR tl) T' I' L' R') := by
  refine Mc_of rfl (Nat.le_of_ble_eq_true rfl) ?_
  have hpw := p2 hV.2.2.2.2.2.2
  have loop : ∀ (k b : Nat), b + k = 2 ^ chn σ nr → Cp g 1 m_X4_sumOf 0 0 (qI fun z T' I' L' R' => z = smS I mask bits i (2 ^ chn σ nr) ∧ same (TT Ls tl) I L (RR tl) T' I' L' R') 6 [(0, vr 122), (1, vi (mask : Int)), (2, vi (bits : Int)), (3, vi (i : Int)), (4, vi (smS I mask bits i b)), (5, vi (b : Int))] [] (TT Ls tl) I L (RR tl) := by
    intro k
    induction k with
    | zero =>
      intro b hbk
      refine r_iload d_X4_sumOf_6 rfl ?_
      refine r_aload_n d_X4_sumOf_8 rfl ?_
      refine r_getr d_X4_sumOf_9 f_X4_27 (tt_122 _ _) (by decide) rfl (rr_122_0 _) ?_
      refine r_V0i d_X4_sumOf_12 (w_X4_67 _ rfl) (tt_8 _ _) rfl rfl (c_wayCount hV hX) (by decide) (Nat.le_of_ble_eq_true rfl) (fun z12 T12 I12 L12 R12 h12 => ?_)
      obtain ⟨rfl, rfl, rfl, rfl, rfl⟩ := h12
      refine r_icmp_ge d_X4_sumOf_15 (by omega) (by omega) (fun c15 => ?_) (fun c15 => absurd c15 (by omega))
      refine r_iload d_X4_sumOf_64 rfl ?_
      refine r_iret d_X4_sumOf_66 rfl ?_
      exact ⟨_, rfl, by rw [show b = 2 ^ chn σ nr by omega], same_rf⟩
    | succ k ih =>
      intro b hbk
      have hb := hB b (by omega)
      have hand : sand (b : Int) (mask : Int) = ((b &&& mask : Nat) : Int) := sand_nat (by omega) (by omega)
      have hal : b &&& mask < 8 := and_lt (by omega)
      have skp : ¬ (b &&& mask = bits ∧ 0 < I 132 b) → smS I mask bits i b = smS I mask bits i (b + 1) := fun h => by
        show _ = smS I mask bits i b + (if b &&& mask = bits ∧ 0 < I 132 b then I 132 b * I (124 + b) i else 0)
        rw [if_neg h]; omega
      refine r_iload d_X4_sumOf_6 rfl ?_
      refine r_aload_n d_X4_sumOf_8 rfl ?_
      refine r_getr d_X4_sumOf_9 f_X4_27 (tt_122 _ _) (by decide) rfl (rr_122_0 _) ?_
      refine r_V0i d_X4_sumOf_12 (w_X4_67 _ rfl) (tt_8 _ _) rfl rfl (c_wayCount hV hX) (by decide) (Nat.le_of_ble_eq_true rfl) (fun z12 T12 I12 L12 R12 h12 => ?_)
      obtain ⟨rfl, rfl, rfl, rfl, rfl⟩ := h12
      refine r_icmp_ge d_X4_sumOf_15 (by omega) (by omega) (fun c15 => absurd c15 (by omega)) (fun c15 => ?_)
      refine r_iload d_X4_sumOf_18 rfl ?_
      refine r_iload_n d_X4_sumOf_20 rfl ?_
      refine r_iand d_X4_sumOf_21 ?_
      refine r_iload_n d_X4_sumOf_22 rfl ?_
      rw [hand]
      refine r_icmp_ne d_X4_sumOf_23 (by omega) (by omega) (fun c23 => ?_) (fun c23 => ?_)
      · have hs := skp (fun h => c23 (by rw [h.1]))
        refine r_iinc d_X4_sumOf_58 rfl (by decide) ?_
        refine r_goto d_X4_sumOf_61 ?_
        exact CpL (ih (b + 1) (by omega)) (by repeat (first | exact trivial | refine ⟨rfl, ?_⟩ | refine ⟨by rw [hs]; rfl, ?_⟩))
      · refine r_aload_n d_X4_sumOf_26 rfl ?_
        refine r_getr d_X4_sumOf_27 f_X4_16 (tt_122 _ _) (by decide) rfl (rr_122_4 _) ?_
        refine r_iload d_X4_sumOf_30 rfl ?_
        refine r_ialdJ d_X4_sumOf_32 (tt_132 _ _) rfl (by omega) (kk := ?_)
        refine r_if_le d_X4_sumOf_33 (by omega) (fun c33 => ?_) (fun c33 => ?_)
        · have hs := skp (fun h => by omega)
          refine r_iinc d_X4_sumOf_58 rfl (by decide) ?_
          refine r_goto d_X4_sumOf_61 ?_
          exact CpL (ih (b + 1) (by omega)) (by repeat (first | exact trivial | refine ⟨rfl, ?_⟩ | refine ⟨by rw [hs]; rfl, ?_⟩))
        · have hs : smS I mask bits i b + I 132 b * I (124 + b) i = smS I mask bits i (b + 1) := by
            show _ = smS I mask bits i b + (if b &&& mask = bits ∧ 0 < I 132 b then I 132 b * I (124 + b) i else 0)
            rw [if_pos ⟨by omega, by omega⟩]
          refine r_iload d_X4_sumOf_36 rfl ?_
          refine r_aload_n d_X4_sumOf_38 rfl ?_
          refine r_getr d_X4_sumOf_39 f_X4_16 (tt_122 _ _) (by decide) rfl (rr_122_4 _) ?_
          refine r_iload d_X4_sumOf_42 rfl ?_
          refine r_ialdJ d_X4_sumOf_44 (tt_132 _ _) rfl (by omega) (kk := ?_)
          refine r_aload_n d_X4_sumOf_45 rfl ?_
          refine r_getr d_X4_sumOf_46 f_X4_11 (tt_122 _ _) (by decide) rfl (rr_122_3 _) ?_
          refine r_iload d_X4_sumOf_49 rfl ?_
          refine r_aaldJ d_X4_sumOf_51 (tt_123 _ _) (by decide) rfl (by omega) (rr2_123 _ (by omega)) (kk := ?_)
          refine r_iload_n d_X4_sumOf_52 rfl ?_
          refine r_ialdJ d_X4_sumOf_53 (tt2_123 _ _ (by omega)) rfl (by omega) (kk := ?_)
          refine r_imul d_X4_sumOf_54 ?_
          refine r_iadd d_X4_sumOf_55 ?_
          refine r_istore d_X4_sumOf_56 (by decide) ?_
          refine r_iinc d_X4_sumOf_58 rfl (by decide) ?_
          refine r_goto d_X4_sumOf_61 ?_
          exact CpL (ih (b + 1) (by omega)) (by repeat (first | exact trivial | refine ⟨rfl, ?_⟩ | refine ⟨by rw [hs]; rfl, ?_⟩))
  refine r_iconst d_X4_sumOf_0 ?_
  refine r_istore d_X4_sumOf_1 (by decide) ?_
  refine r_iconst d_X4_sumOf_3 ?_
  refine r_istore d_X4_sumOf_4 (by decide) ?_
  exact CpL (loop (2 ^ chn σ nr) 0 (by omega)) (by repeat (first | exact trivial | refine ⟨rfl, ?_⟩))
def lsS (I : sI) (mask bits n N : Nat) : Int := amin (fun _ => true) (fun i => smS I mask bits i n) N
theorem lsS_rg {I : sI} {mask bits n N : Nat} (h : 0 < N) : ∃ i : Nat, lsS I mask bits n N = (i : Int) ∧ i < N := by
  rcases amin_spec (fun _ => true) (fun i => smS I mask bits i n) N with ⟨h1, h2⟩ | ⟨b, h1, h2, -⟩
  · have := h2 0 h; cases this
  · exact ⟨b, h1, h2⟩
theorem c_leastOf (hV : HV σ nr nw ng) (hX : HX 8 σ nr nw ng I) {N mask bits : Nat} (hN : 0 < N ∧ N ≤ 720) (hc : I 122 5 = (N : Int)) (hB : CBD (2 ^ chn σ nr) N I) (hm : mask < 8 ∧ bits < 8) : Mc g 2 m_X4_leastOf 0 0 [vr 122, vi (mask : Int), vi (bits : Int)] (TT Ls tl) I L (RR tl) (qI fun z T' I' L' R' => z = lsS I mask bits (2 ^ chn σ nr) N ∧ same (TT Ls tl) I L (RR tl) T' I' L' R') := by
  refine Mc_of rfl (Nat.le_of_ble_eq_true rfl) ?_
  have hpw := p2 hV.2.2.2.2.2.2
  obtain ⟨A, hA⟩ : ∃ A : Nat → Int, A = amin (fun _ => true) (fun i => smS I mask bits i (2 ^ chn σ nr)) := ⟨_, rfl⟩
  have hbd : ∀ i, i < N → -2147483648 ≤ smS I mask bits i (2 ^ chn σ nr) ∧ smS I mask bits i (2 ^ chn σ nr) ≤ 2147483647 := fun i hi => by
    have := smS_bd (mask := mask) (bits := bits) hB hi (2 ^ chn σ nr) (Nat.le_refl _)
    omega
  have loop : ∀ (k b a : Nat), b + k = N → 0 < b → A b = (a : Int) → a < b → Cp g 2 m_X4_leastOf 0 0 (qI fun z T' I' L' R' => z = lsS I mask bits (2 ^ chn σ nr) N ∧ same (TT Ls tl) I L (RR tl) T' I' L' R') 14 [(0, vr 122), (1, vi (mask : Int)), (2, vi (bits : Int)), (3, vi (a : Int)), (4, vi (smS I mask bits a (2 ^ chn σ nr))), (5, vi (b : Int))] [] (TT Ls tl) I L (RR tl) := by
    intro k
    induction k with
    | zero =>
      intro b a hbk h0 hAb ha
      refine r_iload d_X4_leastOf_14 rfl ?_
      refine r_aload_n d_X4_leastOf_16 rfl ?_
      refine r_geti d_X4_leastOf_17 f_X4_75 (tt_122 _ _) (by decide) (by decide) ?_
      refine r_icmp_ge d_X4_leastOf_20 (by omega) (by omega) (fun c20 => ?_) (fun c20 => absurd c20 (by omega))
      refine r_iload_n d_X4_leastOf_53 rfl ?_
      refine r_iret d_X4_leastOf_54 rfl ?_
      exact ⟨_, rfl, by unfold lsS; rw [← hA, ← hAb, show b = N by omega], same_rf⟩
    | succ k ih =>
      intro b a hbk h0 hAb ha
      have hb := hbd b (by omega)
      have ha' := hbd a (by omega)
      refine r_iload d_X4_leastOf_14 rfl ?_
      refine r_aload_n d_X4_leastOf_16 rfl ?_
      refine r_geti d_X4_leastOf_17 f_X4_75 (tt_122 _ _) (by decide) (by decide) ?_
      refine r_icmp_ge d_X4_leastOf_20 (by omega) (by omega) (fun c20 => absurd c20 (by omega)) (fun c20 => ?_)
      refine r_aload_n d_X4_leastOf_23 rfl ?_
      refine r_iload_n d_X4_leastOf_24 rfl ?_
      refine r_iload_n d_X4_leastOf_25 rfl ?_
      refine r_iload d_X4_leastOf_26 rfl ?_
      refine r_V3i d_X4_leastOf_28 (w_X4_135 _ rfl) (tt_122 _ _) rfl rfl (c_sumOf (i := b) hV hX hN.2 (by omega) hB hm) (by decide) (Nat.le_of_ble_eq_true rfl) (fun z28 T28 I28 L28 R28 h28 => ?_)
      obtain ⟨rfl, rfl, rfl, rfl, rfl⟩ := h28
      refine r_istore d_X4_leastOf_31 (by decide) ?_
      refine r_iload d_X4_leastOf_33 rfl ?_
      refine r_iload d_X4_leastOf_35 rfl ?_
      refine r_icmp_ge d_X4_leastOf_37 (by omega) (by omega) (fun c37 => ?_) (fun c37 => ?_)
      · have hA1 : A (b + 1) = (a : Int) := by
          rw [← hAb, hA]
          rw [hA] at hAb
          exact amin_no (Or.inr ⟨by omega, by rw [hAb, Int.toNat_natCast]; exact c37⟩)
        refine r_iinc d_X4_leastOf_47 rfl (by decide) ?_
        refine r_goto d_X4_leastOf_50 ?_
        first
        | exact CpL (ih (b + 1) a (by omega) (by omega) hA1 (by omega)) (by repeat (first | exact trivial | refine ⟨rfl, ?_⟩))
        | exact CpL (ih (b + 1) b (by omega) (by omega) hA2 (by omega)) (by repeat (first | exact trivial | refine ⟨rfl, ?_⟩))
      · have hA2 : A (b + 1) = (b : Int) := by
          rw [hA]
          rw [hA] at hAb
          exact amin_yes rfl (Or.inr (by rw [hAb, Int.toNat_natCast]; omega))
        refine r_iload d_X4_leastOf_40 rfl ?_
        refine r_istore d_X4_leastOf_42 (by decide) ?_
        refine r_iload d_X4_leastOf_44 rfl ?_
        refine r_istore_n d_X4_leastOf_46 (by decide) ?_
        refine r_iinc d_X4_leastOf_47 rfl (by decide) ?_
        refine r_goto d_X4_leastOf_50 ?_
        first
        | exact CpL (ih (b + 1) a (by omega) (by omega) hA1 (by omega)) (by repeat (first | exact trivial | refine ⟨rfl, ?_⟩))
        | exact CpL (ih (b + 1) b (by omega) (by omega) hA2 (by omega)) (by repeat (first | exact trivial | refine ⟨rfl, ?_⟩))
  have hA1 : A 1 = ((0 : Nat) : Int) := by rw [hA]; exact amin_yes rfl (Or.inl rfl)
  refine r_iconst d_X4_leastOf_0 ?_
  refine r_istore_n d_X4_leastOf_1 (by decide) ?_
  refine r_aload_n d_X4_leastOf_2 rfl ?_
  refine r_iload_n d_X4_leastOf_3 rfl ?_
  refine r_iload_n d_X4_leastOf_4 rfl ?_
  refine r_iconst d_X4_leastOf_5 ?_
  refine r_V3i d_X4_leastOf_6 (w_X4_135 _ rfl) (tt_122 _ _) rfl rfl (c_sumOf (i := 0) hV hX hN.2 (by omega) hB hm) (by decide) (Nat.le_of_ble_eq_true rfl) (fun z6 T6 I6 L6 R6 h6 => ?_)
  obtain ⟨rfl, rfl, rfl, rfl, rfl⟩ := h6
  refine r_istore d_X4_leastOf_9 (by decide) ?_
  refine r_iconst d_X4_leastOf_11 ?_
  refine r_istore d_X4_leastOf_12 (by decide) ?_
  exact CpL (loop (N - 1) 1 0 (by omega) (by omega) hA1 (by omega)) (by repeat (first | exact trivial | refine ⟨rfl, ?_⟩))
def leS (I : sI) (n N mask bits : Nat) : Int := smS I mask bits (lsS I mask bits n N).toNat n
theorem c_worthOf (hV : HV σ nr nw ng) (hX : HX 8 σ nr nw ng I) {N bit : Nat} (hN : 0 < N ∧ N ≤ 720) (hc : I 122 5 = (N : Int)) (hB : CBD (2 ^ chn σ nr) N I) (hb : bit < 3) : Mc g 3 m_X4_worthOf 0 0 [vr 122, vi (bit : Int)] (TT Ls tl) I L (RR tl) (qI fun z T' I' L' R' => z = leS I (2 ^ chn σ nr) N 0 0 - leS I (2 ^ chn σ nr) N (2 ^ bit) 0 - leS I (2 ^ chn σ nr) N (2 ^ bit) (2 ^ bit) ∧ same (TT Ls tl) I L (RR tl) T' I' L' R') := by
  refine Mc_of rfl (Nat.le_of_ble_eq_true rfl) ?_
  have hp : 2 ^ bit ≤ 2 ^ 2 := Nat.pow_le_pow_right (by omega) (by omega)
  have es : sshl 1 (bit : Int) = ((2 ^ bit : Nat) : Int) := sshl_one bit (by omega)
  obtain ⟨a, a1, a2⟩ := lsS_rg (I := I) (mask := 0) (bits := 0) (n := 2 ^ chn σ nr) hN.1
  obtain ⟨b, b1, b2⟩ := lsS_rg (I := I) (mask := 2 ^ bit) (bits := 0) (n := 2 ^ chn σ nr) hN.1
  obtain ⟨c, c1, c2⟩ := lsS_rg (I := I) (mask := 2 ^ bit) (bits := 2 ^ bit) (n := 2 ^ chn σ nr) hN.1
  refine r_iconst d_X4_worthOf_0 ?_
  refine r_iload_n d_X4_worthOf_1 rfl ?_
  refine r_ishl d_X4_worthOf_2 ?_
  rw [es]
  refine r_istore_n d_X4_worthOf_3 (by decide) ?_
  refine r_aload_n d_X4_worthOf_4 rfl ?_
  refine r_iconst d_X4_worthOf_5 ?_
  refine r_iconst d_X4_worthOf_6 ?_
  refine r_aload_n d_X4_worthOf_7 rfl ?_
  refine r_iconst d_X4_worthOf_8 ?_
  refine r_iconst d_X4_worthOf_9 ?_
  refine r_V2i d_X4_worthOf_10 (w_X4_56 _ rfl) (tt_122 _ _) rfl rfl (c_leastOf (mask := 0) (bits := 0) hV hX hN hc hB (by omega)) (by decide) (Nat.le_of_ble_eq_true rfl) (fun z10 T10 I10 L10 R10 h10 => ?_)
  obtain ⟨rfl, rfl, rfl, rfl, rfl⟩ := h10
  rw [a1]
  refine r_V3i d_X4_worthOf_13 (w_X4_135 _ rfl) (tt_122 _ _) rfl rfl (c_sumOf (i := a) (mask := 0) (bits := 0) hV hX hN.2 a2 hB (by omega)) (by decide) (Nat.le_of_ble_eq_true rfl) (fun z13 T13 I13 L13 R13 h13 => ?_)
  obtain ⟨rfl, rfl, rfl, rfl, rfl⟩ := h13
  refine r_istore_n d_X4_worthOf_16 (by decide) ?_
  refine r_aload_n d_X4_worthOf_17 rfl ?_
  refine r_iload_n d_X4_worthOf_18 rfl ?_
  refine r_iconst d_X4_worthOf_19 ?_
  refine r_aload_n d_X4_worthOf_20 rfl ?_
  refine r_iload_n d_X4_worthOf_21 rfl ?_
  refine r_iconst d_X4_worthOf_22 ?_
  refine r_V2i d_X4_worthOf_23 (w_X4_56 _ rfl) (tt_122 _ _) rfl rfl (c_leastOf (mask := 2 ^ bit) (bits := 0) hV hX hN hc hB (by omega)) (by decide) (Nat.le_of_ble_eq_true rfl) (fun z23 T23 I23 L23 R23 h23 => ?_)
  obtain ⟨rfl, rfl, rfl, rfl, rfl⟩ := h23
  rw [b1]
  refine r_V3i d_X4_worthOf_26 (w_X4_135 _ rfl) (tt_122 _ _) rfl rfl (c_sumOf (i := b) (mask := 2 ^ bit) (bits := 0) hV hX hN.2 b2 hB (by omega)) (by decide) (Nat.le_of_ble_eq_true rfl) (fun z26 T26 I26 L26 R26 h26 => ?_)
  obtain ⟨rfl, rfl, rfl, rfl, rfl⟩ := h26
  refine r_istore d_X4_worthOf_29 (by decide) ?_
  refine r_aload_n d_X4_worthOf_31 rfl ?_
  refine r_iload_n d_X4_worthOf_32 rfl ?_
  refine r_iload_n d_X4_worthOf_33 rfl ?_
  refine r_aload_n d_X4_worthOf_34 rfl ?_
  refine r_iload_n d_X4_worthOf_35 rfl ?_
  refine r_iload_n d_X4_worthOf_36 rfl ?_
  refine r_V2i d_X4_worthOf_37 (w_X4_56 _ rfl) (tt_122 _ _) rfl rfl (c_leastOf (mask := 2 ^ bit) (bits := 2 ^ bit) hV hX hN hc hB (by omega)) (by decide) (Nat.le_of_ble_eq_true rfl) (fun z37 T37 I37 L37 R37 h37 => ?_)
  obtain ⟨rfl, rfl, rfl, rfl, rfl⟩ := h37
  rw [c1]
  refine r_V3i d_X4_worthOf_40 (w_X4_135 _ rfl) (tt_122 _ _) rfl rfl (c_sumOf (i := c) (mask := 2 ^ bit) (bits := 2 ^ bit) hV hX hN.2 c2 hB (by omega)) (by decide) (Nat.le_of_ble_eq_true rfl) (fun z40 T40 I40 L40 R40 h40 => ?_)
  obtain ⟨rfl, rfl, rfl, rfl, rfl⟩ := h40
  refine r_istore d_X4_worthOf_43 (by decide) ?_
  refine r_iload_n d_X4_worthOf_45 rfl ?_
  refine r_iload d_X4_worthOf_46 rfl ?_
  refine r_isub d_X4_worthOf_48 ?_
  refine r_iload d_X4_worthOf_49 rfl ?_
  refine r_isub d_X4_worthOf_51 ?_
  refine r_iret d_X4_worthOf_52 rfl ?_
  refine ⟨_, rfl, ?_, same_rf⟩
  unfold leS
  rw [a1, b1, c1, Int.toNat_natCast, Int.toNat_natCast, Int.toNat_natCast]
end C39
