def EE (lv : Nat) : Int := (2 ^ lv - 1) * 17200000000
theorem EE_bd : ∀ lv, lv < 9 → 0 ≤ EE lv ∧ EE lv ≤ 10000000000000 := by decide
theorem EE_suc : ∀ lv, lv < 8 → 2 * EE lv + 17200000000 = EE (lv + 1) ∧ EE lv ≤ EE (lv + 1) := by decide
/-- a level: the rooms s are placed, with prices that show that no placing gains more -/
def LX (P : Nat) (s : Nat → Bool) (G : Nat → Nat → Int) (lv : Nat) (I L : sI) : Prop := LVL P (SS s) G (L (90 + lv)) (L (100 + lv)) (I (110 + lv)) (EE lv) ∧ (∀ ρ, ρ < P → s ρ = false → L (90 + lv) ρ = 0) ∧ (∀ ρ, ρ < 8 → s ρ = true → ∀ j, j < P → L (81 + ρ) j = G ρ j) ∧ (∀ ρ, s ρ = true → ρ < P)
theorem LX_congr {P : Nat} {s : Nat → Bool} {G G' : Nat → Nat → Int} {lv : Nat} {I L I' L' : sI} (h : LX P s G lv I L) (h1 : L' (90 + lv) = L (90 + lv)) (h2 : L' (100 + lv) = L (100 + lv)) (h3 : I' (110 + lv) = I (110 + lv)) (h4 : ∀ ρ, ρ < 8 → s ρ = true → L' (81 + ρ) = L (81 + ρ)) (hG : ∀ ρ j, ρ < 8 → s ρ = true → j < P → G' ρ j = G ρ j) : LX P s G' lv I' L' := by
  obtain ⟨q1, q2, q3, q4⟩ := h
  refine ⟨LVL_congr q1 (Int.le_refl _) (fun j hj => by rw [h2, h3]; exact ⟨rfl, rfl⟩) (fun ρ hρ => by rw [h1]) (fun ρ j hρ hj => hG ρ j hρ.1 hρ.2 hj), fun ρ hρ h => by rw [h1]; exact q2 ρ hρ h, fun ρ hρ hs j hj => by rw [h4 ρ hρ hs, hG ρ j hρ hs hj]; exact q3 ρ hρ hs j hj, q4⟩
theorem LX_begin {P : Nat} {G : Nat → Nat → Int} {I L : sI} (hP : 0 < P) (h : ∀ j, j < P → L 90 j = 0 ∧ L 100 j = 0 ∧ I 110 j = -1) : LX P (fun _ => false) G 0 I L := by
  have no : ∀ ρ, ¬ SS (fun _ => false) ρ := fun ρ h => by cases h.2
  refine ⟨⟨fun j hj => Or.inl (h j hj).2.2, fun i j hi hj e q => absurd (h i hi).2.2 q, fun r hr => absurd hr (no r), fun r j hr => absurd hr (no r), fun r j hr => absurd hr (no r), fun j hj => ?_, fun r hr => absurd hr (no r), 0, hP, (h 0 hP).2.1⟩, fun ρ hρ _ => (h ρ hρ).1, fun ρ _ h => (by cases h), fun ρ h => (by cases h)⟩
  have := (h j hj).2.1
  have e : EE 0 = 0 := by decide
  show (-EE 0 ≤ L 100 j ∧ L 100 j ≤ 0) ∧ (I 110 j = -1 → L 100 j = 0)
  rw [e]
  omega
section K4
variable {g : sG} {Ls : Nat} {tl : List Nat} {I L : sI} {P lv r ng : Nat} {s : Nat → Bool} {G : Nat → Nat → Int} {σ : Sg} {fm : Nat → Nat}
theorem LX_keep {I' L' : sI} (hl : lv < 8) (hX : LX P s G lv I L) (hP : P ≤ 8) (k2 : ∀ a, ¬ (a = 91 + lv ∨ a = 101 + lv) → L' a = L a) (k3 : ∀ j, j < P → L' (91 + lv) j = L (90 + lv) j ∧ L' (101 + lv) j = L (100 + lv) j ∧ I' (111 + lv) j = I (110 + lv) j) : LX P s G (lv + 1) I' L' := by
  obtain ⟨q1, q2, q3, q4⟩ := hX
  rw [show 91 + lv = 90 + (lv + 1) by omega, show 101 + lv = 100 + (lv + 1) by omega, show 111 + lv = 110 + (lv + 1) by omega] at k3
  refine ⟨LVL_congr q1 (EE_suc lv hl).2 (fun j hj => ⟨(k3 j hj).2.1, (k3 j hj).2.2⟩) (fun ρ hρ => (k3 ρ (q4 ρ hρ.2)).1) (fun _ _ _ _ => rfl), fun ρ hρ h => by rw [(k3 ρ hρ).1]; exact q2 ρ hρ h, fun ρ hρ h j hj => by rw [k2 _ (by omega)]; exact q3 ρ hρ h j hj, q4⟩
theorem c_add (h1 : I 79 1 = (P : Int)) (hP : P ≤ 8) (hl : lv < 8) (hX : LX P s G lv I L) (hG : ∀ ρ j, ρ < 8 → j < P → 0 ≤ G ρ j ∧ G ρ j ≤ 17200000000) (hr : r < P) (hsr : s r = false) (h2 : I 8 5 = (ng : Int)) (h8 : ng ≤ 8) (hg : ∀ q, q < ng → GV σ q) (hI : ∀ q, q < ng → ∀ k, k < 4 → I (23 + q) k = σ (10 + k) q) (hF : FX ng fm I) (hR : RKX L) {rd : Int} (hrd : -1 ≤ rd ∧ rd ≤ 44) (hGr : ∀ j, j < P → G r j = gnS σ ng fm rd r j) : Mc g 2 m_X3_add 0 0 [vr 79, vi (lv : Int), vi (r : Int), vi rd] (TT Ls tl) I L (RR tl) (qV fun T' I' L' R' => T' = TT Ls tl ∧ R' = RR tl ∧ (∀ a, ¬ (a = 111 + lv ∨ a = 120 ∨ a = 121) → I' a = I a) ∧ (∀ a, ¬ (a = 81 + r ∨ a = 91 + lv ∨ a = 101 + lv ∨ a = 119) → L' a = L a) ∧ LX P (addS s r) G (lv + 1) I' L') := by
  refine Mc_of rfl (Nat.le_of_ble_eq_true rfl) ?_
  obtain ⟨x1, x2, x3, x4⟩ := id hX
  refine r_iload_n d_X3_add_0 rfl ?_
  refine r_bipush d_X3_add_1 (by decide) ?_
  refine r_SN2i d_X3_add_3 (w_X3_64 _ rfl) (c_isBelow (by omega) (by omega)) (by decide) (Nat.le_of_ble_eq_true rfl) (fun z3 T3 I3 L3 R3 h3 => ?_)
  obtain ⟨rfl, rfl, rfl, rfl, rfl⟩ := h3
  refine r_if_eq d_X3_add_6 (by split <;> omega) (fun c6 => absurd c6 (by rw [if_pos (by omega)]; decide)) (fun c6 => ?_)
  refine r_iload_n d_X3_add_9 rfl ?_
  refine r_bipush d_X3_add_10 (by decide) ?_
  refine r_SN2i d_X3_add_12 (w_X3_64 _ rfl) (c_isBelow (by omega) (by omega)) (by decide) (Nat.le_of_ble_eq_true rfl) (fun z12 T12 I12 L12 R12 h12 => ?_)
  obtain ⟨rfl, rfl, rfl, rfl, rfl⟩ := h12
  refine r_if_ne d_X3_add_15 (by split <;> omega) (fun c15 => ?_) (fun c15 => absurd c15 (by rw [if_pos (by omega)]; decide))
  refine r_aload_n d_X3_add_19 rfl ?_
  refine r_iload_n d_X3_add_20 rfl ?_
  refine r_V1v d_X3_add_21 (w_X3_74 _ rfl) (tt_79 _ _) rfl rfl (c_keep h1 hP hl) (by decide) (Nat.le_of_ble_eq_true rfl) (fun T21 I21 L21 R21 h21 => ?_)
  obtain ⟨rfl, rfl, k1, k2, k3⟩ := h21
  have hX1 : LX P s G (lv + 1) I21 L21 := LX_keep hl hX hP k2 k3
  have f1 : I21 79 1 = (P : Int) := by rw [k1 79 (by omega)]; exact h1
  refine r_aload_n d_X3_add_24 rfl ?_
  refine r_iload_n d_X3_add_25 rfl ?_
  refine r_iload_n d_X3_add_26 rfl ?_
  refine r_V2v d_X3_add_27 (w_X3_78 _ rfl) (tt_79 _ _) rfl rfl (c_weigh (σ := σ) (fm := fm) f1 hP (by rw [k1 8 (by omega)]; exact h2) h8 hg (fun q hq k hk => by rw [k1 _ (by omega)]; exact hI q hq k hk) (fun j hj => by rw [k1 32 (by omega)]; exact hF j hj) (fun j hj => by rw [k2 2 (by omega)]; exact hR j hj) (by omega) hrd) (by decide) (Nat.le_of_ble_eq_true rfl) (fun T27 I27 L27 R27 h27 => ?_)
  obtain ⟨rfl, rfl, rfl, w1, w2⟩ := h27
  have hX2 : LX P s G (lv + 1) I27 L27 := LX_congr hX1 (w1 _ (by omega)) (w1 _ (by omega)) rfl (fun ρ hρ hs => w1 _ (fun e => by rw [show ρ = r by omega, hsr] at hs; cases hs)) (fun _ _ _ _ _ => rfl)
  obtain ⟨-, y2, y3, y4⟩ := id hX2
  have y1 : LVL P (SS s) G (L27 (90 + (lv + 1))) (L27 (100 + (lv + 1))) (I27 (110 + (lv + 1))) (EE lv) := LVL_congr x1 (Int.le_refl _) (fun j hj => ⟨by rw [w1 _ (by omega), show 100 + (lv + 1) = 101 + lv by omega]; exact (k3 j hj).2.1, by rw [show 110 + (lv + 1) = 111 + lv by omega]; exact (k3 j hj).2.2⟩) (fun ρ hρ => by rw [w1 _ (by omega), show 90 + (lv + 1) = 91 + lv by omega]; exact (k3 ρ (x4 ρ hρ.2)).1) (fun _ _ _ _ => rfl)
  have hgr : ∀ ρ, ρ < 8 → (s ρ = true ∨ ρ = r) → ∀ j, j < P → L27 (81 + ρ) j = G ρ j := fun ρ hρ h j hj => by
    rcases h with h | h
    · exact y3 ρ hρ h j hj
    · rw [h, w2 j hj, hGr j hj]
  refine r_aload_n d_X3_add_30 rfl ?_
  refine r_iload_n d_X3_add_31 rfl ?_
  refine r_iconst d_X3_add_32 ?_
  refine r_iadd d_X3_add_33 ?_
  refine r_iload_n d_X3_add_34 rfl ?_
  rw [show (lv : Int) + 1 = ((lv + 1 : Nat) : Int) from rfl]
  refine r_V2i d_X3_add_35 (w_X3_82 _ rfl) (tt_79 _ _) rfl rfl (c_cheapestEnd f1 hP (by omega) y1 (EE_bd lv (by omega)) hG hgr y4 hr hsr (y2 r hr hsr)) (by decide) (Nat.le_of_ble_eq_true rfl) (fun z35 T35 I35 L35 R35 h35 => ?_)
  obtain ⟨en, rfl, rfl, rfl, c1, c2, hJ, c4, c5, o, bb, c6, c7⟩ := h35
  obtain ⟨d1, d2, d3, d4, d5, d6, d7, d8⟩ := id hJ
  obtain ⟨l1, l2, l3, l4, l5, l6, l7, l8⟩ := id y1
  have f2 : I35 79 1 = (P : Int) := by rw [c1 79 (by omega)]; exact f1
  have e110 : I35 (110 + (lv + 1)) = I27 (110 + (lv + 1)) := c1 _ (by omega)
  have ha : ∀ j, j < P → I35 121 j = 1 → ∃ ρ : Nat, I35 (110 + (lv + 1)) j = (ρ : Int) ∧ ρ < 8 ∧ ρ ≠ r := fun j hj e => by
    rw [e110]
    rcases l1 j hj with q | ⟨ρ, q1, q2⟩
    · exact absurd q (d4 j hj e).1
    · exact ⟨ρ, q1, q2.1, fun e2 => by rw [e2] at q2; rw [q2.2] at hsr; cases hsr⟩
  refine r_istore d_X3_add_38 (by decide) ?_
  refine r_iload d_X3_add_40 rfl ?_
  refine r_iconst d_X3_add_42 ?_
  refine r_icmp_eq d_X3_add_43 (by omega) (by omega) (fun c43 => absurd c43 (by omega)) (fun c43 => ?_)
  refine r_aload_n d_X3_add_46 rfl ?_
  refine r_iload_n d_X3_add_47 rfl ?_
  refine r_iconst d_X3_add_48 ?_
  refine r_iadd d_X3_add_49 ?_
  refine r_iload_n d_X3_add_50 rfl ?_
  refine r_iload d_X3_add_51 rfl ?_
  rw [show (lv : Int) + 1 = ((lv + 1 : Nat) : Int) from rfl]
  refine r_V3v d_X3_add_53 (w_X3_85 _ rfl) (tt_79 _ _) rfl rfl (c_reprice f2 hP (by omega) ha (by rw [e110]; exact l2) c5 d1 (by omega)) (by decide) (Nat.le_of_ble_eq_true rfl) (fun T53 I53 L53 R53 h53 => ?_)
  obtain ⟨rfl, rfl, rfl, p1, p2, p3, p4, p5, p6⟩ := h53
  have e119 : L53 119 = L35 119 := p1 119 (by omega)
  have e90 : L35 (90 + (lv + 1)) = L27 (90 + (lv + 1)) := c2 _ (by omega)
  have e100 : L35 (100 + (lv + 1)) = L27 (100 + (lv + 1)) := c2 _ (by omega)
  rw [e90] at p2 p3 p4
  rw [e100] at p5 p6
  rw [e110] at p3 p4
  have hRP := hung_reprice (u' := L53 (90 + (lv + 1))) (v' := L53 (100 + (lv + 1))) y1 (fun h => by rw [h.2] at hsr; cases hsr) (fun j hj => hG r j (by omega) hj) (fun ρ j hρ hj => (hG ρ j hρ.1 hj).1) hJ (fun j hj => (c4 j hj).1) (by rw [p2, y2 r hr hsr]; omega) (fun ρ j hρ hj hD ha' => p3 j ρ hj hD ha') (fun ρ j hρ hj hD ha' => p4 ρ (fun e => by rw [e] at hρ; rw [hρ.2] at hsr; cases hsr) (fun j' hj' e q => hD (by rw [l2 j j' hj hj' (by omega) (by omega)]; exact e))) (fun j hj hD => p5 j hj hD) (fun j hj hD => p6 j hj (by rcases c5 j hj with q | q; exact q; exact absurd q hD)) (EE_bd lv (by omega)).1 (by omega)
  have hho := hol_start y1 hRP ⟨d1, d2⟩
  rw [← e110] at hRP hho
  refine r_aload_n d_X3_add_56 rfl ?_
  refine r_iload_n d_X3_add_57 rfl ?_
  refine r_iconst d_X3_add_58 ?_
  refine r_iadd d_X3_add_59 ?_
  refine r_iload_n d_X3_add_60 rfl ?_
  refine r_iload d_X3_add_61 rfl ?_
  rw [show (lv : Int) + 1 = ((lv + 1 : Nat) : Int) from rfl]
  refine r_V3v d_X3_add_63 (w_X3_89 _ rfl) (tt_79 _ _) rfl rfl (c_moveAlong f2 hP (by omega) hRP hho ⟨d1, by rw [e110]; exact d2, d3⟩ (by omega) hsr c6 c7) (by decide) (Nat.le_of_ble_eq_true rfl) (fun T63 I63 L63 R63 h63 => ?_)
  obtain ⟨rfl, rfl, rfl, m1, m2⟩ := h63
  refine r_vret d_X3_add_66 rfl ?_
  refine ⟨rfl, rfl, rfl, fun a ha' => ?_, fun a ha' => ?_, ?_, fun ρ hρ h => ?_, fun ρ hρ h j hj => ?_, fun ρ h => ?_⟩
  · rw [m1 a (by omega), c1 a (by omega)]; exact k1 a (by omega)
  · rw [p1 a (by omega), c2 a (by omega), w1 a (by omega)]; exact k2 a (by omega)
  · rw [(EE_suc lv hl).1] at m2; exact m2
  · have h : (s ρ || decide (ρ = r)) = false := h
    rw [Bool.or_eq_false_iff, decide_eq_false_iff_not] at h
    rw [p4 ρ h.2 (fun j hj e q => ?_)]
    · exact y2 ρ hρ h.1
    · rcases l1 j hj with q1 | ⟨ρ', q1, q2⟩
      · omega
      · rw [show ρ = ρ' by omega, q2.2] at h; exact absurd h.1 (by decide)
  · have h : (s ρ || decide (ρ = r)) = true := h
    rw [Bool.or_eq_true, decide_eq_true_iff] at h
    rw [p1 _ (by omega), c2 _ (by omega)]
    exact hgr ρ hρ h j hj
  · have h : (s ρ || decide (ρ = r)) = true := h
    rw [Bool.or_eq_true, decide_eq_true_iff] at h
    rcases h with h | h
    · exact y4 ρ h
    · omega
theorem gain_bd {a : Nat → Int} (ha : ∀ j, j < P → a j = -1 ∨ ∃ ρ : Nat, a j = (ρ : Int) ∧ ρ < 8) (hG : ∀ ρ j, ρ < 8 → j < P → 0 ≤ G ρ j ∧ G ρ j ≤ 17200000000) : ∀ n, n ≤ P → 0 ≤ gainOf G a n ∧ gainOf G a n ≤ n * 17200000000
  | 0, _ => by show (0 : Int) ≤ 0 ∧ (0 : Int) ≤ _; omega
  | n + 1, h => by
    have ih := gain_bd ha hG n (by omega)
    show 0 ≤ gainOf G a n + (if a n = -1 then 0 else G (a n).toNat n) ∧ gainOf G a n + (if a n = -1 then 0 else G (a n).toNat n) ≤ _
    rcases ha n (by omega) with q | ⟨ρ, q, q2⟩
    · rw [if_pos q]; omega
    · rw [if_neg (by omega), q, Int.toNat_natCast]
      have := hG ρ n q2 (by omega)
      omega
theorem c_savedAt (h1 : I 79 1 = (P : Int)) (hP : P ≤ 8) (hl : lv < 9) (ha : ∀ j, j < P → I (110 + lv) j = -1 ∨ ∃ ρ : Nat, I (110 + lv) j = (ρ : Int) ∧ ρ < 8 ∧ ∀ j, j < P → L (81 + ρ) j = G ρ j) (hG : ∀ ρ j, ρ < 8 → j < P → 0 ≤ G ρ j ∧ G ρ j ≤ 17200000000) : Mc g 0 m_X3_savedAt 0 0 [vr 79, vi (lv : Int)] (TT Ls tl) I L (RR tl) (qI fun z T' I' L' R' => z = gainOf G (I (110 + lv)) P / 43046721 ∧ same (TT Ls tl) I L (RR tl) T' I' L' R') := by
  refine Mc_of rfl (Nat.le_of_ble_eq_true rfl) ?_
  have hb := gain_bd (a := I (110 + lv)) (P := P) (G := G) (fun j hj => by rcases ha j hj with q | ⟨ρ, q1, q2, -⟩; exact Or.inl q; exact Or.inr ⟨ρ, q1, q2⟩) hG
  have loop : ∀ (k b : Nat), b + k = P → Cp g 0 m_X3_savedAt 0 0 (qI fun z T' I' L' R' => z = gainOf G (I (110 + lv)) P / 43046721 ∧ same (TT Ls tl) I L (RR tl) T' I' L' R') 5 [(0, vr 79), (1, vi (lv : Int)), (2, vl (gainOf G (I (110 + lv)) b)), (4, vi (b : Int))] [] (TT Ls tl) I L (RR tl) := by
    intro k
    induction k with
    | zero =>
      intro b hbk
      have hq := hb b (by omega)
      refine r_iload d_X3_savedAt_5 rfl ?_
      refine r_aload_n d_X3_savedAt_7 rfl ?_
      refine r_geti d_X3_savedAt_8 f_X3_61 (tt_79 _ _) (by decide) (by decide) ?_
      refine r_icmp_ge d_X3_savedAt_11 (by omega) (by omega) (fun c11 => ?_) (fun c11 => absurd c11 (by omega))
      refine r_lload_n d_X3_savedAt_53 rfl ?_
      refine r_ldc2 d_X3_savedAt_54 (k_X3_98 _ rfl) ?_
      refine r_ldiv d_X3_savedAt_57 (by omega) (by omega) ?_
      refine r_l2i d_X3_savedAt_58 ?_
      refine r_iret d_X3_savedAt_59 rfl ?_
      exact ⟨_, rfl, by rw [show b = P by omega], same_rf⟩
    | succ k ih =>
      intro b hbk
      have hj := ha b (by omega)
      rcases hj with q | ⟨ρ, q, q2, q3⟩
      · have e : gainOf G (I (110 + lv)) b = gainOf G (I (110 + lv)) (b + 1) := by
          show _ = gainOf G (I (110 + lv)) b + (if I (110 + lv) b = -1 then 0 else G (I (110 + lv) b).toNat b)
          rw [if_pos q]; omega
        rw [e]
        refine r_iload d_X3_savedAt_5 rfl ?_
        refine r_aload_n d_X3_savedAt_7 rfl ?_
        refine r_geti d_X3_savedAt_8 f_X3_61 (tt_79 _ _) (by decide) (by decide) ?_
        refine r_icmp_ge d_X3_savedAt_11 (by omega) (by omega) (fun c11 => absurd c11 (by omega)) (fun c11 => ?_)
        refine r_aload_n d_X3_savedAt_14 rfl ?_
        refine r_getr d_X3_savedAt_15 f_X3_24 (tt_79 _ _) (by decide) rfl (rr_79_5 _) ?_
        refine r_iload_n d_X3_savedAt_18 rfl ?_
        refine r_aaldJ d_X3_savedAt_19 (tt_109 _ _) (by decide) rfl (by omega) (rr2_109 _ (by omega)) (kk := ?_)
        refine r_iload d_X3_savedAt_20 rfl ?_
        refine r_ialdJ d_X3_savedAt_22 (tt2_109 _ _ (by omega)) rfl (by omega) (kk := ?_)
        refine r_iconst d_X3_savedAt_23 ?_
        refine r_icmp_eq d_X3_savedAt_24 (by omega) (by omega) (fun c24 => ?_) (fun c24 => absurd c24 (by omega))
        refine r_iinc d_X3_savedAt_47 rfl (by decide) ?_
        refine r_goto d_X3_savedAt_50 ?_
        exact CpL (ih (b + 1) (by omega)) (by repeat (first | exact trivial | refine ⟨rfl, ?_⟩))
      · have e : gainOf G (I (110 + lv)) b + L (81 + ρ) b = gainOf G (I (110 + lv)) (b + 1) := by
          show _ = gainOf G (I (110 + lv)) b + (if I (110 + lv) b = -1 then 0 else G (I (110 + lv) b).toNat b)
          rw [if_neg (by omega), q, Int.toNat_natCast, q3 b (by omega)]
        refine r_iload d_X3_savedAt_5 rfl ?_
        refine r_aload_n d_X3_savedAt_7 rfl ?_
        refine r_geti d_X3_savedAt_8 f_X3_61 (tt_79 _ _) (by decide) (by decide) ?_
        refine r_icmp_ge d_X3_savedAt_11 (by omega) (by omega) (fun c11 => absurd c11 (by omega)) (fun c11 => ?_)
        refine r_aload_n d_X3_savedAt_14 rfl ?_
        refine r_getr d_X3_savedAt_15 f_X3_24 (tt_79 _ _) (by decide) rfl (rr_79_5 _) ?_
        refine r_iload_n d_X3_savedAt_18 rfl ?_
        refine r_aaldJ d_X3_savedAt_19 (tt_109 _ _) (by decide) rfl (by omega) (rr2_109 _ (by omega)) (kk := ?_)
        refine r_iload d_X3_savedAt_20 rfl ?_
        refine r_ialdJ d_X3_savedAt_22 (tt2_109 _ _ (by omega)) rfl (by omega) (kk := ?_)
        refine r_iconst d_X3_savedAt_23 ?_
        refine r_icmp_eq d_X3_savedAt_24 (by omega) (by omega) (fun c24 => absurd c24 (by omega)) (fun c24 => ?_)
        refine r_lload_n d_X3_savedAt_27 rfl ?_
        refine r_aload_n d_X3_savedAt_28 rfl ?_
        refine r_getr d_X3_savedAt_29 f_X3_11 (tt_79 _ _) (by decide) rfl (rr_79_2 _) ?_
        refine r_aload_n d_X3_savedAt_32 rfl ?_
        refine r_getr d_X3_savedAt_33 f_X3_24 (tt_79 _ _) (by decide) rfl (rr_79_5 _) ?_
        refine r_iload_n d_X3_savedAt_36 rfl ?_
        refine r_aaldJ d_X3_savedAt_37 (tt_109 _ _) (by decide) rfl (by omega) (rr2_109 _ (by omega)) (kk := ?_)
        refine r_iload d_X3_savedAt_38 rfl ?_
        refine r_ialdJ d_X3_savedAt_40 (tt2_109 _ _ (by omega)) rfl (by omega) (kk := ?_)
        refine r_aaldJ (j := ρ) d_X3_savedAt_41 (tt_80 _ _) (by decide) (by omega) (by omega) (rr2_80 _ (by omega)) (kk := ?_)
        refine r_iload d_X3_savedAt_42 rfl ?_
        refine r_laldJ d_X3_savedAt_44 (tt2_80 _ _ (by omega)) rfl (by omega) (kk := ?_)
        refine r_ladd d_X3_savedAt_45 ?_
        rw [e]
        refine r_lstore_n d_X3_savedAt_46 (by decide) ?_
        refine r_iinc d_X3_savedAt_47 rfl (by decide) ?_
        refine r_goto d_X3_savedAt_50 ?_
        exact CpL (ih (b + 1) (by omega)) (by repeat (first | exact trivial | refine ⟨rfl, ?_⟩))
  refine r_lconst (z := 0) d_X3_savedAt_0 rfl ?_
  refine r_lstore_n d_X3_savedAt_1 (by decide) ?_
  refine r_iconst d_X3_savedAt_2 ?_
  refine r_istore d_X3_savedAt_3 (by decide) ?_
  exact CpL (loop P 0 (by omega)) (by repeat (first | exact trivial | refine ⟨rfl, ?_⟩))
theorem c_roomFor (hP : P ≤ 8) (hl : lv < 9) {q : Nat} (hq : q < P) (ha : I (110 + lv) q = -1 ∨ ∃ ρ : Nat, I (110 + lv) q = (ρ : Int) ∧ ρ < 8 ∧ L (81 + ρ) q = G ρ q) (hG : ∀ ρ j, ρ < 8 → j < P → 0 ≤ G ρ j ∧ G ρ j ≤ 17200000000) : Mc g 0 m_X3_roomFor 0 0 [vr 79, vi (lv : Int), vi (q : Int)] (TT Ls tl) I L (RR tl) (qI fun z T' I' L' R' => z = (if I (110 + lv) q ≠ -1 ∧ 0 < G (I (110 + lv) q).toNat q then I (110 + lv) q else -1) ∧ same (TT Ls tl) I L (RR tl) T' I' L' R') := by
  refine Mc_of rfl (Nat.le_of_ble_eq_true rfl) ?_
  rcases ha with h | ⟨ρ, h, h2, h3⟩
  · skip
    refine r_aload_n d_X3_roomFor_0 rfl ?_
    refine r_getr d_X3_roomFor_1 f_X3_24 (tt_79 _ _) (by decide) rfl (rr_79_5 _) ?_
    refine r_iload_n d_X3_roomFor_4 rfl ?_
    refine r_aaldJ d_X3_roomFor_5 (tt_109 _ _) (by decide) rfl (by omega) (rr2_109 _ (by omega)) (kk := ?_)
    refine r_iload_n d_X3_roomFor_6 rfl ?_
    refine r_ialdJ d_X3_roomFor_7 (tt2_109 _ _ (by omega)) rfl (by omega) (kk := ?_)
    refine r_istore_n d_X3_roomFor_8 (by decide) ?_
    refine r_iload_n d_X3_roomFor_9 rfl ?_
    refine r_iconst d_X3_roomFor_10 ?_
    refine r_icmp_eq d_X3_roomFor_11 (by omega) (by omega) (fun c11 => ?_) (fun c11 => absurd c11 (by omega))
    refine r_iconst d_X3_roomFor_31 ?_
    refine r_iret d_X3_roomFor_32 rfl ?_
    exact ⟨_, rfl, by rw [if_neg (by omega)], same_rf⟩
  · have hb := hG ρ q h2 hq
    refine r_aload_n d_X3_roomFor_0 rfl ?_
    refine r_getr d_X3_roomFor_1 f_X3_24 (tt_79 _ _) (by decide) rfl (rr_79_5 _) ?_
    refine r_iload_n d_X3_roomFor_4 rfl ?_
    refine r_aaldJ d_X3_roomFor_5 (tt_109 _ _) (by decide) rfl (by omega) (rr2_109 _ (by omega)) (kk := ?_)
    refine r_iload_n d_X3_roomFor_6 rfl ?_
    refine r_ialdJ d_X3_roomFor_7 (tt2_109 _ _ (by omega)) rfl (by omega) (kk := ?_)
    refine r_istore_n d_X3_roomFor_8 (by decide) ?_
    refine r_iload_n d_X3_roomFor_9 rfl ?_
    refine r_iconst d_X3_roomFor_10 ?_
    refine r_icmp_eq d_X3_roomFor_11 (by omega) (by omega) (fun c11 => absurd c11 (by omega)) (fun c11 => ?_)
    refine r_aload_n d_X3_roomFor_14 rfl ?_
    refine r_getr d_X3_roomFor_15 f_X3_11 (tt_79 _ _) (by decide) rfl (rr_79_2 _) ?_
    refine r_iload_n d_X3_roomFor_18 rfl ?_
    refine r_aaldJ (j := ρ) d_X3_roomFor_19 (tt_80 _ _) (by decide) (by omega) (by omega) (rr2_80 _ (by omega)) (kk := ?_)
    refine r_iload_n d_X3_roomFor_20 rfl ?_
    refine r_laldJ d_X3_roomFor_21 (tt2_80 _ _ (by omega)) rfl (by omega) (kk := ?_)
    refine r_lconst (z := 0) d_X3_roomFor_22 rfl ?_
    rw [h3]
    refine r_lcmp d_X3_roomFor_23 (by omega) (by omega) ?_
    refine r_if_le d_X3_roomFor_24 (by have := cmp_rg (x := G ρ q) (y := 0); omega) (fun c24 => ?_) (fun c24 => ?_)
    · refine r_iconst d_X3_roomFor_31 ?_
      refine r_iret d_X3_roomFor_32 rfl ?_
      first
      | exact ⟨_, rfl, by rw [if_pos ⟨by omega, by rw [h, Int.toNat_natCast]; exact Int.not_le.mp (fun e => c24 (by rw [if_neg (by omega)]; split <;> omega))⟩], same_rf⟩
      | exact ⟨_, rfl, by rw [if_neg (fun e => by have e2 := e.2; rw [h, Int.toNat_natCast] at e2; rw [if_pos e2] at c24; omega)], same_rf⟩
    · refine r_iload_n d_X3_roomFor_27 rfl ?_
      refine r_goto d_X3_roomFor_28 ?_
      refine r_iret d_X3_roomFor_32 rfl ?_
      first
      | exact ⟨_, rfl, by rw [if_pos ⟨by omega, by rw [h, Int.toNat_natCast]; exact Int.not_le.mp (fun e => c24 (by rw [if_neg (by omega)]; split <;> omega))⟩], same_rf⟩
      | exact ⟨_, rfl, by rw [if_neg (fun e => by have e2 := e.2; rw [h, Int.toNat_natCast] at e2; rw [if_pos e2] at c24; omega)], same_rf⟩
end K4
