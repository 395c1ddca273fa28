def gnF (σ : Sg) (nr ng : Nat) (rd : Nat → Int) (ρ j : Nat) : Int := if ρ < nr then gnS σ ng (fun q => fmS σ q nr) (rd ρ) ρ j else 0
def dnS (n : Nat) (rd : Nat → Int) (ρ : Nat) : Bool := decide (ρ < n ∧ rd ρ ≠ -1)
/-- a giving: at each place no room or one that is done, no room twice -/
def GOK (P : Nat) (s : Nat → Bool) (a : Nat → Int) : Prop := (∀ j, j < P → a j = -1 ∨ ∃ ρ : Nat, a j = (ρ : Int) ∧ ρ < 8 ∧ s ρ = true) ∧ (∀ i j, i < P → j < P → a i = a j → a i ≠ -1 → i = j)
def OPT (P : Nat) (s : Nat → Bool) (G : Nat → Nat → Int) (a : Nat → Int) : Prop := GOK P s a ∧ ∀ b, GOK P s b → gainOf G b P ≤ gainOf G a P
theorem LX_opt {P : Nat} {s : Nat → Bool} {G : Nat → Nat → Int} {lv : Nat} {I L : sI} (h : LX P s G lv I L) : OPT P s G (I (110 + lv)) := ⟨⟨h.1.1, h.1.2.1⟩, fun _ hb => hung_opt h.1 hb.1 hb.2⟩
def wsR (G : Nat → Nat → Int) (a : Nat → Int) (q : Nat) : Int := if a q ≠ -1 ∧ 0 < G (a q).toNat q then a q else -1
theorem gnF_bd {σ : Sg} {nr ng : Nat} {rd : Nat → Int} (hg : ∀ q, q < ng → GV σ q) (hrd : ∀ r, r < nr → -1 ≤ rd r ∧ rd r ≤ 44) {P : Nat} (hP : P ≤ 8) : ∀ ρ j, ρ < 8 → j < P → 0 ≤ gnF σ nr ng rd ρ j ∧ gnF σ nr ng rd ρ j ≤ 17200000000 := by
  intro ρ j h1 h2
  unfold gnF
  split
  · next h => exact gnS_bd hg (by omega) h1 (hrd ρ h)
  · omega
section C36
variable {g : sG} {Ls : Nat} {tl : List Nat} {I L : sI} {σ : Sg} {nr nw ng : Nat} {rd : Nat → Int}
theorem c_giveWisely (hV : HV σ nr nw ng) (hX : HX 8 σ nr nw ng I) (hH : HS 8 σ nr ng I) (hR : RKX L) (h0 : 0 < nr) (hrd : ∀ r, r < nr → I 76 r = rd r ∧ -1 ≤ rd r ∧ rd r ≤ 44) {P : Nat} (hP : P = max ng nr) : Mc g 3 m_X1_giveWisely 0 0 [vr 77, vr 76] (TT Ls tl) I L (RR tl) (qI fun z T' I' L' R' => T' = TT Ls tl ∧ R' = RR tl ∧ frb 78 122 I I' ∧ frb 81 120 L L' ∧ ∃ a, OPT P (dnS nr rd) (gnF σ nr ng rd) a ∧ z = bareS σ ng - gainOf (gnF σ nr ng rd) a P / 43046721 ∧ (∀ q, q < ng → I' 78 q = wsR (gnF σ nr ng rd) a q)) := by
  refine Mc_of rfl (Nat.le_of_ble_eq_true rfl) ?_
  obtain ⟨v1, v2, v3, v4, v5, v6, v7⟩ := id hV
  have hP8 : P ≤ 8 := by omega
  have hPr : nr ≤ P := by omega
  have hPg : ng ≤ P := by omega
  have hG := gnF_bd (σ := σ) (nr := nr) (rd := rd) v6 (fun r hr => ⟨(hrd r hr).2.1, (hrd r hr).2.2⟩) hP8
  obtain ⟨G, hGd⟩ : ∃ G, G = gnF σ nr ng rd := ⟨_, rfl⟩
  rw [← hGd] at hG
  obtain ⟨Q, hQ⟩ : ∃ Q : sQ, Q = (qI fun z T' I' L' R' => T' = TT Ls tl ∧ R' = RR tl ∧ frb 78 122 I I' ∧ frb 81 120 L L' ∧ ∃ a, OPT P (dnS nr rd) G a ∧ z = bareS σ ng - gainOf G a P / 43046721 ∧ (∀ q, q < ng → I' 78 q = wsR G a q)) := ⟨_, rfl⟩
  rw [← hGd, ← hQ]
  have hnr : ∀ {I1 : sI}, frb 78 122 I I1 → I1 8 3 = (nr : Int) := fun f => by rw [f 8 (by omega)]; exact hX.1
  have hng : ∀ {I1 : sI}, frb 78 122 I I1 → I1 8 5 = (ng : Int) := fun f => by rw [f 8 (by omega)]; exact hX.2.2.1
  have last : ∀ (k b : Nat) (I1 L1 : sI), b + k = ng → frb 78 122 I I1 → frb 81 120 L L1 → I1 79 1 = (P : Int) → LX P (dnS nr rd) G nr I1 L1 → (∀ q, q < b → I1 78 q = wsR G (I1 (110 + nr)) q) → Cp g 3 m_X1_giveWisely 0 0 Q 58 [(0, vr 77), (1, vr 76), (2, vi (b : Int))] [] (TT Ls tl) I1 L1 (RR tl) := by
    intro k
    induction k with
    | zero =>
      intro b I1 L1 hbk fI fL hp hL p
      have hb : b = ng := by omega
      subst hb
      have e3 := hnr fI
      have e5 := hng fI
      have e11 : I1 8 11 = bareS σ b := by rw [fI 8 (by omega)]; exact hH.2.2.2
      obtain ⟨l1, l2, l3, l4⟩ := id hL
      have hpl : ∀ j, j < P → I1 (110 + nr) j = -1 ∨ ∃ ρ : Nat, I1 (110 + nr) j = (ρ : Int) ∧ ρ < 8 ∧ ∀ j, j < P → L1 (81 + ρ) j = G ρ j := fun j hj => by
        rcases l1.1 j hj with q | ⟨ρ, q1, q2⟩
        · exact Or.inl q
        · exact Or.inr ⟨ρ, q1, q2.1, l3 ρ q2.1 q2.2⟩
      refine r_iload_n d_X1_giveWisely_58 rfl ?_
      refine r_aload_n d_X1_giveWisely_59 rfl ?_
      refine r_getr d_X1_giveWisely_60 f_X1_15 (tt_77 _ _) (by decide) rfl (rr_77_0 _) ?_
      refine r_geti d_X1_giveWisely_63 f_X1_55 (tt_8 _ _) (by decide) (by decide) ?_
      refine r_icmp_ge d_X1_giveWisely_66 (by omega) (by omega) (fun c66 => ?_) (fun c66 => absurd c66 (by omega))
      refine r_aload_n d_X1_giveWisely_96 rfl ?_
      refine r_getr d_X1_giveWisely_97 f_X1_15 (tt_77 _ _) (by decide) rfl (rr_77_0 _) ?_
      refine r_geti d_X1_giveWisely_100 f_X1_78 (tt_8 _ _) (by decide) (by decide) ?_
      refine r_aload_n d_X1_giveWisely_103 rfl ?_
      refine r_getr d_X1_giveWisely_104 f_X1_24 (tt_77 _ _) (by decide) rfl (rr_77_1 _) ?_
      refine r_aload_n d_X1_giveWisely_107 rfl ?_
      refine r_getr d_X1_giveWisely_108 f_X1_15 (tt_77 _ _) (by decide) rfl (rr_77_0 _) ?_
      refine r_geti d_X1_giveWisely_111 f_X1_35 (tt_8 _ _) (by decide) (by decide) ?_
      rw [e3]
      refine r_V1i d_X1_giveWisely_114 (w_X1_81 _ rfl) (tt_79 _ _) rfl rfl (c_savedAt (lv := nr) (G := G) hp hP8 (by omega) hpl hG) (by decide) (Nat.le_of_ble_eq_true rfl) (fun z114 T114 I114 L114 R114 h114 => ?_)
      obtain ⟨rfl, rfl, rfl, rfl, rfl⟩ := h114
      refine r_isub d_X1_giveWisely_117 ?_
      refine r_iret d_X1_giveWisely_118 rfl ?_
      rw [hQ]
      exact ⟨_, rfl, rfl, rfl, fI, fL, _, LX_opt hL, by rw [e11], p⟩
    | succ k ih =>
      intro b I1 L1 hbk fI fL hp hL p
      have e3 := hnr fI
      have e5 := hng fI
      obtain ⟨l1, l2, l3, l4⟩ := id hL
      have hpl : I1 (110 + nr) b = -1 ∨ ∃ ρ : Nat, I1 (110 + nr) b = (ρ : Int) ∧ ρ < 8 ∧ L1 (81 + ρ) b = G ρ b := by
        rcases l1.1 b (by omega) with q | ⟨ρ, q1, q2⟩
        · exact Or.inl q
        · exact Or.inr ⟨ρ, q1, q2.1, l3 ρ q2.1 q2.2 b (by omega)⟩
      refine r_iload_n d_X1_giveWisely_58 rfl ?_
      refine r_aload_n d_X1_giveWisely_59 rfl ?_
      refine r_getr d_X1_giveWisely_60 f_X1_15 (tt_77 _ _) (by decide) rfl (rr_77_0 _) ?_
      refine r_geti d_X1_giveWisely_63 f_X1_55 (tt_8 _ _) (by decide) (by decide) ?_
      refine r_icmp_ge d_X1_giveWisely_66 (by omega) (by omega) (fun c66 => absurd c66 (by omega)) (fun c66 => ?_)
      refine r_aload_n d_X1_giveWisely_69 rfl ?_
      refine r_getr d_X1_giveWisely_70 f_X1_9 (tt_77 _ _) (by decide) rfl (rr_77_2 _) ?_
      refine r_iload_n d_X1_giveWisely_73 rfl ?_
      refine r_aload_n d_X1_giveWisely_74 rfl ?_
      refine r_getr d_X1_giveWisely_75 f_X1_24 (tt_77 _ _) (by decide) rfl (rr_77_1 _) ?_
      refine r_aload_n d_X1_giveWisely_78 rfl ?_
      refine r_getr d_X1_giveWisely_79 f_X1_15 (tt_77 _ _) (by decide) rfl (rr_77_0 _) ?_
      refine r_geti d_X1_giveWisely_82 f_X1_35 (tt_8 _ _) (by decide) (by decide) ?_
      refine r_iload_n d_X1_giveWisely_85 rfl ?_
      rw [e3]
      refine r_V2i d_X1_giveWisely_86 (w_X1_75 _ rfl) (tt_79 _ _) rfl rfl (c_roomFor (lv := nr) (G := G) (P := P) hP8 (by omega) (by omega) hpl hG) (by decide) (Nat.le_of_ble_eq_true rfl) (fun z86 T86 I86 L86 R86 h86 => ?_)
      obtain ⟨rfl, rfl, rfl, rfl, rfl⟩ := h86
      refine r_iastJ d_X1_giveWisely_89 (tt_78 _ _) (by omega) rfl (by omega) (kk := ?_)
      refine r_iinc d_X1_giveWisely_90 rfl (by decide) ?_
      refine r_goto d_X1_giveWisely_93 ?_
      refine CpL (ih (b + 1) _ _ (by omega) (frb_up fI (by omega)) fL ?_ ?_ (fun q hq => ?_)) (by repeat (first | exact trivial | refine ⟨rfl, ?_⟩))
      · rw [up2_ne _ _ (by omega)]; exact hp
      · exact LX_congr hL rfl rfl (up2_ne _ _ (by omega)) (fun _ _ _ => rfl) (fun _ _ _ _ _ => rfl)
      · rw [up2_ne _ _ (show 110 + nr ≠ 78 by omega)]
        by_cases e : q = b
        · subst e; rw [up2_at]; rfl
        · rw [up2_nj _ _ e]; exact p q (by omega)
  have rooms : ∀ (k b : Nat) (I1 L1 : sI), b + k = nr → frb 78 122 I I1 → frb 81 120 L L1 → I1 79 1 = (P : Int) → LX P (dnS b rd) G b I1 L1 → Cp g 3 m_X1_giveWisely 0 0 Q 9 [(0, vr 77), (1, vr 76), (2, vi (b : Int))] [] (TT Ls tl) I1 L1 (RR tl) := by
    intro k
    induction k with
    | zero =>
      intro b I1 L1 hbk fI fL hp hL
      have hb : b = nr := by omega
      subst hb
      have e3 := hnr fI
      refine r_iload_n d_X1_giveWisely_9 rfl ?_
      refine r_aload_n d_X1_giveWisely_10 rfl ?_
      refine r_getr d_X1_giveWisely_11 f_X1_15 (tt_77 _ _) (by decide) rfl (rr_77_0 _) ?_
      refine r_geti d_X1_giveWisely_14 f_X1_35 (tt_8 _ _) (by decide) (by decide) ?_
      refine r_icmp_ge d_X1_giveWisely_17 (by omega) (by omega) (fun c17 => ?_) (fun c17 => absurd c17 (by omega))
      refine r_iconst d_X1_giveWisely_56 ?_
      refine r_istore_n d_X1_giveWisely_57 (by decide) ?_
      exact CpL (last ng 0 I1 L1 (by omega) fI fL hp hL (fun q hq => absurd hq (by omega))) (by repeat (first | exact trivial | refine ⟨rfl, ?_⟩))
    | succ k ih =>
      intro b I1 L1 hbk fI fL hp hL
      have hb : b < nr := by omega
      have e3 := hnr fI
      have e5 := hng fI
      obtain ⟨r1, r2, r3⟩ := hrd b hb
      have e76 : I1 76 b = rd b := by rw [fI 76 (by omega)]; exact r1
      by_cases hno : rd b = -1
      · have hs : dnS b rd = dnS (b + 1) rd := by
          funext ρ
          unfold dnS
          congr 1
          apply propext
          constructor
          · rintro ⟨h1, h2⟩; exact ⟨by omega, h2⟩
          · rintro ⟨h1, h2⟩
            refine ⟨?_, h2⟩
            have : ρ ≠ b := fun e => h2 (by rw [e]; exact hno)
            omega
        rw [hs] at hL
        refine r_iload_n d_X1_giveWisely_9 rfl ?_
        refine r_aload_n d_X1_giveWisely_10 rfl ?_
        refine r_getr d_X1_giveWisely_11 f_X1_15 (tt_77 _ _) (by decide) rfl (rr_77_0 _) ?_
        refine r_geti d_X1_giveWisely_14 f_X1_35 (tt_8 _ _) (by decide) (by decide) ?_
        refine r_icmp_ge d_X1_giveWisely_17 (by omega) (by omega) (fun c17 => absurd c17 (by omega)) (fun c17 => ?_)
        refine r_aload_n d_X1_giveWisely_20 rfl ?_
        refine r_iload_n d_X1_giveWisely_21 rfl ?_
        refine r_ialdJ d_X1_giveWisely_22 (tt_76 _ _) rfl (by omega) (kk := ?_)
        refine r_iconst d_X1_giveWisely_23 ?_
        refine r_icmp_ne d_X1_giveWisely_24 (by omega) (by omega) (fun c24 => absurd c24 (by omega)) (fun c24 => ?_)
        refine r_aload_n d_X1_giveWisely_27 rfl ?_
        refine r_getr d_X1_giveWisely_28 f_X1_24 (tt_77 _ _) (by decide) rfl (rr_77_1 _) ?_
        refine r_iload_n d_X1_giveWisely_31 rfl ?_
        refine r_V1v d_X1_giveWisely_32 (w_X1_67 _ rfl) (tt_79 _ _) rfl rfl (c_keep (lv := b) hp hP8 (by omega)) (by decide) (Nat.le_of_ble_eq_true rfl) (fun T32 I32 L32 R32 h32 => ?_)
        obtain ⟨rfl, rfl, k1, k2, k3⟩ := h32
        refine r_goto d_X1_giveWisely_35 ?_
        refine r_iinc d_X1_giveWisely_50 rfl (by decide) ?_
        refine r_goto d_X1_giveWisely_53 ?_
        exact CpL (ih (b + 1) I32 L32 (by omega) (frb_tr fI (fun a ha => k1 a (by omega))) (frb_tr fL (fun a ha => k2 a (by omega))) (by rw [k1 79 (by omega)]; exact hp) (LX_keep (by omega) hL hP8 k2 k3)) (by repeat (first | exact trivial | refine ⟨rfl, ?_⟩))
      · have hs : addS (dnS b rd) b = dnS (b + 1) rd := by
          funext ρ
          unfold addS dnS
          rw [Bool.eq_iff_iff, Bool.or_eq_true, decide_eq_true_iff, decide_eq_true_iff, decide_eq_true_iff]
          constructor
          · rintro (⟨h1, h2⟩ | h)
            · exact ⟨by omega, h2⟩
            · exact ⟨by omega, by rw [h]; exact hno⟩
          · rintro ⟨h1, h2⟩
            by_cases e : ρ = b
            · exact Or.inr e
            · exact Or.inl ⟨by omega, h2⟩
        have hsb : dnS b rd b = false := by unfold dnS; exact decide_eq_false (by omega)
        have hFX : FX ng (fun q => fmS σ q nr) I1 := fun j hj => by
          refine ⟨by rw [fI 32 (by omega)]; exact hH.1 j hj, ?_⟩
          have h1 := fmS_lt (σ := σ) (q := j) nr
          have h2 : 2 ^ nr ≤ 2 ^ 8 := Nat.pow_le_pow_right (by omega) v1
          show fmS σ j nr < 256
          omega
        refine r_iload_n d_X1_giveWisely_9 rfl ?_
        refine r_aload_n d_X1_giveWisely_10 rfl ?_
        refine r_getr d_X1_giveWisely_11 f_X1_15 (tt_77 _ _) (by decide) rfl (rr_77_0 _) ?_
        refine r_geti d_X1_giveWisely_14 f_X1_35 (tt_8 _ _) (by decide) (by decide) ?_
        refine r_icmp_ge d_X1_giveWisely_17 (by omega) (by omega) (fun c17 => absurd c17 (by omega)) (fun c17 => ?_)
        refine r_aload_n d_X1_giveWisely_20 rfl ?_
        refine r_iload_n d_X1_giveWisely_21 rfl ?_
        refine r_ialdJ d_X1_giveWisely_22 (tt_76 _ _) rfl (by omega) (kk := ?_)
        refine r_iconst d_X1_giveWisely_23 ?_
        refine r_icmp_ne d_X1_giveWisely_24 (by omega) (by omega) (fun c24 => ?_) (fun c24 => absurd c24 (by omega))
        refine r_aload_n d_X1_giveWisely_38 rfl ?_
        refine r_getr d_X1_giveWisely_39 f_X1_24 (tt_77 _ _) (by decide) rfl (rr_77_1 _) ?_
        refine r_iload_n d_X1_giveWisely_42 rfl ?_
        refine r_iload_n d_X1_giveWisely_43 rfl ?_
        refine r_aload_n d_X1_giveWisely_44 rfl ?_
        refine r_iload_n d_X1_giveWisely_45 rfl ?_
        refine r_ialdJ d_X1_giveWisely_46 (tt_76 _ _) rfl (by omega) (kk := ?_)
        rw [e76]
        refine r_V3v d_X1_giveWisely_47 (w_X1_71 _ rfl) (tt_79 _ _) rfl rfl (c_add (lv := b) (r := b) (σ := σ) (fm := fun q => fmS σ q nr) hp hP8 (by omega) hL hG (by omega) hsb e5 v3 v6 (fun q hq k hk => by rw [fI _ (by omega)]; exact HXg hX hq hk) hFX (fun j hj => by rw [fL 2 (by omega)]; exact hR j hj) ⟨r2, r3⟩ (fun j hj => by rw [hGd]; unfold gnF; rw [if_pos hb])) (by decide) (Nat.le_of_ble_eq_true rfl) (fun T47 I47 L47 R47 h47 => ?_)
        obtain ⟨rfl, rfl, k1, k2, k3⟩ := h47
        refine r_iinc d_X1_giveWisely_50 rfl (by decide) ?_
        refine r_goto d_X1_giveWisely_53 ?_
        exact CpL (ih (b + 1) I47 L47 (by omega) (frb_tr fI (fun a ha => k1 a (by omega))) (frb_tr fL (fun a ha => k2 a (by omega))) (by rw [k1 79 (by omega)]; exact hp) (by rw [← hs]; exact k3)) (by repeat (first | exact trivial | refine ⟨rfl, ?_⟩))
  refine r_aload_n d_X1_giveWisely_0 rfl ?_
  refine r_getr d_X1_giveWisely_1 f_X1_24 (tt_77 _ _) (by decide) rfl (rr_77_1 _) ?_
  refine r_V0v d_X1_giveWisely_4 (w_X1_64 _ rfl) (tt_79 _ _) rfl rfl (c_begin (nr := nr) (ng := ng) hX.1 hX.2.2.1 ⟨v1, v3⟩ hP) (by decide) (Nat.le_of_ble_eq_true rfl) (fun T4 I4 L4 R4 h4 => ?_)
  obtain ⟨rfl, rfl, b1, b2, b3, b4⟩ := h4
  refine r_iconst d_X1_giveWisely_7 ?_
  refine r_istore_n d_X1_giveWisely_8 (by decide) ?_
  refine CpL (rooms nr 0 I4 L4 (by omega) (fun a ha => b2 a (by omega)) (fun a ha => b3 a (by omega)) b1 ?_) (by repeat (first | exact trivial | refine ⟨rfl, ?_⟩))
  have hs : dnS 0 rd = fun _ => false := by funext ρ; unfold dnS; exact decide_eq_false (by omega)
  rw [hs]
  exact LX_begin (by omega) b4
/-- what a giving leaves: the room of each guest, and the cost -/
def GVX (σ : Sg) (nr ng : Nat) (rd : Nat → Int) (how : Int) (z : Int) (ro : Nat → Int) : Prop :=
  (how = 0 ∧ ∃ ar : Nat → Nat, (∀ i, i < ng → ar i < ng) ∧ (∀ i j, i < j → j < ng → bef σ (ar i) (ar j)) ∧ z = asS σ nr rd ar ng ∧ ∀ i, i < ng → ro (ar i) = pkS σ nr rd ar i) ∨
  (how = 1 ∧ ∃ a, OPT (max ng nr) (dnS nr rd) (gnF σ nr ng rd) a ∧ z = bareS σ ng - gainOf (gnF σ nr ng rd) a (max ng nr) / 43046721 ∧ ∀ q, q < ng → ro q = wsR (gnF σ nr ng rd) a q)
theorem c_give (hV : HV σ nr nw ng) (hX : HX 8 σ nr nw ng I) (hH : HS 8 σ nr ng I) (hR : RKX L) (h0 : 0 < nr) (hrd : ∀ r, r < nr → I 76 r = rd r ∧ -1 ≤ rd r ∧ rd r ≤ 44) {how : Int} (hh : how = 0 ∨ how = 1) : Mc g 4 m_X1_give 0 0 [vr 77, vr 76, vi how] (TT Ls tl) I L (RR tl) (qI fun z T' I' L' R' => T' = TT Ls tl ∧ R' = RR tl ∧ frb 78 122 I I' ∧ frb 81 120 L L' ∧ GVX σ nr ng rd how z (I' 78)) := by
  refine Mc_of rfl (Nat.le_of_ble_eq_true rfl) ?_
  obtain ⟨h1, ⟨ar, h2, h3⟩, h4, h5⟩ := id hH
  rcases hh with rfl | rfl
  · skip
    refine r_iload_n d_X1_give_0 rfl ?_
    refine r_iconst d_X1_give_1 ?_
    refine r_icmp_ne d_X1_give_2 (by omega) (by omega) (fun c2 => ?_) (fun c2 => absurd c2 (by omega))
    refine r_aload_n d_X1_give_13 rfl ?_
    refine r_aload_n d_X1_give_14 rfl ?_
    refine r_V1i d_X1_give_15 (w_X1_32 _ rfl) (tt_77 _ _) rfl rfl (c_giveAsTheyCome hV hX h1 h2 h3 hrd) (by decide) (Nat.le_of_ble_eq_true rfl) (fun z15 T15 I15 L15 R15 h15 => ?_)
    obtain ⟨e, rfl, rfl, rfl, f, p⟩ := h15
    refine r_iret d_X1_give_18 rfl ?_
    exact ⟨_, rfl, rfl, rfl, fun a ha => f a (by omega), fun _ _ => rfl, Or.inl ⟨rfl, ar, fun i hi => (h2 i hi).2, h3, e, p⟩⟩
  · skip
    refine r_iload_n d_X1_give_0 rfl ?_
    refine r_iconst d_X1_give_1 ?_
    refine r_icmp_ne d_X1_give_2 (by omega) (by omega) (fun c2 => absurd c2 (by omega)) (fun c2 => ?_)
    refine r_aload_n d_X1_give_5 rfl ?_
    refine r_aload_n d_X1_give_6 rfl ?_
    refine r_V1i d_X1_give_7 (w_X1_28 _ rfl) (tt_77 _ _) rfl rfl (c_giveWisely hV hX hH hR h0 hrd rfl) (by decide) (Nat.le_of_ble_eq_true rfl) (fun z7 T7 I7 L7 R7 h7 => ?_)
    obtain ⟨rfl, rfl, f1, f2, a, q1, q2, q3⟩ := h7
    refine r_goto d_X1_give_10 ?_
    refine r_iret d_X1_give_18 rfl ?_
    exact ⟨_, rfl, rfl, rfl, f1, f2, Or.inr ⟨rfl, a, q1, q2, q3⟩⟩
end C36
