theorem beg_eq {σ : Sg} {ℓ : Int} {δ ε : Sg} {w : Nat} (h : ∀ k, k ≠ 4 → ε k = δ k) (h4 : ε 4 w = δ 4 w) (r : Nat) : begS σ ℓ ε w r = begS σ ℓ δ w r := by
  unfold begS
  rw [h4, h 5 (by decide), h 0 (by decide)]
theorem may_eq {σ : Sg} {ℓ ab : Int} {δ ε : Sg} {w : Nat} (h : ∀ k, k ≠ 4 → ε k = δ k) (h4 : ε 4 w = δ 4 w) (r : Nat) : mayS σ ℓ ab ε w r = mayS σ ℓ ab δ w r := by
  unfold mayS rdyS
  rw [beg_eq h h4]
theorem cho_eq {σ : Sg} {ℓ ab : Int} {pm : Nat → Int} {kd : Int} {nr : Nat} {δ ε : Sg} {w : Nat} (h : ∀ k, k ≠ 4 → ε k = δ k) (h4 : ε 4 w = δ 4 w) : choS σ ℓ ab pm kd nr ε w = choS σ ℓ ab pm kd nr δ w := by
  unfold choS
  rw [h4, h 1 (by decide), h 0 (by decide), h 5 (by decide)]
  exact amin_congr (fun i _ => by show (_ && _) = (_ && _); rw [may_eq h h4]) (fun _ _ _ _ _ _ => Iff.rfl)
theorem ng_eq {δ ε : Sg} {q : Int} (h : ∀ k, k ≠ 4 → ε k = δ k) : ∀ n, ngS ε q n = ngS δ q n
  | 0 => rfl
  | n + 1 => by
    unfold ngS
    rw [ng_eq h n, h 1 (by decide), h 0 (by decide)]
theorem do_eq {σ : Sg} {ℓ : Int} {δ ε : Sg} {w r : Nat} (h : ∀ k, k ≠ 4 → ε k = δ k) (h4 : ε 4 w = δ 4 w) : ∀ k, k ≠ 4 → doS σ ℓ ε w r k = doS σ ℓ δ w r k := by
  intro k hk
  have eb := beg_eq (σ := σ) (ℓ := ℓ) h h4 r
  have er : rdyS σ ℓ ε w r = rdyS σ ℓ δ w r := by unfold rdyS; rw [eb]
  unfold doS
  rw [eb, er]
  funext j
  unfold up2
  rw [h k hk]
theorem mz_pos {nr nW : Nat} {en : Nat → Bool} {δ : Sg} {w : Nat} (hw : w < nW) (he : en w = false) : 1 ≤ mzF nr nW en δ := by
  unfold mzF
  have := sm_lt (f := fun _ => 0) (h := fun w => if en w = true then 0 else 1 + cnN (fun r => decide (δ 4 w < δ 0 r)) nr) (w := w) nW (fun i _ => Nat.zero_le _) hw (by show 0 + 1 ≤ (if en w = true then 0 else _); rw [he, if_neg (by decide)]; omega)
  omega
def DR (δ : Sg) (nr : Nat) (I : sI) : Prop := ∀ r, r < nr → I 174 r = δ 0 r ∧ I 177 r = δ 1 r ∧ I 178 r = δ 2 r ∧ I 179 r = δ 3 r
def ngM (δ : Sg) (q : Int) (n : Nat) : Int := if ngS δ q n = -1 then 268435456 else ngS δ q n
def wkM (σ : Sg) (ng : Nat) (kd : Int) (δ : Sg) (w r : Nat) : Int := 100 * ahdS σ (fun r => pmS σ r ng) kd r + 10 * absI (δ 5 w - σ 0 r) + (r : Int)
theorem ahd_bd {σ : Sg} {ng r : Nat} {kd : Int} (hr : RV σ r) (hg : ∀ q, q < ng → GV σ q) : 0 ≤ ahdS σ (fun r => pmS σ r ng) kd r ∧ ahdS σ (fun r => pmS σ r ng) kd r ≤ 99 := by
  have h2 := hr.2.2.1
  have := pmS_bd (r := r) hg ng (Nat.le_refl _)
  unfold ahdS
  split
  · omega
  · split
    · exact this
    · omega
section X79
variable {g : sG} {Ls : Nat} {tl : List Nat} {I L : sI} {σ δ : Sg} {ℓ ab : Int} {nr nW ng : Nat}
theorem x_worthOf (hV : MV σ ℓ nr nW ng) (hX : MX σ nr nW ng I) (hDV : DV δ nr nW) (hD : DM δ nr nW I) {w r : Nat} (hw : w < nW) (hr : r < nr) {kd : Int} (hk : kd = 2 ∨ kd = 3 ∨ kd = 4) : Mc g 2 m_X8_worthOf 0 0 [vr 139, vi kd, vi (w : Int), vi (r : Int)] (TT Ls tl) I L (RR tl) (qI fun z T' I' L' R' => z = wkM σ ng kd δ w r ∧ same (TT Ls tl) I L (RR tl) T' I' L' R') := by
  refine Mc_of rfl (Nat.le_of_ble_eq_true rfl) ?_
  obtain ⟨⟨s1, s2, s3, s4, s5⟩, v2, v3, v4⟩ := id hV
  have e2 : I 142 r = σ 2 r := hX.2.2.1 r hr 2 (by omega)
  have e0 : I 140 r = σ 0 r := hX.2.2.1 r hr 0 (by omega)
  have g5 := (hD.2 w hw).2
  have d5 := (hDV.2 w hw).2
  have rv := s3 r hr
  have ha := absI_bd d5 rv.1
  have rv1 := rv.1
  have t28 : ∀ f : Int, f = ahdS σ (fun r => pmS σ r ng) kd r → Cp g 2 m_X8_worthOf 0 0 (qI fun z T' I' L' R' => z = wkM σ ng kd δ w r ∧ same (TT Ls tl) I L (RR tl) T' I' L' R') 30 [(0, vr 139), (1, vi kd), (2, vi (w : Int)), (3, vi (r : Int)), (4, vi f)] [] (TT Ls tl) I L (RR tl) := by
    intro f hf
    refine r_bipush d_X8_worthOf_30 (by decide) ?_
    refine r_iload d_X8_worthOf_32 rfl ?_
    refine r_imul d_X8_worthOf_34 ?_
    refine r_bipush d_X8_worthOf_35 (by decide) ?_
    refine r_aload_n d_X8_worthOf_37 rfl ?_
    refine r_getr d_X8_worthOf_38 f_X8_124 (tt_139 _ _) (by decide) rfl (rr_139_57 _) ?_
    refine r_iload_n d_X8_worthOf_41 rfl ?_
    refine r_ialdJ d_X8_worthOf_42 (tt_175 _ _) rfl (by omega) (kk := ?_)
    rw [g5]
    refine r_aload_n d_X8_worthOf_43 rfl ?_
    refine r_getr d_X8_worthOf_44 f_X8_7 (tt_139 _ _) (by decide) rfl (rr_139_1 _) ?_
    refine r_iload_n d_X8_worthOf_47 rfl ?_
    refine r_ialdJ d_X8_worthOf_48 (tt_140 _ _) rfl (by omega) (kk := ?_)
    rw [e0]
    refine r_isub d_X8_worthOf_49 ?_
    refine r_S1i d_X8_worthOf_50 (w_X8_281 _ rfl) (x_size (a := δ 5 w - σ 0 r) (by omega)) (by decide) (Nat.le_of_ble_eq_true rfl) (fun z50 T50 I50 L50 R50 h50 => ?_)
    obtain ⟨rfl, rfl, rfl, rfl, rfl⟩ := h50
    refine r_imul d_X8_worthOf_53 ?_
    refine r_iadd d_X8_worthOf_54 ?_
    refine r_iload_n d_X8_worthOf_55 rfl ?_
    refine r_iadd d_X8_worthOf_56 ?_
    refine r_iret d_X8_worthOf_57 rfl ?_
    exact ⟨_, rfl, by unfold wkM; rw [hf], same_rf⟩
  unfold ahdS at t28
  by_cases k3 : kd = 3
  · rw [if_pos k3] at t28
    refine r_iload_n d_X8_worthOf_0 rfl ?_
    refine r_iconst d_X8_worthOf_1 ?_
    refine r_icmp_ne d_X8_worthOf_2 (by omega) (by omega) (fun c2 => absurd c2 (by omega)) (fun c2 => ?_)
    refine r_aload_n d_X8_worthOf_5 rfl ?_
    refine r_getr d_X8_worthOf_6 f_X8_16 (tt_139 _ _) (by decide) rfl (rr_139_3 _) ?_
    refine r_iload_n d_X8_worthOf_9 rfl ?_
    refine r_ialdJ d_X8_worthOf_10 (tt_142 _ _) rfl (by omega) (kk := ?_)
    rw [e2]
    refine r_goto d_X8_worthOf_11 ?_
    refine r_istore d_X8_worthOf_28 (by decide) ?_
    exact CpL (t28 _ rfl) (by repeat (first | exact trivial | refine ⟨rfl, ?_⟩))
  · rw [if_neg k3] at t28
    by_cases k4 : kd = 4
    · rw [if_pos k4] at t28
      refine r_iload_n d_X8_worthOf_0 rfl ?_
      refine r_iconst d_X8_worthOf_1 ?_
      refine r_icmp_ne d_X8_worthOf_2 (by omega) (by omega) (fun c2 => ?_) (fun c2 => absurd c2 (by omega))
      refine r_iload_n d_X8_worthOf_14 rfl ?_
      refine r_iconst d_X8_worthOf_15 ?_
      refine r_icmp_ne d_X8_worthOf_16 (by omega) (by omega) (fun c16 => absurd c16 (by omega)) (fun c16 => ?_)
      refine r_aload_n d_X8_worthOf_19 rfl ?_
      refine r_iload_n d_X8_worthOf_20 rfl ?_
      refine r_V1i d_X8_worthOf_21 (w_X8_307 _ rfl) (tt_139 _ _) rfl rfl (x_firstGuest hV hX hr) (by decide) (Nat.le_of_ble_eq_true rfl) (fun z21 T21 I21 L21 R21 h21 => ?_)
      obtain ⟨rfl, rfl, rfl, rfl, rfl⟩ := h21
      refine r_goto d_X8_worthOf_24 ?_
      refine r_istore d_X8_worthOf_28 (by decide) ?_
      exact CpL (t28 _ rfl) (by repeat (first | exact trivial | refine ⟨rfl, ?_⟩))
    · rw [if_neg k4] at t28
      refine r_iload_n d_X8_worthOf_0 rfl ?_
      refine r_iconst d_X8_worthOf_1 ?_
      refine r_icmp_ne d_X8_worthOf_2 (by omega) (by omega) (fun c2 => ?_) (fun c2 => absurd c2 (by omega))
      refine r_iload_n d_X8_worthOf_14 rfl ?_
      refine r_iconst d_X8_worthOf_15 ?_
      refine r_icmp_ne d_X8_worthOf_16 (by omega) (by omega) (fun c16 => ?_) (fun c16 => absurd c16 (by omega))
      refine r_iconst d_X8_worthOf_27 ?_
      refine r_istore d_X8_worthOf_28 (by decide) ?_
      exact CpL (t28 _ rfl) (by repeat (first | exact trivial | refine ⟨rfl, ?_⟩))
theorem x_nextGone (hV : MV σ ℓ nr nW ng) (hX : MX σ nr nW ng I) (hDV : DV δ nr nW) (hD : DM δ nr nW I) {q : Int} (hq : -1 ≤ q ∧ q ≤ 268435456) : Mc g 0 m_X8_nextGone 0 0 [vr 139, vi q] (TT Ls tl) I L (RR tl) (qI fun z T' I' L' R' => z = ngM δ q nr ∧ same (TT Ls tl) I L (RR tl) T' I' L' R') := by
  refine Mc_of rfl (Nat.le_of_ble_eq_true rfl) ?_
  have e0 := hX.1
  have s1 := hV.1.1
  have loop : ∀ (k c : Nat), c + k = nr → Cp g 0 m_X8_nextGone 0 0 (qI fun z T' I' L' R' => z = ngM δ q nr ∧ same (TT Ls tl) I L (RR tl) T' I' L' R') 6 [(0, vr 139), (1, vi q), (2, vi (ngM δ q c)), (3, vi (c : Int))] [] (TT Ls tl) I L (RR tl) := by
    intro k
    induction k with
    | zero =>
      intro c hc
      refine r_iload_n d_X8_nextGone_6 rfl ?_
      refine r_aload_n d_X8_nextGone_7 rfl ?_
      refine r_geti d_X8_nextGone_8 f_X8_232 (tt_139 _ _) (by decide) (by decide) ?_
      refine r_icmp_ge d_X8_nextGone_11 (by omega) (by omega) (fun c11 => ?_) (fun c11 => absurd c11 (by omega))
      refine r_iload_n d_X8_nextGone_57 rfl ?_
      refine r_iret d_X8_nextGone_58 rfl ?_
      exact ⟨_, rfl, by rw [show c = nr by omega], same_rf⟩
    | succ k ih =>
      intro c hc
      obtain ⟨g0, g1, g2, g3⟩ := hD.1 c (by omega)
      obtain ⟨d0, d1, -, -⟩ := hDV.1 c (by omega)
      have nb := ngS_bd hDV hq.1 c (by omega)
      have mb : 0 ≤ ngM δ q c ∧ ngM δ q c ≤ 268435456 := by unfold ngM; split <;> omega
      have es : ngS δ q (c + 1) = if δ 1 c = -1 ∧ q < δ 0 c ∧ (ngS δ q c = -1 ∨ δ 0 c < ngS δ q c) then δ 0 c else ngS δ q c := rfl
      have em : (δ 0 c < ngM δ q c) ↔ (ngS δ q c = -1 ∨ δ 0 c < ngS δ q c) := by
        unfold ngM
        split
        · omega
        · omega
      have yes : δ 1 c = -1 → q < δ 0 c → δ 0 c < ngM δ q c → ngM δ q (c + 1) = δ 0 c := fun h1 h2 h3 => by
        have e9 : ngS δ q (c + 1) = δ 0 c := by rw [es, if_pos ⟨h1, h2, em.mp h3⟩]
        unfold ngM
        rw [e9, if_neg (by omega)]
      have non : ¬ (δ 1 c = -1 ∧ q < δ 0 c ∧ δ 0 c < ngM δ q c) → ngM δ q (c + 1) = ngM δ q c := fun h => by
        have : ngS δ q (c + 1) = ngS δ q c := by rw [es, if_neg (fun p => h ⟨p.1, p.2.1, em.mpr p.2.2⟩)]
        unfold ngM
        rw [this]
      refine r_iload_n d_X8_nextGone_6 rfl ?_
      refine r_aload_n d_X8_nextGone_7 rfl ?_
      refine r_geti d_X8_nextGone_8 f_X8_232 (tt_139 _ _) (by decide) (by decide) ?_
      refine r_icmp_ge d_X8_nextGone_11 (by omega) (by omega) (fun c11 => absurd c11 (by omega)) (fun c11 => ?_)
      refine r_aload_n d_X8_nextGone_14 rfl ?_
      refine r_getr d_X8_nextGone_15 f_X8_130 (tt_139 _ _) (by decide) rfl (rr_139_59 _) ?_
      refine r_iload_n d_X8_nextGone_18 rfl ?_
      refine r_ialdJ d_X8_nextGone_19 (tt_177 _ _) rfl (by omega) (kk := ?_)
      rw [g1]
      refine r_iconst d_X8_nextGone_20 ?_
      refine r_icmp_ne d_X8_nextGone_21 (by omega) (by omega) (fun c21 => ?_) (fun c21 => ?_)
      · refine r_iinc d_X8_nextGone_51 rfl (by decide) ?_
        refine r_goto d_X8_nextGone_54 ?_
        first
        | have ea := yes (by omega) (by omega) (by omega)
          exact CpL (ih (c + 1) (by omega)) (by repeat (first | exact trivial | refine ⟨rfl, ?_⟩ | refine ⟨by rw [ea]; rfl, ?_⟩))
        | have ea := non (by omega)
          exact CpL (ih (c + 1) (by omega)) (by repeat (first | exact trivial | refine ⟨rfl, ?_⟩ | refine ⟨by rw [ea]; rfl, ?_⟩))
      · refine r_aload_n d_X8_nextGone_24 rfl ?_
        refine r_getr d_X8_nextGone_25 f_X8_118 (tt_139 _ _) (by decide) rfl (rr_139_54 _) ?_
        refine r_iload_n d_X8_nextGone_28 rfl ?_
        refine r_ialdJ d_X8_nextGone_29 (tt_174 _ _) rfl (by omega) (kk := ?_)
        rw [g0]
        refine r_iload_n d_X8_nextGone_30 rfl ?_
        refine r_icmp_le d_X8_nextGone_31 (by omega) (by omega) (fun c31 => ?_) (fun c31 => ?_)
        · refine r_iinc d_X8_nextGone_51 rfl (by decide) ?_
          refine r_goto d_X8_nextGone_54 ?_
          first
          | have ea := yes (by omega) (by omega) (by omega)
            exact CpL (ih (c + 1) (by omega)) (by repeat (first | exact trivial | refine ⟨rfl, ?_⟩ | refine ⟨by rw [ea]; rfl, ?_⟩))
          | have ea := non (by omega)
            exact CpL (ih (c + 1) (by omega)) (by repeat (first | exact trivial | refine ⟨rfl, ?_⟩ | refine ⟨by rw [ea]; rfl, ?_⟩))
        · refine r_aload_n d_X8_nextGone_34 rfl ?_
          refine r_getr d_X8_nextGone_35 f_X8_118 (tt_139 _ _) (by decide) rfl (rr_139_54 _) ?_
          refine r_iload_n d_X8_nextGone_38 rfl ?_
          refine r_ialdJ d_X8_nextGone_39 (tt_174 _ _) rfl (by omega) (kk := ?_)
          rw [g0]
          refine r_iload_n d_X8_nextGone_40 rfl ?_
          refine r_icmp_ge d_X8_nextGone_41 (by omega) (by omega) (fun c41 => ?_) (fun c41 => ?_)
          · refine r_iinc d_X8_nextGone_51 rfl (by decide) ?_
            refine r_goto d_X8_nextGone_54 ?_
            first
            | have ea := yes (by omega) (by omega) (by omega)
              exact CpL (ih (c + 1) (by omega)) (by repeat (first | exact trivial | refine ⟨rfl, ?_⟩ | refine ⟨by rw [ea]; rfl, ?_⟩))
            | have ea := non (by omega)
              exact CpL (ih (c + 1) (by omega)) (by repeat (first | exact trivial | refine ⟨rfl, ?_⟩ | refine ⟨by rw [ea]; rfl, ?_⟩))
          · refine r_aload_n d_X8_nextGone_44 rfl ?_
            refine r_getr d_X8_nextGone_45 f_X8_118 (tt_139 _ _) (by decide) rfl (rr_139_54 _) ?_
            refine r_iload_n d_X8_nextGone_48 rfl ?_
            refine r_ialdJ d_X8_nextGone_49 (tt_174 _ _) rfl (by omega) (kk := ?_)
            rw [g0]
            refine r_istore_n d_X8_nextGone_50 (by decide) ?_
            refine r_iinc d_X8_nextGone_51 rfl (by decide) ?_
            refine r_goto d_X8_nextGone_54 ?_
            first
            | have ea := yes (by omega) (by omega) (by omega)
              exact CpL (ih (c + 1) (by omega)) (by repeat (first | exact trivial | refine ⟨rfl, ?_⟩ | refine ⟨by rw [ea]; rfl, ?_⟩))
            | have ea := non (by omega)
              exact CpL (ih (c + 1) (by omega)) (by repeat (first | exact trivial | refine ⟨rfl, ?_⟩ | refine ⟨by rw [ea]; rfl, ?_⟩))
  refine r_ldcw d_X8_nextGone_0 (k_X8_314 _ rfl) ?_
  refine r_istore_n d_X8_nextGone_3 (by decide) ?_
  refine r_iconst d_X8_nextGone_4 ?_
  refine r_istore_n d_X8_nextGone_5 (by decide) ?_
  exact CpL (loop nr 0 (by omega)) (by repeat (first | exact trivial | refine ⟨rfl, ?_⟩))
theorem x_chosen (hV : MV σ ℓ nr nW ng) (hX : MX σ nr nW ng I) (hK : MK ℓ ab nW I) (hab : -1 ≤ ab ∧ ab ≤ 100) (hDV : DV δ nr nW) (hD : DM δ nr nW I) {w : Nat} (hw : w < nW) {kd : Int} (hk : kd = 2 ∨ kd = 3 ∨ kd = 4) : Mc g 3 m_X8_chosen 0 0 [vr 139, vi kd, vi (w : Int)] (TT Ls tl) I L (RR tl) (qI fun z T' I' L' R' => z = choS σ ℓ ab (fun r => pmS σ r ng) kd nr δ w ∧ same (TT Ls tl) I L (RR tl) T' I' L' R') := by
  refine Mc_of rfl (Nat.le_of_ble_eq_true rfl) ?_
  obtain ⟨⟨s1, s2, s3, s4, s5⟩, v2, v3, v4⟩ := id hV
  have e0 := hX.1
  obtain ⟨ok, hok⟩ : ∃ ok : Nat → Bool, ok = fun r => decide (δ 1 r = -1 ∧ δ 0 r ≤ δ 4 w) && mayS σ ℓ ab δ w r := ⟨_, rfl⟩
  have d5 := (hDV.2 w hw).2
  have key : choS σ ℓ ab (fun r => pmS σ r ng) kd nr δ w = amin ok (wkM σ ng kd δ w) nr := by
    unfold choS
    rw [hok]
    refine amin_cmp nr (fun i j hij hj _ _ => ?_)
    have a1 := ahd_bd (kd := kd) (s3 i (by omega)) v3
    have a2 := ahd_bd (kd := kd) (s3 j hj) v3
    have b1 := absI_bd d5 (s3 i (by omega)).1
    have b2 := absI_bd d5 (s3 j hj).1
    unfold wkM
    omega
  rw [key]
  have g4 := (hD.2 w hw).1
  have d4 := (hDV.2 w hw).1
  have loop : ∀ (k c : Nat), c + k = nr → Cp g 3 m_X8_chosen 0 0 (qI fun z T' I' L' R' => z = amin ok (wkM σ ng kd δ w) nr ∧ same (TT Ls tl) I L (RR tl) T' I' L' R') 5 [(0, vr 139), (1, vi kd), (2, vi (w : Int)), (3, vi (amin ok (wkM σ ng kd δ w) c)), (4, vi (c : Int))] [] (TT Ls tl) I L (RR tl) := by
    intro k
    induction k with
    | zero =>
      intro c hc
      refine r_iload d_X8_chosen_5 rfl ?_
      refine r_aload_n d_X8_chosen_7 rfl ?_
      refine r_geti d_X8_chosen_8 f_X8_232 (tt_139 _ _) (by decide) (by decide) ?_
      refine r_icmp_ge d_X8_chosen_11 (by omega) (by omega) (fun c11 => ?_) (fun c11 => absurd c11 (by omega))
      refine r_iload_n d_X8_chosen_95 rfl ?_
      refine r_iret d_X8_chosen_96 rfl ?_
      exact ⟨_, rfl, by rw [show c = nr by omega], same_rf⟩
    | succ k ih =>
      intro c hc
      have hcn : c < nr := by omega
      obtain ⟨g0, g1, g2, g3⟩ := hD.1 c hcn
      obtain ⟨d0, d1, -, -⟩ := hDV.1 c hcn
      have hm := x_may (g := g) (Ls := Ls) (tl := tl) (L := L) hV hX hK hab hDV hD hw hcn
      have hrg := amin_rng ok (wkM σ ng kd δ w) c
      have wb : ∀ r, r < nr → -2147483648 ≤ wkM σ ng kd δ w r ∧ wkM σ ng kd δ w r ≤ 2147483647 := fun r hr => by
        have a1 := ahd_bd (kd := kd) (s3 r hr) v3
        have b1 := absI_bd d5 (s3 r hr).1
        unfold wkM
        omega
      have w1 := wb c hcn
      have t56 : ∀ x : Int, (x = 1 ∧ ok c = true ∨ x = 0 ∧ ok c = false) → Cp g 3 m_X8_chosen 0 0 (qI fun z T' I' L' R' => z = amin ok (wkM σ ng kd δ w) nr ∧ same (TT Ls tl) I L (RR tl) T' I' L' R') 58 [(0, vr 139), (1, vi kd), (2, vi (w : Int)), (3, vi (amin ok (wkM σ ng kd δ w) c)), (4, vi (c : Int)), (5, vi x)] [] (TT Ls tl) I L (RR tl) := by
        intro x hx
        rcases hx with ⟨rfl, ho⟩ | ⟨rfl, ho⟩
        · by_cases ha : amin ok (wkM σ ng kd δ w) c = -1
          · have ea := amin_yes (ok := ok) (key := wkM σ ng kd δ w) (n := c) ho (Or.inl ha)
            refine r_iload d_X8_chosen_58 rfl ?_
            refine r_if_eq d_X8_chosen_60 (by omega) (fun c60 => absurd c60 (by decide)) (fun c60 => ?_)
            refine r_iload_n d_X8_chosen_63 rfl ?_
            refine r_iconst d_X8_chosen_64 ?_
            refine r_icmp_eq d_X8_chosen_65 (by omega) (by omega) (fun c65 => ?_) (fun c65 => absurd c65 (by omega))
            refine r_iload d_X8_chosen_86 rfl ?_
            refine r_istore_n d_X8_chosen_88 (by decide) ?_
            refine r_iinc d_X8_chosen_89 rfl (by decide) ?_
            refine r_goto d_X8_chosen_92 ?_
            exact CpL (ih (c + 1) (by omega)) (by repeat (first | exact trivial | refine ⟨rfl, ?_⟩ | refine ⟨by rw [ea]; rfl, ?_⟩))
          · obtain ⟨v, hve⟩ : ∃ v : Nat, amin ok (wkM σ ng kd δ w) c = (v : Int) := ⟨(amin ok (wkM σ ng kd δ w) c).toNat, by omega⟩
            have hvn : v < nr := by omega
            have w2 := wb v hvn
            by_cases hlt : wkM σ ng kd δ w c < wkM σ ng kd δ w v
            · have ea := amin_yes (ok := ok) (key := wkM σ ng kd δ w) (n := c) ho (Or.inr (by rw [hve, Int.toNat_natCast]; exact hlt))
              rw [hve]
              refine r_iload d_X8_chosen_58 rfl ?_
              refine r_if_eq d_X8_chosen_60 (by omega) (fun c60 => absurd c60 (by decide)) (fun c60 => ?_)
              refine r_iload_n d_X8_chosen_63 rfl ?_
              refine r_iconst d_X8_chosen_64 ?_
              refine r_icmp_eq d_X8_chosen_65 (by omega) (by omega) (fun c65 => absurd c65 (by omega)) (fun c65 => ?_)
              refine r_aload_n d_X8_chosen_68 rfl ?_
              refine r_iload_n d_X8_chosen_69 rfl ?_
              refine r_iload_n d_X8_chosen_70 rfl ?_
              refine r_iload d_X8_chosen_71 rfl ?_
              refine r_V3i d_X8_chosen_73 (w_X8_310 _ rfl) (tt_139 _ _) rfl rfl (x_worthOf hV hX hDV hD hw hcn hk) (by decide) (Nat.le_of_ble_eq_true rfl) (fun z73 T73 I73 L73 R73 h73 => ?_)
              obtain ⟨rfl, rfl, rfl, rfl, rfl⟩ := h73
              refine r_aload_n d_X8_chosen_76 rfl ?_
              refine r_iload_n d_X8_chosen_77 rfl ?_
              refine r_iload_n d_X8_chosen_78 rfl ?_
              refine r_iload_n d_X8_chosen_79 rfl ?_
              refine r_V3i d_X8_chosen_80 (w_X8_310 _ rfl) (tt_139 _ _) rfl rfl (x_worthOf hV hX hDV hD hw hvn hk) (by decide) (Nat.le_of_ble_eq_true rfl) (fun z80 T80 I80 L80 R80 h80 => ?_)
              obtain ⟨rfl, rfl, rfl, rfl, rfl⟩ := h80
              refine r_icmp_ge d_X8_chosen_83 (by omega) (by omega) (fun c83 => absurd c83 (by omega)) (fun c83 => ?_)
              refine r_iload d_X8_chosen_86 rfl ?_
              refine r_istore_n d_X8_chosen_88 (by decide) ?_
              refine r_iinc d_X8_chosen_89 rfl (by decide) ?_
              refine r_goto d_X8_chosen_92 ?_
              exact CpL (ih (c + 1) (by omega)) (by repeat (first | exact trivial | refine ⟨rfl, ?_⟩ | refine ⟨by rw [ea]; rfl, ?_⟩))
            · have ea := amin_no (ok := ok) (key := wkM σ ng kd δ w) (n := c) (Or.inr ⟨ha, by rw [hve, Int.toNat_natCast]; omega⟩)
              rw [hve] at ea ⊢
              refine r_iload d_X8_chosen_58 rfl ?_
              refine r_if_eq d_X8_chosen_60 (by omega) (fun c60 => absurd c60 (by decide)) (fun c60 => ?_)
              refine r_iload_n d_X8_chosen_63 rfl ?_
              refine r_iconst d_X8_chosen_64 ?_
              refine r_icmp_eq d_X8_chosen_65 (by omega) (by omega) (fun c65 => absurd c65 (by omega)) (fun c65 => ?_)
              refine r_aload_n d_X8_chosen_68 rfl ?_
              refine r_iload_n d_X8_chosen_69 rfl ?_
              refine r_iload_n d_X8_chosen_70 rfl ?_
              refine r_iload d_X8_chosen_71 rfl ?_
              refine r_V3i d_X8_chosen_73 (w_X8_310 _ rfl) (tt_139 _ _) rfl rfl (x_worthOf hV hX hDV hD hw hcn hk) (by decide) (Nat.le_of_ble_eq_true rfl) (fun z73 T73 I73 L73 R73 h73 => ?_)
              obtain ⟨rfl, rfl, rfl, rfl, rfl⟩ := h73
              refine r_aload_n d_X8_chosen_76 rfl ?_
              refine r_iload_n d_X8_chosen_77 rfl ?_
              refine r_iload_n d_X8_chosen_78 rfl ?_
              refine r_iload_n d_X8_chosen_79 rfl ?_
              refine r_V3i d_X8_chosen_80 (w_X8_310 _ rfl) (tt_139 _ _) rfl rfl (x_worthOf hV hX hDV hD hw hvn hk) (by decide) (Nat.le_of_ble_eq_true rfl) (fun z80 T80 I80 L80 R80 h80 => ?_)
              obtain ⟨rfl, rfl, rfl, rfl, rfl⟩ := h80
              refine r_icmp_ge d_X8_chosen_83 (by omega) (by omega) (fun c83 => ?_) (fun c83 => absurd c83 (by omega))
              refine r_iinc d_X8_chosen_89 rfl (by decide) ?_
              refine r_goto d_X8_chosen_92 ?_
              exact CpL (ih (c + 1) (by omega)) (by repeat (first | exact trivial | refine ⟨rfl, ?_⟩ | refine ⟨by rw [ea]; rfl, ?_⟩))
        · have ea := amin_no (ok := ok) (key := wkM σ ng kd δ w) (n := c) (Or.inl ho)
          refine r_iload d_X8_chosen_58 rfl ?_
          refine r_if_eq d_X8_chosen_60 (by omega) (fun c60 => ?_) (fun c60 => absurd c60 (by decide))
          refine r_iinc d_X8_chosen_89 rfl (by decide) ?_
          refine r_goto d_X8_chosen_92 ?_
          exact CpL (ih (c + 1) (by omega)) (by repeat (first | exact trivial | refine ⟨rfl, ?_⟩ | refine ⟨by rw [ea]; rfl, ?_⟩))
      have oc : ok c = (decide (δ 1 c = -1 ∧ δ 0 c ≤ δ 4 w) && mayS σ ℓ ab δ w c) := by rw [hok]
      by_cases kc : δ 1 c = -1 ∧ δ 0 c ≤ δ 4 w
      · rw [decide_eq_true kc, Bool.true_and] at oc
        cases hmy : mayS σ ℓ ab δ w c with
        | true =>
          rw [hmy, if_pos rfl] at hm
          rw [hmy] at oc
          refine r_iload d_X8_chosen_5 rfl ?_
          refine r_aload_n d_X8_chosen_7 rfl ?_
          refine r_geti d_X8_chosen_8 f_X8_232 (tt_139 _ _) (by decide) (by decide) ?_
          refine r_icmp_ge d_X8_chosen_11 (by omega) (by omega) (fun c11 => absurd c11 (by omega)) (fun c11 => ?_)
          refine r_aload_n d_X8_chosen_14 rfl ?_
          refine r_getr d_X8_chosen_15 f_X8_130 (tt_139 _ _) (by decide) rfl (rr_139_59 _) ?_
          refine r_iload d_X8_chosen_18 rfl ?_
          refine r_ialdJ d_X8_chosen_20 (tt_177 _ _) rfl (by omega) (kk := ?_)
          rw [g1]
          refine r_iconst d_X8_chosen_21 ?_
          refine r_icmp_ne d_X8_chosen_22 (by omega) (by omega) (fun c22 => absurd c22 (by omega)) (fun c22 => ?_)
          refine r_aload_n d_X8_chosen_25 rfl ?_
          refine r_getr d_X8_chosen_26 f_X8_118 (tt_139 _ _) (by decide) rfl (rr_139_54 _) ?_
          refine r_iload d_X8_chosen_29 rfl ?_
          refine r_ialdJ d_X8_chosen_31 (tt_174 _ _) rfl (by omega) (kk := ?_)
          rw [g0]
          refine r_aload_n d_X8_chosen_32 rfl ?_
          refine r_getr d_X8_chosen_33 f_X8_127 (tt_139 _ _) (by decide) rfl (rr_139_58 _) ?_
          refine r_iload_n d_X8_chosen_36 rfl ?_
          refine r_ialdJ d_X8_chosen_37 (tt_176 _ _) rfl (by omega) (kk := ?_)
          rw [g4]
          refine r_icmp_gt d_X8_chosen_38 (by omega) (by omega) (fun c38 => absurd c38 (by omega)) (fun c38 => ?_)
          refine r_aload_n d_X8_chosen_41 rfl ?_
          refine r_iload_n d_X8_chosen_42 rfl ?_
          refine r_iload d_X8_chosen_43 rfl ?_
          refine r_V2i d_X8_chosen_45 (w_X8_291 _ rfl) (tt_139 _ _) rfl rfl (hm) (by decide) (Nat.le_of_ble_eq_true rfl) (fun z45 T45 I45 L45 R45 h45 => ?_)
          obtain ⟨rfl, rfl, rfl, rfl, rfl⟩ := h45
          refine r_if_eq d_X8_chosen_48 (by omega) (fun c48 => absurd c48 (by decide)) (fun c48 => ?_)
          refine r_iconst d_X8_chosen_51 ?_
          refine r_goto d_X8_chosen_52 ?_
          refine r_istore d_X8_chosen_56 (by decide) ?_
          exact CpL (t56 1 (Or.inl ⟨rfl, oc⟩)) (by repeat (first | exact trivial | refine ⟨rfl, ?_⟩))
        | false =>
          rw [hmy, if_neg (by decide)] at hm
          rw [hmy] at oc
          refine r_iload d_X8_chosen_5 rfl ?_
          refine r_aload_n d_X8_chosen_7 rfl ?_
          refine r_geti d_X8_chosen_8 f_X8_232 (tt_139 _ _) (by decide) (by decide) ?_
          refine r_icmp_ge d_X8_chosen_11 (by omega) (by omega) (fun c11 => absurd c11 (by omega)) (fun c11 => ?_)
          refine r_aload_n d_X8_chosen_14 rfl ?_
          refine r_getr d_X8_chosen_15 f_X8_130 (tt_139 _ _) (by decide) rfl (rr_139_59 _) ?_
          refine r_iload d_X8_chosen_18 rfl ?_
          refine r_ialdJ d_X8_chosen_20 (tt_177 _ _) rfl (by omega) (kk := ?_)
          rw [g1]
          refine r_iconst d_X8_chosen_21 ?_
          refine r_icmp_ne d_X8_chosen_22 (by omega) (by omega) (fun c22 => absurd c22 (by omega)) (fun c22 => ?_)
          refine r_aload_n d_X8_chosen_25 rfl ?_
          refine r_getr d_X8_chosen_26 f_X8_118 (tt_139 _ _) (by decide) rfl (rr_139_54 _) ?_
          refine r_iload d_X8_chosen_29 rfl ?_
          refine r_ialdJ d_X8_chosen_31 (tt_174 _ _) rfl (by omega) (kk := ?_)
          rw [g0]
          refine r_aload_n d_X8_chosen_32 rfl ?_
          refine r_getr d_X8_chosen_33 f_X8_127 (tt_139 _ _) (by decide) rfl (rr_139_58 _) ?_
          refine r_iload_n d_X8_chosen_36 rfl ?_
          refine r_ialdJ d_X8_chosen_37 (tt_176 _ _) rfl (by omega) (kk := ?_)
          rw [g4]
          refine r_icmp_gt d_X8_chosen_38 (by omega) (by omega) (fun c38 => absurd c38 (by omega)) (fun c38 => ?_)
          refine r_aload_n d_X8_chosen_41 rfl ?_
          refine r_iload_n d_X8_chosen_42 rfl ?_
          refine r_iload d_X8_chosen_43 rfl ?_
          refine r_V2i d_X8_chosen_45 (w_X8_291 _ rfl) (tt_139 _ _) rfl rfl (hm) (by decide) (Nat.le_of_ble_eq_true rfl) (fun z45 T45 I45 L45 R45 h45 => ?_)
          obtain ⟨rfl, rfl, rfl, rfl, rfl⟩ := h45
          refine r_if_eq d_X8_chosen_48 (by omega) (fun c48 => ?_) (fun c48 => absurd c48 (by decide))
          refine r_iconst d_X8_chosen_55 ?_
          refine r_istore d_X8_chosen_56 (by decide) ?_
          exact CpL (t56 0 (Or.inr ⟨rfl, oc⟩)) (by repeat (first | exact trivial | refine ⟨rfl, ?_⟩))
      · rw [decide_eq_false kc, Bool.false_and] at oc
        refine r_iload d_X8_chosen_5 rfl ?_
        refine r_aload_n d_X8_chosen_7 rfl ?_
        refine r_geti d_X8_chosen_8 f_X8_232 (tt_139 _ _) (by decide) (by decide) ?_
        refine r_icmp_ge d_X8_chosen_11 (by omega) (by omega) (fun c11 => absurd c11 (by omega)) (fun c11 => ?_)
        refine r_aload_n d_X8_chosen_14 rfl ?_
        refine r_getr d_X8_chosen_15 f_X8_130 (tt_139 _ _) (by decide) rfl (rr_139_59 _) ?_
        refine r_iload d_X8_chosen_18 rfl ?_
        refine r_ialdJ d_X8_chosen_20 (tt_177 _ _) rfl (by omega) (kk := ?_)
        rw [g1]
        refine r_iconst d_X8_chosen_21 ?_
        refine r_icmp_ne d_X8_chosen_22 (by omega) (by omega) (fun c22 => ?_) (fun c22 => ?_)
        · refine r_iconst d_X8_chosen_55 ?_
          refine r_istore d_X8_chosen_56 (by decide) ?_
          exact CpL (t56 0 (Or.inr ⟨rfl, oc⟩)) (by repeat (first | exact trivial | refine ⟨rfl, ?_⟩))
        · refine r_aload_n d_X8_chosen_25 rfl ?_
          refine r_getr d_X8_chosen_26 f_X8_118 (tt_139 _ _) (by decide) rfl (rr_139_54 _) ?_
          refine r_iload d_X8_chosen_29 rfl ?_
          refine r_ialdJ d_X8_chosen_31 (tt_174 _ _) rfl (by omega) (kk := ?_)
          rw [g0]
          refine r_aload_n d_X8_chosen_32 rfl ?_
          refine r_getr d_X8_chosen_33 f_X8_127 (tt_139 _ _) (by decide) rfl (rr_139_58 _) ?_
          refine r_iload_n d_X8_chosen_36 rfl ?_
          refine r_ialdJ d_X8_chosen_37 (tt_176 _ _) rfl (by omega) (kk := ?_)
          rw [g4]
          refine r_icmp_gt d_X8_chosen_38 (by omega) (by omega) (fun c38 => ?_) (fun c38 => absurd c38 (by omega))
          refine r_iconst d_X8_chosen_55 ?_
          refine r_istore d_X8_chosen_56 (by decide) ?_
          exact CpL (t56 0 (Or.inr ⟨rfl, oc⟩)) (by repeat (first | exact trivial | refine ⟨rfl, ?_⟩))
  refine r_iconst d_X8_chosen_0 ?_
  refine r_istore_n d_X8_chosen_1 (by decide) ?_
  refine r_iconst d_X8_chosen_2 ?_
  refine r_istore d_X8_chosen_3 (by decide) ?_
  exact CpL (loop nr 0 (by omega)) (by repeat (first | exact trivial | refine ⟨rfl, ?_⟩))
end X79
