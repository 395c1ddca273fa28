/-- the page's letters -/
def PGL (pg : Nat → Int) (len : Nat) (I : sI) : Prop := I 4 1 = (len : Int) ∧ len ≤ 160 ∧ ∀ j, j < len → I 5 j = pg j ∧ 0 ≤ pg j ∧ pg j ≤ 126
def iniA (D : Sg) : Prop := D 20 0 = 0 ∧ D 20 1 = 0 ∧ D 20 2 = 0 ∧ D 20 3 = 0 ∧ D 20 7 = 0
def sgA (D : Sg) : Sg := lateS D (fun _ => -1)
/-- a house that is read whole -/
def HWX (hb : Nat) (D : Sg) (nr nw ng : Nat) (I : sI) : Prop := HV (sgA D) nr nw ng ∧ HX hb (sgA D) nr nw ng I ∧ HS hb (sgA D) nr ng I ∧ D 20 0 = (nr : Int) ∧ D 20 1 = (nw : Int) ∧ D 20 2 = (ng : Int) ∧ 0 < nr ∧ 0 < nw ∧ 0 < ng
section C68
variable {g : sG} {Ls : Nat} {tl : List Nat} {I L : sI} {pg : Nat → Int} {len hb : Nat} {D0 : Sg}
theorem FH_FH {I I' : sI} (h1 : ∀ a, a ≠ hb → I' a = I a) (hh : hb = 8 ∨ hb = 35) : FH hb I I' := ⟨fun a h2 h3 => h1 a (by omega), fun k _ _ => by rw [h1 4 (by omega)]⟩
theorem c_readHouse (hh : hb = 8 ∨ hb = 35) (hP : PGL pg len I) (h0 : iniA D0) : Mc g 5 m_X5_readHouse 0 0 [vr 4, vr hb] (TT Ls tl) I L (RR tl) (qI fun z T' I' L' R' => T' = TT Ls tl ∧ R' = RR tl ∧ L' = L ∧ FH hb I I' ∧ ∃ p' D', stpA pg len D0 p' D' ∧ I' 4 2 = (p' : Int) ∧ (¬ (p' = len ∧ D' 20 7 = 23) → z = 0) ∧ ((p' = len ∧ D' 20 7 = 23) → z = 1 ∧ ∃ nr nw ng, HWX hb D' nr nw ng I')) := by
  refine Mc_of rfl (Nat.le_of_ble_eq_true rfl) ?_
  obtain ⟨i0, i1, i2, i3, i7⟩ := h0
  obtain ⟨Q, hQ⟩ : ∃ Q : sQ, Q = (qI fun z T' I' L' R' => T' = TT Ls tl ∧ R' = RR tl ∧ L' = L ∧ FH hb I I' ∧ ∃ p' D', stpA pg len D0 p' D' ∧ I' 4 2 = (p' : Int) ∧ (¬ (p' = len ∧ D' 20 7 = 23) → z = 0) ∧ ((p' = len ∧ D' 20 7 = 23) → z = 1 ∧ ∃ nr nw ng, HWX hb D' nr nw ng I')) := ⟨_, rfl⟩
  rw [← hQ]
  have bad29 : ∀ (I1 : sI) (p1 : Nat), PGX pg len true p1 I1 → badA pg len D0 p1 → FH hb I I1 → Cp g 5 m_X5_readHouse 0 0 Q 29 [(0, vr 4), (1, vr hb)] [] (TT Ls tl) I1 L (RR tl) := by
    intro I1 p1 hP1 ⟨D', hd, hn⟩ f
    have h5 : I1 4 3 = 1 := hP1.2.2.2.2.1
    refine r_aload_n d_X5_readHouse_29 rfl ?_
    refine r_geti d_X5_readHouse_30 f_X5_31 (tt_4 _ _) (by decide) (by decide) ?_
    rw [h5]
    refine r_if_eq d_X5_readHouse_33 (by omega) (fun c33 => absurd c33 (by decide)) (fun c33 => ?_)
    refine r_iconst d_X5_readHouse_36 ?_
    refine r_zret d_X5_readHouse_37 rfl (by omega) ?_
    rw [hQ]
    exact ⟨_, rfl, rfl, rfl, rfl, f, p1, D', hd, hP1.2.2.1, fun _ => rfl, fun h => absurd h hn⟩
  have bad24 : ∀ (I1 : sI) (p1 : Nat), PGX pg len true p1 I1 → badA pg len D0 p1 → FH hb I I1 → Cp g 5 m_X5_readHouse 0 0 Q 24 [(0, vr 4), (1, vr hb)] [] (TT Ls tl) I1 L (RR tl) := by
    intro I1 p1 hP1 hb1 f
    refine r_aload_n d_X5_readHouse_24 rfl ?_
    refine r_aload_n d_X5_readHouse_25 rfl ?_
    refine r_V1v d_X5_readHouse_26 (w_X5_47 _ rfl) (tt_4 _ _) rfl rfl (c_readGuests_s hh hP1) (by decide) (Nat.le_of_ble_eq_true rfl) (fun T26 I26 L26 R26 h26 => ?_)
    obtain ⟨rfl, rfl, rfl, rfl⟩ := h26
    exact bad29 _ p1 hP1 hb1 f
  have bad19 : ∀ (I1 : sI) (p1 : Nat), PGX pg len true p1 I1 → badA pg len D0 p1 → FH hb I I1 → Cp g 5 m_X5_readHouse 0 0 Q 19 [(0, vr 4), (1, vr hb)] [] (TT Ls tl) I1 L (RR tl) := by
    intro I1 p1 hP1 hb1 f
    refine r_aload_n d_X5_readHouse_19 rfl ?_
    refine r_aload_n d_X5_readHouse_20 rfl ?_
    refine r_V1v d_X5_readHouse_21 (w_X5_44 _ rfl) (tt_4 _ _) rfl rfl (c_readWomen_s hh hP1) (by decide) (Nat.le_of_ble_eq_true rfl) (fun T21 I21 L21 R21 h21 => ?_)
    obtain ⟨rfl, rfl, rfl, rfl⟩ := h21
    exact bad24 _ p1 hP1 hb1 f
  have t29 : ∀ (I1 : sI) (nr nw ng : Nat) (D' D1 : Sg), GRS pg len D0 D1 hb nr nw ng D' I1 → D1 20 0 = (nr : Int) → D1 20 1 = (nw : Int) → (1 ≤ nr ∧ nr ≤ 8) → (1 ≤ nw ∧ nw ≤ 3) → I1 hb 3 = (nr : Int) → I1 hb 4 = (nw : Int) → FH hb I I1 → Cp g 5 m_X5_readHouse 0 0 Q 29 [(0, vr 4), (1, vr hb)] [] (TT Ls tl) I1 L (RR tl) := by
    intro I1 nr nw ng D' D1 ⟨hP1, hA1, d7, d0, d1, d2, hg8, hRD, hWD, hGD, e5⟩ x0 x1 hn8 hw3 e3 e4 f
    have h5 : I1 4 3 = 0 := hP1.2.2.2.2.1
    have ec : ∀ n, chn (sgA D') n = chn D' n := fun n => late_chn n
    have hV : HV (sgA D') nr nw ng := by
      refine ⟨hn8.2, hw3.2, hg8.2, fun r hr => (hRD.1 r hr).2.2, fun w hw => ?_, fun q hq => ?_, by rw [ec]; exact hRD.2.2.2.1⟩
      · have := (hWD w hw).2
        unfold WV at this ⊢
        exact this
      · have := (hGD q hq).2
        unfold GV at this ⊢
        exact this
    have hX : HX hb (sgA D') nr nw ng I1 := by
      refine ⟨e3, e4, e5, by rw [ec]; exact hRD.2.2.1, fun r hr k hk => ?_, fun w hw k hk => ?_, fun q hq k hk => ?_, fun r hr h4 => by rw [ec]; exact hRD.2.1 r hr h4⟩
      · by_cases e6 : k = 6
        · rw [e6, (hRD.1 r hr).2.1]; rfl
        · rw [(hRD.1 r hr).1 k (by omega)]; exact (late_same e6).symm
      · rw [(hWD w hw).1 k hk]; exact (late_same (by omega)).symm
      · rw [(hGD q hq).1 k hk]; exact (late_same (by omega)).symm
    refine r_aload_n d_X5_readHouse_29 rfl ?_
    refine r_geti d_X5_readHouse_30 f_X5_31 (tt_4 _ _) (by decide) (by decide) ?_
    rw [h5]
    refine r_if_eq d_X5_readHouse_33 (by omega) (fun c33 => ?_) (fun c33 => absurd c33 (by decide))
    refine r_aload_n d_X5_readHouse_38 rfl ?_
    refine r_V0v d_X5_readHouse_39 (w_X5_50 _ rfl) (th_0 _ _ hh) rfl rfl (c_settle hh hV hX) (by decide) (Nat.le_of_ble_eq_true rfl) (fun T39 I39 L39 R39 h39 => ?_)
    obtain ⟨rfl, rfl, rfl, y1, y2⟩ := h39
    refine r_iconst d_X5_readHouse_42 ?_
    refine r_zret d_X5_readHouse_43 rfl (by omega) ?_
    rw [hQ]
    refine ⟨_, rfl, rfl, rfl, rfl, FH_tr f ⟨fun a h1 h2 => y1.1 a (by omega), fun k _ _ => by rw [y1.1 4 (by omega)]⟩, len, D', ⟨hA1, Nat.le_refl _, Or.inl rfl⟩, ?_, fun h => absurd ⟨rfl, d7⟩ h, fun _ => ⟨rfl, nr, nw, ng, hV, HX_fst hV hX y1, y2, by rw [d0]; exact x0, by rw [d1]; exact x1, d2, by omega, by omega, by omega⟩⟩
    rw [y1.1 4 (by omega)]; exact hP1.2.2.1
  have t24 : ∀ (I1 : sI) (nr p1 nw : Nat) (D1 D2 : Sg), WRS pg len D0 D1 hb nr p1 nw D2 I1 → D1 20 0 = (nr : Int) → D1 20 2 = 0 → (1 ≤ nr ∧ nr ≤ 8) → I1 hb 3 = (nr : Int) → FH hb I I1 → Cp g 5 m_X5_readHouse 0 0 Q 24 [(0, vr 4), (1, vr hb)] [] (TT Ls tl) I1 L (RR tl) := by
    intro I1 nr p1 nw D1 D2 ⟨hP1, hA1, d7, d4, d5, d6, d0, d1, hw3, hRD, hWD, e4, d2⟩ x0 x2 hn8 e3 f
    refine r_aload_n d_X5_readHouse_24 rfl ?_
    refine r_aload_n d_X5_readHouse_25 rfl ?_
    refine r_V1v d_X5_readHouse_26 (w_X5_47 _ rfl) (tt_4 _ _) rfl rfl (c_readGuests hh hP1 hA1 d7 d4 d5 d6 (by rw [d2]; exact x2) hn8.2 hw3.2 hRD hWD) (by decide) (Nat.le_of_ble_eq_true rfl) (fun T26 I26 L26 R26 h26 => ?_)
    obtain ⟨rfl, rfl, rfl, y1, y2, y3⟩ := h26
    rcases y3 with ⟨p', q1, q2⟩ | ⟨ng, D', q⟩
    · exact CpL (bad29 I26 p' q1 q2 (FH_tr f y1)) (by repeat (first | exact trivial | refine ⟨rfl, ?_⟩))
    · exact CpL (t29 I26 nr nw ng D' D2 q (by rw [d0]; exact x0) d1 hn8 hw3 (by rw [y2 3 (by decide)]; exact e3) (by rw [y2 4 (by decide)]; exact e4) (FH_tr f y1)) (by repeat (first | exact trivial | refine ⟨rfl, ?_⟩))
  obtain ⟨p1, p2, p3⟩ := hP
  obtain ⟨J, hJ⟩ : ∃ J, J = up2 (up2 I 4 2 0) 4 3 0 := ⟨_, rfl⟩
  have hPJ : PGX pg len false 0 J := by
    rw [hJ]
    refine ⟨by rw [up2_nj _ _ (by decide), up2_nj _ _ (by decide)]; exact p1, p2, by rw [up2_nj _ _ (by decide), up2_at]; rfl, by omega, by rw [up2_at]; rfl, fun j hj => ?_⟩
    rw [up2_ne _ _ (by decide), up2_ne _ _ (by decide)]
    exact p3 j hj
  have fJ : FH hb I J := by
    rw [hJ]
    exact ⟨fun a h1 _ => by rw [up2_ne _ _ h1, up2_ne _ _ h1], fun k h2 h3 => by rw [up2_nj _ _ h3, up2_nj _ _ h2]⟩
  refine r_aload_n d_X5_readHouse_0 rfl ?_
  refine r_iconst d_X5_readHouse_1 ?_
  refine r_puti d_X5_readHouse_2 f_X5_28 (tt_4 _ _) (by decide) (Or.inl rfl) ?_
  refine r_aload_n d_X5_readHouse_5 rfl ?_
  refine r_iconst d_X5_readHouse_6 ?_
  refine r_puti d_X5_readHouse_7 f_X5_31 (tt_4 _ _) (by decide) (Or.inr ⟨rfl, by omega⟩) ?_
  rw [← hJ]
  refine r_aload_n d_X5_readHouse_10 rfl ?_
  refine r_V0v d_X5_readHouse_11 (w_X5_35 _ rfl) (th_0 _ _ hh) rfl rfl (c_clear hh) (by decide) (Nat.le_of_ble_eq_true rfl) (fun T11 I11 L11 R11 h11 => ?_)
  obtain ⟨rfl, rfl, rfl, c1, c3, c4, c5, c6⟩ := h11
  have hP11 : PGX pg len false 0 I11 := PGX_i hPJ (c1 4 (by omega)) (c1 5 (by omega))
  have f11 : FH hb I I11 := FH_tr fJ (FH_FH c1 hh)
  have hR0 : RDX D0 hb 0 I11 := ⟨fun i h => absurd h (by omega), fun i h => absurd h (by omega), c6, by show 0 ≤ 3; omega, i3⟩
  refine r_aload_n d_X5_readHouse_14 rfl ?_
  refine r_aload_n d_X5_readHouse_15 rfl ?_
  refine r_V1v d_X5_readHouse_16 (w_X5_40 _ rfl) (tt_4 _ _) rfl rfl (c_readRooms (D0 := D0) hh hP11 rfl i7 i0 hR0) (by decide) (Nat.le_of_ble_eq_true rfl) (fun T16 I16 L16 R16 h16 => ?_)
  obtain ⟨rfl, rfl, rfl, y1, y2, y3⟩ := h16
  rcases y3 with ⟨p', q1, q2⟩ | ⟨p', nr, D1, hP1, hA1, d7, d0, hn8, hRD, e3, d1, d2⟩
  · exact CpL (bad19 I16 p' q1 q2 (FH_tr f11 y1)) (by repeat (first | exact trivial | refine ⟨rfl, ?_⟩))
  · refine r_aload_n d_X5_readHouse_19 rfl ?_
    refine r_aload_n d_X5_readHouse_20 rfl ?_
    refine r_V1v d_X5_readHouse_21 (w_X5_44 _ rfl) (tt_4 _ _) rfl rfl (c_readWomen hh hP1 hA1 d7 (by rw [d1]; exact i1) hn8.2 hRD) (by decide) (Nat.le_of_ble_eq_true rfl) (fun T21 I21 L21 R21 h21 => ?_)
    obtain ⟨rfl, rfl, rfl, w1, w2, w3⟩ := h21
    rcases w3 with ⟨p', q1, q2⟩ | ⟨p', nw, D2, q⟩
    · exact CpL (bad24 I21 p' q1 q2 (FH_tr (FH_tr f11 y1) w1)) (by repeat (first | exact trivial | refine ⟨rfl, ?_⟩))
    · exact CpL (t24 I21 nr p' nw D1 D2 q d0 (by rw [d2]; exact i2) hn8 (by rw [w2 3 (by decide)]; exact e3) (FH_tr (FH_tr f11 y1) w1)) (by repeat (first | exact trivial | refine ⟨rfl, ?_⟩))
end C68
