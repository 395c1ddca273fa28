theorem DV_flr {σ : Sg} {ℓ ab : Int} {nr nW : Nat} (hS : SV σ ℓ nr nW) : ∀ (k seen : Nat) (δ : Sg), DV δ nr nW → DV (flrX σ ℓ ab nr nW k seen δ) nr nW
  | 0, _, _, h => h
  | k + 1, seen, δ, h => by
    unfold flrX
    split
    · exact h
    · next hn =>
      have hr := amin_rng (fun r => !seen.testBit r) (fun r => δ 0 r) nr
      exact DV_flr hS k _ _ (DV_fst hS h (by omega))
theorem ngS_bd2 {δ : Sg} {q : Int} {nr nW : Nat} (h : DV δ nr nW) : ∀ n, n ≤ nr → -1 ≤ ngS δ q n ∧ ngS δ q n ≤ 44
  | 0, _ => by show (-1 : Int) ≤ -1 ∧ (-1 : Int) ≤ 44; omega
  | n + 1, hn => by
    have ih := ngS_bd2 (q := q) h n (by omega)
    have hq := (h.1 n (by omega)).1
    unfold ngS
    split <;> omega
theorem DV_frx {σ : Sg} {ℓ ab : Int} {pm : Nat → Int} {kd : Int} {nr nW : Nat} (hS : SV σ ℓ nr nW) : ∀ (k : Nat) (en : Nat → Bool) (δ : Sg), DV δ nr nW → DV (frX σ ℓ ab pm kd nr nW k en δ) nr nW
  | 0, _, _, h => h
  | k + 1, en, δ, h => by
    unfold frX
    split
    · exact h
    · next hn =>
      have hr := ffS_bd (en := en) (δ := δ) (nW := nW)
      split
      · refine DV_frx hS k _ _ (DV_free h ?_)
        have h1 := (h.2 (ffS en δ nW).toNat (by omega)).1
        have h2 := ngS_bd2 (q := δ 4 (ffS en δ nW).toNat) h nr (Nat.le_refl _)
        split <;> omega
      · next hc =>
        have h3 := choS_bd (σ := σ) (ℓ := ℓ) (ab := ab) (pm := pm) (kd := kd) (nr := nr) (δ := δ) (w := (ffS en δ nW).toNat)
        exact DV_frx hS k _ _ (DV_step hS h (by omega) (by omega))
theorem DV_plan {σ : Sg} {ℓ ab : Int} {pm : Nat → Int} {nr nW : Nat} {kd : Int} {od tr tw : Nat → Nat} {tn way : Nat} (hS : SV σ ℓ nr nW) (ho : ∀ k, k < nr → od k < nr) : DV (planX σ ℓ ab pm nr nW kd od tr tw tn way) nr nW := by
  unfold planX
  split
  · exact DV_flr hS _ _ _ (DV_op hS)
  · split
    · exact DV_frx hS _ _ _ (DV_op hS)
    · split
      · exact DV_td hS (DV_op hS) _
      · exact DV_lst hS (DV_op hS) _ ho
/-- the class, settled: a house, a crew, the orders that are known, the tables -/
def XB (σ : Sg) (ℓ ab : Int) (nr nw nW ng : Nat) (I L : sI) : Prop := HV σ nr nw ng ∧ SV σ ℓ nr nW ∧ HX 8 σ nr nw ng I ∧ HS 8 σ nr ng I ∧ KX σ ℓ ab nr nW I ∧ KNX σ ℓ ab nr nW ng I ∧ RKX L ∧ (∀ j : Nat, j < 8 → I 1 j = (j : Int))
theorem XB_day {σ : Sg} {ℓ ab : Int} {nr nw nW ng : Nat} {I L I' L' : sI} (h : XB σ ℓ ab nr nw nW ng I L) (f1 : ∀ a, a < 70 → I' a = I a) (f3 : KNX σ ℓ ab nr nW ng I') (f2 : frb 81 120 L L') : XB σ ℓ ab nr nw nW ng I' L' := by
  obtain ⟨h1, h2, h3, h4, h5, h6, h7, h8⟩ := h
  exact ⟨h1, h2, HX_low h1 h3 f1, HS_low h4 f1, KX_low h2.1 h2.2.1 h5 f1, f3, fun j hj => by rw [f2 2 (by omega)]; exact h7 j hj, fun j hj => by rw [f1 1 (by omega)]; exact h8 j hj⟩
theorem KNX_frb {σ : Sg} {ℓ ab : Int} {nr nW ng : Nat} {I I' : sI} (h : KNX σ ℓ ab nr nW ng I) (e : ∀ a, (a = 134 ∨ a = 135 ∨ a = 136) → I' a = I a) : KNX σ ℓ ab nr nW ng I' := fun hw hh => by
  rw [e 136 (by omega), e (134 + hw) (by omega)]; exact h hw hh
/-- an order, at oa -/
def OX (Ls : Nat) (tl : List Nat) (nr oa : Nat) (od : Nat → Nat) (I : sI) : Prop := (∃ on, (TT Ls tl)[oa]? = some (10, on) ∧ nr ≤ on ∧ on ≤ 100) ∧ (oa < 70 ∨ 122 ≤ oa) ∧ (∀ k, k < nr → od k < nr ∧ I oa k = (od k : Int))
theorem OX_frb {Ls : Nat} {tl : List Nat} {nr oa : Nat} {od : Nat → Nat} {I I' : sI} (h : OX Ls tl nr oa od I) (f : frb 70 122 I I') : OX Ls tl nr oa od I' := ⟨h.1, h.2.1, fun k hk => by rw [f oa (by have := h.2.1; omega)]; exact h.2.2 k hk⟩
section C42
variable {g : sG} {Ls : Nat} {tl : List Nat} {I L : sI} {σ : Sg} {ℓ ab : Int} {nr nw nW ng : Nat}
theorem c_dayCost (hB : XB σ ℓ ab nr nw nW ng I L) (h0 : 0 < nr) {q tn : Nat} {kd nn : Int} {tr tw : Nat → Nat} (hU : UX tl q kd nn tr tw tn I) {oa : Nat} {od : Nat → Nat} (hO : OX Ls tl nr oa od I) {way : Nat} (hway : way < 8) {how : Int} (hh : how = 0 ∨ how = 1) : Mc g 5 m_X7_dayCost 0 0 [vr 3, vr (186 + 3 * q), vr oa, vi (way : Int), vi how] (TT Ls tl) I L (RR tl) (qI fun z T' I' L' R' => T' = TT Ls tl ∧ R' = RR tl ∧ frb 70 122 I I' ∧ frb 81 120 L L' ∧ DX (planX σ ℓ ab (fun r => pmS σ r ng) nr nW kd od tr tw tn way) nr nW I' ∧ GVX σ nr ng (planX σ ℓ ab (fun r => pmS σ r ng) nr nW kd od tr tw tn way 3) how z (I' 78)) := by
  refine Mc_of rfl (Nat.le_of_ble_eq_true rfl) ?_
  obtain ⟨h1, h2, h3, h4, h5, h6, h7, h8⟩ := id hB
  obtain ⟨v1, v2, v3, v4, v5, v6, v7⟩ := id h1
  obtain ⟨⟨on, t1, t2, t3⟩, o2, o3⟩ := id hO
  have hq := hU.1
  have hPX : PX (fun r => pmS σ r ng) nr I := fun r hr => by
    have := pmS_bd (r := r) v6 ng (Nat.le_refl _)
    exact ⟨h4.2.2.1 r hr, this.1, this.2⟩
  obtain ⟨Δ, hΔ⟩ : ∃ Δ, Δ = planX σ ℓ ab (fun r => pmS σ r ng) nr nW kd od tr tw tn way := ⟨_, rfl⟩
  have hDV : DV Δ nr nW := by rw [hΔ]; exact DV_plan h2 (fun k hk => (o3 k hk).1)
  rw [← hΔ]
  refine r_aload_n d_X7_dayCost_0 rfl ?_
  refine r_getr d_X7_dayCost_1 f_X7_37 (tt_3 _ _) (by decide) rfl (rr_3_5 _) ?_
  refine r_aload_n d_X7_dayCost_4 rfl ?_
  refine r_aload_n d_X7_dayCost_5 rfl ?_
  refine r_iload_n d_X7_dayCost_6 rfl ?_
  refine r_V3v d_X7_dayCost_7 (w_X7_170 _ rfl) (tt_63 _ _) rfl rfl (c_plan h2 h1 h3 h5 hPX hU t1 ⟨t2, t3⟩ (by omega) o3 hway) (by decide) (Nat.le_of_ble_eq_true rfl) (fun T7 I7 L7 R7 h7 => ?_)
  obtain ⟨⟨rfl, fp, rfl, rfl⟩, hD⟩ := h7
  rw [← hΔ] at hD
  have hB7 := XB_day (I' := I7) (L' := L) hB (fun a ha => fp a (by omega)) (KNX_frb h6 (fun a ha => fp a (by omega))) frb_rf
  obtain ⟨g1, g2, g3, g4, g5, g6, g7, g8⟩ := id hB7
  have hrd : ∀ r, r < nr → I7 76 r = Δ 3 r ∧ -1 ≤ Δ 3 r ∧ Δ 3 r ≤ 44 := fun r hr => ⟨(hD.1 r hr).2.2.2, (hDV.1 r hr).2.2.2⟩
  refine r_aload_n d_X7_dayCost_10 rfl ?_
  refine r_getr d_X7_dayCost_11 f_X7_44 (tt_3 _ _) (by decide) rfl (rr_3_6 _) ?_
  refine r_aload_n d_X7_dayCost_14 rfl ?_
  refine r_getr d_X7_dayCost_15 f_X7_37 (tt_3 _ _) (by decide) rfl (rr_3_5 _) ?_
  refine r_getr d_X7_dayCost_18 f_X7_180 (tt_63 _ _) (by decide) rfl (rr_63_11 _) ?_
  refine r_iload d_X7_dayCost_21 rfl ?_
  refine r_V2i d_X7_dayCost_23 (w_X7_298 _ rfl) (tt_77 _ _) rfl rfl (c_give (how := how) g1 g3 g4 g7 h0 hrd hh) (by decide) (Nat.le_of_ble_eq_true rfl) (fun z23 T23 I23 L23 R23 h23 => ?_)
  obtain ⟨rfl, rfl, k1, k2, k3⟩ := h23
  refine r_iret d_X7_dayCost_26 rfl ?_
  refine ⟨_, rfl, rfl, rfl, fun a ha => ?_, k2, ⟨fun r hr => ?_, fun w hw => ?_⟩, k3⟩
  · rw [k1 a (by omega)]; exact fp a (by omega)
  · rw [k1 73 (by omega), k1 74 (by omega), k1 75 (by omega), k1 76 (by omega)]; exact hD.1 r hr
  · rw [k1 70 (by omega), k1 71 (by omega)]; exact hD.2 w hw
end C42
