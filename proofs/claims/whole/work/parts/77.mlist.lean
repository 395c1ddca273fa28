theorem amin_cmp {ok : Nat → Bool} {key key' : Nat → Int} : ∀ n, (∀ i j, i < j → j < n → ok i = true → ok j = true → (key j < key i ↔ key' j < key' i)) → amin ok key n = amin ok key' n
  | 0, _ => rfl
  | n + 1, h => by
    have ih := amin_cmp n (fun i j h1 h2 => h i j h1 (by omega))
    unfold amin
    rw [ih]
    by_cases ho : ok n = true
    · rcases amin_spec ok key' n with ⟨h1, -⟩ | ⟨b, h1, h2, h3, -⟩
      · rw [h1, if_pos ⟨ho, Or.inl rfl⟩, if_pos ⟨ho, Or.inl rfl⟩]
      · rw [h1, Int.toNat_natCast]
        have hk := h b n h2 (by omega) h3 ho
        by_cases c : key n < key b
        · rw [if_pos ⟨ho, Or.inr c⟩, if_pos ⟨ho, Or.inr (hk.mp c)⟩]
        · rw [if_neg, if_neg]
          · rintro ⟨-, q | q⟩
            · omega
            · exact c (hk.mpr q)
          · rintro ⟨-, q | q⟩
            · omega
            · exact c q
    · rw [if_neg (fun q => ho q.1), if_neg (fun q => ho q.1)]
theorem lone_beg {σ : Sg} {ℓ ab : Int} {nW : Nat} {δ : Sg} {r : Nat} : amin (fun w => mayS σ ℓ ab δ w r) (fun w => begS σ ℓ δ w r) nW = amin (fun w => mayS σ ℓ ab δ w r) (fun w => rdyS σ ℓ δ w r) nW := amin_cmp nW (fun i j _ _ _ _ => by unfold rdyS; omega)
section X77
variable {g : sG} {Ls : Nat} {tl : List Nat} {I L : sI} {σ δ : Sg} {ℓ ab : Int} {nr nW ng : Nat}
theorem x_layList (hV : MV σ ℓ nr nW ng) (hX : MX σ nr nW ng I) (hK : MK ℓ ab nW I) (hab : -1 ≤ ab ∧ ab ≤ 100) (hDV : DV δ nr nW) (hD : DM δ nr nW I) {od : Nat → Nat} (hod : ∀ k, k < nr → od k < nr ∧ I 180 k = (od k : Int)) : Mc g 3 m_X8_layList 0 0 [vr 139] (TT Ls tl) I L (RR tl) (qV fun T' I' L' R' => T' = TT Ls tl ∧ R' = RR tl ∧ L' = L ∧ frb 175 180 I I' ∧ DM (lstS σ ℓ ab nW od nr δ) nr nW I') := by
  refine Mc_of rfl (Nat.le_of_ble_eq_true rfl) ?_
  obtain ⟨⟨s1, s2, s3, s4, s5⟩, v2, v3, v4⟩ := id hV
  obtain ⟨Q, hQ⟩ : ∃ Q : sQ, Q = (qV fun T' I' L' R' => T' = TT Ls tl ∧ R' = RR tl ∧ L' = L ∧ frb 175 180 I I' ∧ DM (lstS σ ℓ ab nW od nr δ) nr nW I') := ⟨_, rfl⟩
  rw [← hQ]
  have loop : ∀ (k b : Nat) (I1 : sI), b + k = nr → frb 175 180 I I1 → DM (lstS σ ℓ ab nW od b δ) nr nW I1 → Cp g 3 m_X8_layList 0 0 Q 2 [(0, vr 139), (1, vi (b : Int))] [] (TT Ls tl) I1 L (RR tl) := by
    intro k
    induction k with
    | zero =>
      intro b I1 hb f hD1
      have e0 : I1 139 0 = (nr : Int) := by rw [f 139 (by omega)]; exact hX.1
      refine r_iload_n d_X8_layList_2 rfl ?_
      refine r_aload_n d_X8_layList_3 rfl ?_
      refine r_geti d_X8_layList_4 f_X8_232 (tt_139 _ _) (by decide) (by decide) ?_
      refine r_icmp_ge d_X8_layList_7 (by omega) (by omega) (fun c7 => ?_) (fun c7 => absurd c7 (by omega))
      refine r_vret d_X8_layList_88 rfl ?_
      rw [hQ]
      exact ⟨rfl, rfl, rfl, rfl, f, by rw [show nr = b by omega]; rw [show nr = b by omega] at hD1; exact hD1⟩
    | succ k ih =>
      intro b I1 hb f hD1
      have hX1 := MX_frb hX f (by omega)
      have hK1 := MK_frb hK f (by omega)
      have e0 : I1 139 0 = (nr : Int) := hX1.1
      have e56 : I1 139 56 = (nW : Int) := hK1.2.2
      obtain ⟨ho, eo⟩ := hod b (by omega)
      have eo1 : I1 180 b = (od b : Int) := by rw [f 180 (by omega)]; exact eo
      obtain ⟨Δ, hΔ⟩ : ∃ Δ, Δ = lstS σ ℓ ab nW od b δ := ⟨_, rfl⟩
      obtain ⟨ρ, hρ⟩ : ∃ ρ, ρ = od b := ⟨_, rfl⟩
      have hDVb : DV Δ nr nW := by rw [hΔ]; exact DV_lst hV.1 hDV b (fun k hk => (hod k (by omega)).1)
      rw [← hΔ] at hD1
      rw [← hρ] at ho eo1
      have esuc : lstS σ ℓ ab nW od (b + 1) δ = loneS σ ℓ ab nW Δ ρ := by rw [hΔ, hρ]; rfl
      have inner : ∀ (k2 c : Nat), c + k2 = nW → Cp g 3 m_X8_layList 0 0 Q 22 [(0, vr 139), (1, vi (b : Int)), (2, vi (ρ : Int)), (3, vi (amin (fun w => mayS σ ℓ ab Δ w ρ) (fun w => begS σ ℓ Δ w ρ) c)), (4, vi (c : Int))] [] (TT Ls tl) I1 L (RR tl) := by
        intro k2
        induction k2 with
        | zero =>
          intro c hc
          have hcn : c = nW := by omega
          rw [hcn, lone_beg]
          have hrg := amin_rng (fun w => mayS σ ℓ ab Δ w ρ) (fun w => rdyS σ ℓ Δ w ρ) nW
          by_cases ha : amin (fun w => mayS σ ℓ ab Δ w ρ) (fun w => rdyS σ ℓ Δ w ρ) nW = -1
          · have el : loneS σ ℓ ab nW Δ ρ = Δ := lone_no ha
            rw [ha]
            refine r_iload d_X8_layList_22 rfl ?_
            refine r_aload_n d_X8_layList_24 rfl ?_
            refine r_geti d_X8_layList_25 f_X8_278 (tt_139 _ _) (by decide) (by decide) ?_
            refine r_icmp_ge d_X8_layList_28 (by omega) (by omega) (fun c28 => ?_) (fun c28 => absurd c28 (by omega))
            refine r_iload_n d_X8_layList_71 rfl ?_
            refine r_iconst d_X8_layList_72 ?_
            refine r_icmp_eq d_X8_layList_73 (by omega) (by omega) (fun c73 => ?_) (fun c73 => absurd c73 (by decide))
            refine r_iinc d_X8_layList_82 rfl (by decide) ?_
            refine r_goto d_X8_layList_85 ?_
            exact CpL (ih (b + 1) I1 (by omega) f (by rw [esuc, el]; exact hD1)) (by repeat (first | exact trivial | refine ⟨rfl, ?_⟩))
          · obtain ⟨w, hwe⟩ : ∃ w : Nat, amin (fun w => mayS σ ℓ ab Δ w ρ) (fun w => rdyS σ ℓ Δ w ρ) nW = (w : Int) := ⟨(amin (fun w => mayS σ ℓ ab Δ w ρ) (fun w => rdyS σ ℓ Δ w ρ) nW).toNat, by omega⟩
            obtain ⟨hw, el, -⟩ := lone_yes hwe
            rw [hwe]
            refine r_iload d_X8_layList_22 rfl ?_
            refine r_aload_n d_X8_layList_24 rfl ?_
            refine r_geti d_X8_layList_25 f_X8_278 (tt_139 _ _) (by decide) (by decide) ?_
            refine r_icmp_ge d_X8_layList_28 (by omega) (by omega) (fun c28 => ?_) (fun c28 => absurd c28 (by omega))
            refine r_iload_n d_X8_layList_71 rfl ?_
            refine r_iconst d_X8_layList_72 ?_
            refine r_icmp_eq d_X8_layList_73 (by omega) (by omega) (fun c73 => absurd c73 (by omega)) (fun c73 => ?_)
            refine r_aload_n d_X8_layList_76 rfl ?_
            refine r_iload_n d_X8_layList_77 rfl ?_
            refine r_iload_n d_X8_layList_78 rfl ?_
            refine r_V2v d_X8_layList_79 (w_X8_295 _ rfl) (tt_139 _ _) rfl rfl (x_doRoom hV hX1 hK1.1 hDVb hD1 hw ho) (by decide) (Nat.le_of_ble_eq_true rfl) (fun T79 I79 L79 R79 h79 => ?_)
            obtain ⟨rfl, rfl, rfl, y1, y2⟩ := h79
            refine r_iinc d_X8_layList_82 rfl (by decide) ?_
            refine r_goto d_X8_layList_85 ?_
            exact CpL (ih (b + 1) I79 (by omega) (frb_tr f y1) (by rw [esuc, el]; exact y2)) (by repeat (first | exact trivial | refine ⟨rfl, ?_⟩))
        | succ k2 ih2 =>
          intro c hc
          have hcn : c < nW := by omega
          have hm := x_may (g := g) (Ls := Ls) (tl := tl) (L := L) hV hX1 hK1 hab hDVb hD1 hcn ho
          have hb1 := begS_bd hV.1 hDVb hcn ho
          have hrg := amin_rng (fun w => mayS σ ℓ ab Δ w ρ) (fun w => begS σ ℓ Δ w ρ) c
          cases hmy : mayS σ ℓ ab Δ c ρ with
          | false =>
            rw [hmy, if_neg (by decide)] at hm
            have ea := amin_no (ok := fun w => mayS σ ℓ ab Δ w ρ) (key := fun w => begS σ ℓ Δ w ρ) (n := c) (Or.inl hmy)
            refine r_iload d_X8_layList_22 rfl ?_
            refine r_aload_n d_X8_layList_24 rfl ?_
            refine r_geti d_X8_layList_25 f_X8_278 (tt_139 _ _) (by decide) (by decide) ?_
            refine r_icmp_ge d_X8_layList_28 (by omega) (by omega) (fun c28 => absurd c28 (by omega)) (fun c28 => ?_)
            refine r_aload_n d_X8_layList_31 rfl ?_
            refine r_iload d_X8_layList_32 rfl ?_
            refine r_iload_n d_X8_layList_34 rfl ?_
            refine r_V2i d_X8_layList_35 (w_X8_291 _ rfl) (tt_139 _ _) rfl rfl (hm) (by decide) (Nat.le_of_ble_eq_true rfl) (fun z35 T35 I35 L35 R35 h35 => ?_)
            obtain ⟨rfl, rfl, rfl, rfl, rfl⟩ := h35
            refine r_if_eq d_X8_layList_38 (by omega) (fun c38 => ?_) (fun c38 => absurd c38 (by decide))
            refine r_iinc d_X8_layList_65 rfl (by decide) ?_
            refine r_goto d_X8_layList_68 ?_
            exact CpL (ih2 (c + 1) (by omega)) (by repeat (first | exact trivial | refine ⟨rfl, ?_⟩ | refine ⟨by rw [ea]; rfl, ?_⟩))
          | true =>
            rw [hmy, if_pos rfl] at hm
            by_cases ha : amin (fun w => mayS σ ℓ ab Δ w ρ) (fun w => begS σ ℓ Δ w ρ) c = -1
            · have ea := amin_yes (ok := fun w => mayS σ ℓ ab Δ w ρ) (key := fun w => begS σ ℓ Δ w ρ) (n := c) hmy (Or.inl ha)
              refine r_iload d_X8_layList_22 rfl ?_
              refine r_aload_n d_X8_layList_24 rfl ?_
              refine r_geti d_X8_layList_25 f_X8_278 (tt_139 _ _) (by decide) (by decide) ?_
              refine r_icmp_ge d_X8_layList_28 (by omega) (by omega) (fun c28 => absurd c28 (by omega)) (fun c28 => ?_)
              refine r_aload_n d_X8_layList_31 rfl ?_
              refine r_iload d_X8_layList_32 rfl ?_
              refine r_iload_n d_X8_layList_34 rfl ?_
              refine r_V2i d_X8_layList_35 (w_X8_291 _ rfl) (tt_139 _ _) rfl rfl (hm) (by decide) (Nat.le_of_ble_eq_true rfl) (fun z35 T35 I35 L35 R35 h35 => ?_)
              obtain ⟨rfl, rfl, rfl, rfl, rfl⟩ := h35
              refine r_if_eq d_X8_layList_38 (by omega) (fun c38 => absurd c38 (by decide)) (fun c38 => ?_)
              refine r_iload_n d_X8_layList_41 rfl ?_
              refine r_iconst d_X8_layList_42 ?_
              refine r_icmp_eq d_X8_layList_43 (by omega) (by omega) (fun c43 => ?_) (fun c43 => absurd c43 (by omega))
              refine r_iload d_X8_layList_62 rfl ?_
              refine r_istore_n d_X8_layList_64 (by decide) ?_
              refine r_iinc d_X8_layList_65 rfl (by decide) ?_
              refine r_goto d_X8_layList_68 ?_
              exact CpL (ih2 (c + 1) (by omega)) (by repeat (first | exact trivial | refine ⟨rfl, ?_⟩ | refine ⟨by rw [ea]; rfl, ?_⟩))
            · obtain ⟨w, hwe⟩ : ∃ w : Nat, amin (fun w => mayS σ ℓ ab Δ w ρ) (fun w => begS σ ℓ Δ w ρ) c = (w : Int) := ⟨(amin (fun w => mayS σ ℓ ab Δ w ρ) (fun w => begS σ ℓ Δ w ρ) c).toNat, by omega⟩
              have hb2 := begS_bd hV.1 hDVb (show w < nW by omega) ho
              by_cases hlt : begS σ ℓ Δ c ρ < begS σ ℓ Δ w ρ
              · have ea := amin_yes (ok := fun w => mayS σ ℓ ab Δ w ρ) (key := fun w => begS σ ℓ Δ w ρ) (n := c) hmy (Or.inr (by rw [hwe, Int.toNat_natCast]; exact hlt))
                rw [hwe]
                refine r_iload d_X8_layList_22 rfl ?_
                refine r_aload_n d_X8_layList_24 rfl ?_
                refine r_geti d_X8_layList_25 f_X8_278 (tt_139 _ _) (by decide) (by decide) ?_
                refine r_icmp_ge d_X8_layList_28 (by omega) (by omega) (fun c28 => absurd c28 (by omega)) (fun c28 => ?_)
                refine r_aload_n d_X8_layList_31 rfl ?_
                refine r_iload d_X8_layList_32 rfl ?_
                refine r_iload_n d_X8_layList_34 rfl ?_
                refine r_V2i d_X8_layList_35 (w_X8_291 _ rfl) (tt_139 _ _) rfl rfl (hm) (by decide) (Nat.le_of_ble_eq_true rfl) (fun z35 T35 I35 L35 R35 h35 => ?_)
                obtain ⟨rfl, rfl, rfl, rfl, rfl⟩ := h35
                refine r_if_eq d_X8_layList_38 (by omega) (fun c38 => absurd c38 (by decide)) (fun c38 => ?_)
                refine r_iload_n d_X8_layList_41 rfl ?_
                refine r_iconst d_X8_layList_42 ?_
                refine r_icmp_eq d_X8_layList_43 (by omega) (by omega) (fun c43 => absurd c43 (by omega)) (fun c43 => ?_)
                refine r_aload_n d_X8_layList_46 rfl ?_
                refine r_iload d_X8_layList_47 rfl ?_
                refine r_iload_n d_X8_layList_49 rfl ?_
                refine r_V2i d_X8_layList_50 (w_X8_288 _ rfl) (tt_139 _ _) rfl rfl (x_beginsAt hV hX1 hK1.1 hDVb hD1 hcn ho) (by decide) (Nat.le_of_ble_eq_true rfl) (fun z50 T50 I50 L50 R50 h50 => ?_)
                obtain ⟨rfl, rfl, rfl, rfl, rfl⟩ := h50
                refine r_aload_n d_X8_layList_53 rfl ?_
                refine r_iload_n d_X8_layList_54 rfl ?_
                refine r_iload_n d_X8_layList_55 rfl ?_
                refine r_V2i d_X8_layList_56 (w_X8_288 _ rfl) (tt_139 _ _) rfl rfl (x_beginsAt hV hX1 hK1.1 hDVb hD1 (show w < nW by omega) ho) (by decide) (Nat.le_of_ble_eq_true rfl) (fun z56 T56 I56 L56 R56 h56 => ?_)
                obtain ⟨rfl, rfl, rfl, rfl, rfl⟩ := h56
                refine r_icmp_ge d_X8_layList_59 (by omega) (by omega) (fun c59 => absurd c59 (by omega)) (fun c59 => ?_)
                refine r_iload d_X8_layList_62 rfl ?_
                refine r_istore_n d_X8_layList_64 (by decide) ?_
                refine r_iinc d_X8_layList_65 rfl (by decide) ?_
                refine r_goto d_X8_layList_68 ?_
                exact CpL (ih2 (c + 1) (by omega)) (by repeat (first | exact trivial | refine ⟨rfl, ?_⟩ | refine ⟨by rw [ea]; rfl, ?_⟩))
              · have ea := amin_no (ok := fun w => mayS σ ℓ ab Δ w ρ) (key := fun w => begS σ ℓ Δ w ρ) (n := c) (Or.inr ⟨ha, by rw [hwe, Int.toNat_natCast]; show begS σ ℓ Δ w ρ ≤ begS σ ℓ Δ c ρ; omega⟩)
                rw [hwe] at ea ⊢
                refine r_iload d_X8_layList_22 rfl ?_
                refine r_aload_n d_X8_layList_24 rfl ?_
                refine r_geti d_X8_layList_25 f_X8_278 (tt_139 _ _) (by decide) (by decide) ?_
                refine r_icmp_ge d_X8_layList_28 (by omega) (by omega) (fun c28 => absurd c28 (by omega)) (fun c28 => ?_)
                refine r_aload_n d_X8_layList_31 rfl ?_
                refine r_iload d_X8_layList_32 rfl ?_
                refine r_iload_n d_X8_layList_34 rfl ?_
                refine r_V2i d_X8_layList_35 (w_X8_291 _ rfl) (tt_139 _ _) rfl rfl (hm) (by decide) (Nat.le_of_ble_eq_true rfl) (fun z35 T35 I35 L35 R35 h35 => ?_)
                obtain ⟨rfl, rfl, rfl, rfl, rfl⟩ := h35
                refine r_if_eq d_X8_layList_38 (by omega) (fun c38 => absurd c38 (by decide)) (fun c38 => ?_)
                refine r_iload_n d_X8_layList_41 rfl ?_
                refine r_iconst d_X8_layList_42 ?_
                refine r_icmp_eq d_X8_layList_43 (by omega) (by omega) (fun c43 => absurd c43 (by omega)) (fun c43 => ?_)
                refine r_aload_n d_X8_layList_46 rfl ?_
                refine r_iload d_X8_layList_47 rfl ?_
                refine r_iload_n d_X8_layList_49 rfl ?_
                refine r_V2i d_X8_layList_50 (w_X8_288 _ rfl) (tt_139 _ _) rfl rfl (x_beginsAt hV hX1 hK1.1 hDVb hD1 hcn ho) (by decide) (Nat.le_of_ble_eq_true rfl) (fun z50 T50 I50 L50 R50 h50 => ?_)
                obtain ⟨rfl, rfl, rfl, rfl, rfl⟩ := h50
                refine r_aload_n d_X8_layList_53 rfl ?_
                refine r_iload_n d_X8_layList_54 rfl ?_
                refine r_iload_n d_X8_layList_55 rfl ?_
                refine r_V2i d_X8_layList_56 (w_X8_288 _ rfl) (tt_139 _ _) rfl rfl (x_beginsAt hV hX1 hK1.1 hDVb hD1 (show w < nW by omega) ho) (by decide) (Nat.le_of_ble_eq_true rfl) (fun z56 T56 I56 L56 R56 h56 => ?_)
                obtain ⟨rfl, rfl, rfl, rfl, rfl⟩ := h56
                refine r_icmp_ge d_X8_layList_59 (by omega) (by omega) (fun c59 => ?_) (fun c59 => absurd c59 (by omega))
                refine r_iinc d_X8_layList_65 rfl (by decide) ?_
                refine r_goto d_X8_layList_68 ?_
                exact CpL (ih2 (c + 1) (by omega)) (by repeat (first | exact trivial | refine ⟨rfl, ?_⟩ | refine ⟨by rw [ea]; rfl, ?_⟩))
      refine r_iload_n d_X8_layList_2 rfl ?_
      refine r_aload_n d_X8_layList_3 rfl ?_
      refine r_geti d_X8_layList_4 f_X8_232 (tt_139 _ _) (by decide) (by decide) ?_
      refine r_icmp_ge d_X8_layList_7 (by omega) (by omega) (fun c7 => absurd c7 (by omega)) (fun c7 => ?_)
      refine r_aload_n d_X8_layList_10 rfl ?_
      refine r_getr d_X8_layList_11 f_X8_139 (tt_139 _ _) (by decide) rfl (rr_139_62 _) ?_
      refine r_iload_n d_X8_layList_14 rfl ?_
      refine r_ialdJ d_X8_layList_15 (tt_180 _ _) rfl (by omega) (kk := ?_)
      rw [eo1]
      refine r_istore_n d_X8_layList_16 (by decide) ?_
      refine r_iconst d_X8_layList_17 ?_
      refine r_istore_n d_X8_layList_18 (by decide) ?_
      refine r_iconst d_X8_layList_19 ?_
      refine r_istore d_X8_layList_20 (by decide) ?_
      exact CpL (inner nW 0 (by omega)) (by repeat (first | exact trivial | refine ⟨rfl, ?_⟩))
  refine r_iconst d_X8_layList_0 ?_
  refine r_istore_n d_X8_layList_1 (by decide) ?_
  exact CpL (loop nr 0 I (by omega) frb_rf hD) (by repeat (first | exact trivial | refine ⟨rfl, ?_⟩))
theorem x_layNatural (hV : MV σ ℓ nr nW ng) (hX : MX σ nr nW ng I) (hK : MK ℓ ab nW I) (hab : -1 ≤ ab ∧ ab ≤ 100) (hDV : DV δ nr nW) (hD : DM δ nr nW I) : Mc g 4 m_X8_layNatural 0 0 [vr 139] (TT Ls tl) I L (RR tl) (qV fun T' I' L' R' => T' = TT Ls tl ∧ R' = RR tl ∧ L' = L ∧ frb 175 181 I I' ∧ DM (lstS σ ℓ ab nW (fun k => k) nr δ) nr nW I') := by
  refine Mc_of rfl (Nat.le_of_ble_eq_true rfl) ?_
  obtain ⟨⟨s1, s2, s3, s4, s5⟩, v2, v3, v4⟩ := id hV
  have loop : ∀ (k b : Nat) (I1 : sI), b + k = nr → frb 180 181 I I1 → (∀ j : Nat, j < b → I1 180 j = (j : Int)) → Cp g 4 m_X8_layNatural 0 0 (qV fun T' I' L' R' => T' = TT Ls tl ∧ R' = RR tl ∧ L' = L ∧ frb 175 181 I I' ∧ DM (lstS σ ℓ ab nW (fun k => k) nr δ) nr nW I') 2 [(0, vr 139), (1, vi (b : Int))] [] (TT Ls tl) I1 L (RR tl) := by
    intro k
    induction k with
    | zero =>
      intro b I1 hb f hj
      have hX1 := MX_frb hX f (by omega)
      have hK1 := MK_frb hK f (by omega)
      have e0 : I1 139 0 = (nr : Int) := hX1.1
      refine r_iload_n d_X8_layNatural_2 rfl ?_
      refine r_aload_n d_X8_layNatural_3 rfl ?_
      refine r_geti d_X8_layNatural_4 f_X8_232 (tt_139 _ _) (by decide) (by decide) ?_
      refine r_icmp_ge d_X8_layNatural_7 (by omega) (by omega) (fun c7 => ?_) (fun c7 => absurd c7 (by omega))
      refine r_aload_n d_X8_layNatural_23 rfl ?_
      refine r_V0v d_X8_layNatural_24 (w_X8_298 _ rfl) (tt_139 _ _) rfl rfl (x_layList (od := fun k => k) hV hX1 hK1 hab hDV (DM_frb hD f (by omega)) (fun k hk => ⟨hk, hj k (by omega)⟩)) (by decide) (Nat.le_of_ble_eq_true rfl) (fun T24 I24 L24 R24 h24 => ?_)
      obtain ⟨rfl, rfl, rfl, y1, y2⟩ := h24
      refine r_vret d_X8_layNatural_27 rfl ?_
      exact ⟨rfl, rfl, rfl, rfl, frb_tr (frb_wd f (by omega) (by omega)) (frb_wd y1 (by omega) (by omega)), y2⟩
    | succ k ih =>
      intro b I1 hb f hj
      have e0 : I1 139 0 = (nr : Int) := by rw [f 139 (by omega)]; exact hX.1
      refine r_iload_n d_X8_layNatural_2 rfl ?_
      refine r_aload_n d_X8_layNatural_3 rfl ?_
      refine r_geti d_X8_layNatural_4 f_X8_232 (tt_139 _ _) (by decide) (by decide) ?_
      refine r_icmp_ge d_X8_layNatural_7 (by omega) (by omega) (fun c7 => absurd c7 (by omega)) (fun c7 => ?_)
      refine r_aload_n d_X8_layNatural_10 rfl ?_
      refine r_getr d_X8_layNatural_11 f_X8_139 (tt_139 _ _) (by decide) rfl (rr_139_62 _) ?_
      refine r_iload_n d_X8_layNatural_14 rfl ?_
      refine r_iload_n d_X8_layNatural_15 rfl ?_
      refine r_iastJ d_X8_layNatural_16 (tt_180 _ _) (by omega) rfl (by omega) (kk := ?_)
      refine r_iinc d_X8_layNatural_17 rfl (by decide) ?_
      refine r_goto d_X8_layNatural_20 ?_
      refine CpL (ih (b + 1) _ (by omega) (frb_up f (by omega)) (fun j hj2 => ?_)) (by repeat (first | exact trivial | refine ⟨rfl, ?_⟩))
      by_cases e : j = b
      · rw [e, up2_at]
      · rw [up2_nj _ _ e]; exact hj j (by omega)
  refine r_iconst d_X8_layNatural_0 ?_
  refine r_istore_n d_X8_layNatural_1 (by decide) ?_
  exact CpL (loop nr 0 I (by omega) frb_rf (fun j h => absurd h (by omega))) (by repeat (first | exact trivial | refine ⟨rfl, ?_⟩))
theorem x_nearestWoman (hV : MV σ ℓ nr nW ng) (hX : MX σ nr nW ng I) (hK : MK ℓ ab nW I) (hab : -1 ≤ ab ∧ ab ≤ 100) {r : Nat} (hr : r < nr) : Mc g 1 m_X8_nearestWoman 0 0 [vr 139, vi (r : Int)] (TT Ls tl) I L (RR tl) (qI fun z T' I' L' R' => z = nearS σ ab nW r ∧ same (TT Ls tl) I L (RR tl) T' I' L' R') := by
  refine Mc_of rfl (Nat.le_of_ble_eq_true rfl) ?_
  obtain ⟨⟨s1, s2, s3, s4, s5⟩, v2, v3, v4⟩ := id hV
  have e56 : I 139 56 = (nW : Int) := hK.2.2
  have e55 : I 139 55 = ab := hK.2.1
  have e0 : I 140 r = σ 0 r := hX.2.2.1 r hr 0 (by omega)
  have rv := (s3 r hr).1
  unfold nearS
  have loop : ∀ (k c : Nat), c + k = nW → Cp g 1 m_X8_nearestWoman 0 0 (qI fun z T' I' L' R' => z = amin (fun w => decide (¬ (w : Int) = ab)) (fun w => absI (σ 7 w - σ 0 r)) nW ∧ same (TT Ls tl) I L (RR tl) T' I' L' R') 4 [(0, vr 139), (1, vi (r : Int)), (2, vi (amin (fun w => decide (¬ (w : Int) = ab)) (fun w => absI (σ 7 w - σ 0 r)) c)), (3, vi (c : Int))] [] (TT Ls tl) I L (RR tl) := by
    intro k
    induction k with
    | zero =>
      intro c hc
      refine r_iload_n d_X8_nearestWoman_4 rfl ?_
      refine r_aload_n d_X8_nearestWoman_5 rfl ?_
      refine r_geti d_X8_nearestWoman_6 f_X8_278 (tt_139 _ _) (by decide) (by decide) ?_
      refine r_icmp_ge d_X8_nearestWoman_9 (by omega) (by omega) (fun c9 => ?_) (fun c9 => absurd c9 (by omega))
      refine r_iload_n d_X8_nearestWoman_68 rfl ?_
      refine r_iret d_X8_nearestWoman_69 rfl ?_
      exact ⟨_, rfl, by rw [show c = nW by omega], same_rf⟩
    | succ k ih =>
      intro c hc
      have hcn : c < nW := by omega
      have e7 : I 147 c = σ 7 c := hX.2.2.2.1 c hcn 0 (by omega)
      have wv := (s4 c hcn).1
      have hac := absI_bd wv rv
      have hrg := amin_rng (fun w : Nat => decide (¬ (w : Int) = ab)) (fun w => absI (σ 7 w - σ 0 r)) c
      by_cases hab2 : (c : Int) = ab
      · have ea := amin_no (ok := fun w : Nat => decide (¬ (w : Int) = ab)) (key := fun w => absI (σ 7 w - σ 0 r)) (n := c) (Or.inl (by simp [hab2]))
        refine r_iload_n d_X8_nearestWoman_4 rfl ?_
        refine r_aload_n d_X8_nearestWoman_5 rfl ?_
        refine r_geti d_X8_nearestWoman_6 f_X8_278 (tt_139 _ _) (by decide) (by decide) ?_
        refine r_icmp_ge d_X8_nearestWoman_9 (by omega) (by omega) (fun c9 => absurd c9 (by omega)) (fun c9 => ?_)
        refine r_iload_n d_X8_nearestWoman_12 rfl ?_
        refine r_aload_n d_X8_nearestWoman_13 rfl ?_
        refine r_geti d_X8_nearestWoman_14 f_X8_121 (tt_139 _ _) (by decide) (by decide) ?_
        rw [e55]
        refine r_icmp_eq d_X8_nearestWoman_17 (by omega) (by omega) (fun c17 => ?_) (fun c17 => absurd c17 (by omega))
        refine r_iinc d_X8_nearestWoman_62 rfl (by decide) ?_
        refine r_goto d_X8_nearestWoman_65 ?_
        exact CpL (ih (c + 1) (by omega)) (by repeat (first | exact trivial | refine ⟨rfl, ?_⟩ | refine ⟨by rw [ea]; rfl, ?_⟩))
      · have hok : decide (¬ (c : Int) = ab) = true := decide_eq_true hab2
        by_cases ha : amin (fun w : Nat => decide (¬ (w : Int) = ab)) (fun w => absI (σ 7 w - σ 0 r)) c = -1
        · have ea := amin_yes (ok := fun w : Nat => decide (¬ (w : Int) = ab)) (key := fun w => absI (σ 7 w - σ 0 r)) (n := c) hok (Or.inl ha)
          refine r_iload_n d_X8_nearestWoman_4 rfl ?_
          refine r_aload_n d_X8_nearestWoman_5 rfl ?_
          refine r_geti d_X8_nearestWoman_6 f_X8_278 (tt_139 _ _) (by decide) (by decide) ?_
          refine r_icmp_ge d_X8_nearestWoman_9 (by omega) (by omega) (fun c9 => absurd c9 (by omega)) (fun c9 => ?_)
          refine r_iload_n d_X8_nearestWoman_12 rfl ?_
          refine r_aload_n d_X8_nearestWoman_13 rfl ?_
          refine r_geti d_X8_nearestWoman_14 f_X8_121 (tt_139 _ _) (by decide) (by decide) ?_
          rw [e55]
          refine r_icmp_eq d_X8_nearestWoman_17 (by omega) (by omega) (fun c17 => absurd c17 (by omega)) (fun c17 => ?_)
          refine r_iload_n d_X8_nearestWoman_20 rfl ?_
          refine r_iconst d_X8_nearestWoman_21 ?_
          refine r_icmp_eq d_X8_nearestWoman_22 (by omega) (by omega) (fun c22 => ?_) (fun c22 => absurd c22 (by omega))
          refine r_iload_n d_X8_nearestWoman_60 rfl ?_
          refine r_istore_n d_X8_nearestWoman_61 (by decide) ?_
          refine r_iinc d_X8_nearestWoman_62 rfl (by decide) ?_
          refine r_goto d_X8_nearestWoman_65 ?_
          exact CpL (ih (c + 1) (by omega)) (by repeat (first | exact trivial | refine ⟨rfl, ?_⟩ | refine ⟨by rw [ea]; rfl, ?_⟩))
        · obtain ⟨w, hwe⟩ : ∃ w : Nat, amin (fun w : Nat => decide (¬ (w : Int) = ab)) (fun w => absI (σ 7 w - σ 0 r)) c = (w : Int) := ⟨(amin (fun w : Nat => decide (¬ (w : Int) = ab)) (fun w => absI (σ 7 w - σ 0 r)) c).toNat, by omega⟩
          have hwn : w < nW := by omega
          have e7w : I 147 w = σ 7 w := hX.2.2.2.1 w hwn 0 (by omega)
          have wv2 := (s4 w hwn).1
          have haw := absI_bd wv2 rv
          by_cases hlt : absI (σ 7 c - σ 0 r) < absI (σ 7 w - σ 0 r)
          · have ea := amin_yes (ok := fun w : Nat => decide (¬ (w : Int) = ab)) (key := fun w => absI (σ 7 w - σ 0 r)) (n := c) hok (Or.inr (by rw [hwe, Int.toNat_natCast]; exact hlt))
            rw [hwe]
            refine r_iload_n d_X8_nearestWoman_4 rfl ?_
            refine r_aload_n d_X8_nearestWoman_5 rfl ?_
            refine r_geti d_X8_nearestWoman_6 f_X8_278 (tt_139 _ _) (by decide) (by decide) ?_
            refine r_icmp_ge d_X8_nearestWoman_9 (by omega) (by omega) (fun c9 => absurd c9 (by omega)) (fun c9 => ?_)
            refine r_iload_n d_X8_nearestWoman_12 rfl ?_
            refine r_aload_n d_X8_nearestWoman_13 rfl ?_
            refine r_geti d_X8_nearestWoman_14 f_X8_121 (tt_139 _ _) (by decide) (by decide) ?_
            rw [e55]
            refine r_icmp_eq d_X8_nearestWoman_17 (by omega) (by omega) (fun c17 => absurd c17 (by omega)) (fun c17 => ?_)
            refine r_iload_n d_X8_nearestWoman_20 rfl ?_
            refine r_iconst d_X8_nearestWoman_21 ?_
            refine r_icmp_eq d_X8_nearestWoman_22 (by omega) (by omega) (fun c22 => absurd c22 (by omega)) (fun c22 => ?_)
            refine r_aload_n d_X8_nearestWoman_25 rfl ?_
            refine r_getr d_X8_nearestWoman_26 f_X8_31 (tt_139 _ _) (by decide) rfl (rr_139_9 _) ?_
            refine r_iload_n d_X8_nearestWoman_29 rfl ?_
            refine r_ialdJ d_X8_nearestWoman_30 (tt_147 _ _) rfl (by omega) (kk := ?_)
            rw [e7]
            refine r_aload_n d_X8_nearestWoman_31 rfl ?_
            refine r_getr d_X8_nearestWoman_32 f_X8_7 (tt_139 _ _) (by decide) rfl (rr_139_1 _) ?_
            refine r_iload_n d_X8_nearestWoman_35 rfl ?_
            refine r_ialdJ d_X8_nearestWoman_36 (tt_140 _ _) rfl (by omega) (kk := ?_)
            rw [e0]
            refine r_isub d_X8_nearestWoman_37 ?_
            refine r_S1i d_X8_nearestWoman_38 (w_X8_281 _ rfl) (x_size (a := σ 7 c - σ 0 r) (by omega)) (by decide) (Nat.le_of_ble_eq_true rfl) (fun z38 T38 I38 L38 R38 h38 => ?_)
            obtain ⟨rfl, rfl, rfl, rfl, rfl⟩ := h38
            refine r_aload_n d_X8_nearestWoman_41 rfl ?_
            refine r_getr d_X8_nearestWoman_42 f_X8_31 (tt_139 _ _) (by decide) rfl (rr_139_9 _) ?_
            refine r_iload_n d_X8_nearestWoman_45 rfl ?_
            refine r_ialdJ d_X8_nearestWoman_46 (tt_147 _ _) rfl (by omega) (kk := ?_)
            rw [e7w]
            refine r_aload_n d_X8_nearestWoman_47 rfl ?_
            refine r_getr d_X8_nearestWoman_48 f_X8_7 (tt_139 _ _) (by decide) rfl (rr_139_1 _) ?_
            refine r_iload_n d_X8_nearestWoman_51 rfl ?_
            refine r_ialdJ d_X8_nearestWoman_52 (tt_140 _ _) rfl (by omega) (kk := ?_)
            rw [e0]
            refine r_isub d_X8_nearestWoman_53 ?_
            refine r_S1i d_X8_nearestWoman_54 (w_X8_281 _ rfl) (x_size (a := σ 7 w - σ 0 r) (by omega)) (by decide) (Nat.le_of_ble_eq_true rfl) (fun z54 T54 I54 L54 R54 h54 => ?_)
            obtain ⟨rfl, rfl, rfl, rfl, rfl⟩ := h54
            refine r_icmp_ge d_X8_nearestWoman_57 (by omega) (by omega) (fun c57 => absurd c57 (by omega)) (fun c57 => ?_)
            refine r_iload_n d_X8_nearestWoman_60 rfl ?_
            refine r_istore_n d_X8_nearestWoman_61 (by decide) ?_
            refine r_iinc d_X8_nearestWoman_62 rfl (by decide) ?_
            refine r_goto d_X8_nearestWoman_65 ?_
            exact CpL (ih (c + 1) (by omega)) (by repeat (first | exact trivial | refine ⟨rfl, ?_⟩ | refine ⟨by rw [ea]; rfl, ?_⟩))
          · have ea := amin_no (ok := fun w : Nat => decide (¬ (w : Int) = ab)) (key := fun w => absI (σ 7 w - σ 0 r)) (n := c) (Or.inr ⟨ha, by rw [hwe, Int.toNat_natCast]; show absI (σ 7 w - σ 0 r) ≤ absI (σ 7 c - σ 0 r); omega⟩)
            rw [hwe] at ea ⊢
            refine r_iload_n d_X8_nearestWoman_4 rfl ?_
            refine r_aload_n d_X8_nearestWoman_5 rfl ?_
            refine r_geti d_X8_nearestWoman_6 f_X8_278 (tt_139 _ _) (by decide) (by decide) ?_
            refine r_icmp_ge d_X8_nearestWoman_9 (by omega) (by omega) (fun c9 => absurd c9 (by omega)) (fun c9 => ?_)
            refine r_iload_n d_X8_nearestWoman_12 rfl ?_
            refine r_aload_n d_X8_nearestWoman_13 rfl ?_
            refine r_geti d_X8_nearestWoman_14 f_X8_121 (tt_139 _ _) (by decide) (by decide) ?_
            rw [e55]
            refine r_icmp_eq d_X8_nearestWoman_17 (by omega) (by omega) (fun c17 => absurd c17 (by omega)) (fun c17 => ?_)
            refine r_iload_n d_X8_nearestWoman_20 rfl ?_
            refine r_iconst d_X8_nearestWoman_21 ?_
            refine r_icmp_eq d_X8_nearestWoman_22 (by omega) (by omega) (fun c22 => absurd c22 (by omega)) (fun c22 => ?_)
            refine r_aload_n d_X8_nearestWoman_25 rfl ?_
            refine r_getr d_X8_nearestWoman_26 f_X8_31 (tt_139 _ _) (by decide) rfl (rr_139_9 _) ?_
            refine r_iload_n d_X8_nearestWoman_29 rfl ?_
            refine r_ialdJ d_X8_nearestWoman_30 (tt_147 _ _) rfl (by omega) (kk := ?_)
            rw [e7]
            refine r_aload_n d_X8_nearestWoman_31 rfl ?_
            refine r_getr d_X8_nearestWoman_32 f_X8_7 (tt_139 _ _) (by decide) rfl (rr_139_1 _) ?_
            refine r_iload_n d_X8_nearestWoman_35 rfl ?_
            refine r_ialdJ d_X8_nearestWoman_36 (tt_140 _ _) rfl (by omega) (kk := ?_)
            rw [e0]
            refine r_isub d_X8_nearestWoman_37 ?_
            refine r_S1i d_X8_nearestWoman_38 (w_X8_281 _ rfl) (x_size (a := σ 7 c - σ 0 r) (by omega)) (by decide) (Nat.le_of_ble_eq_true rfl) (fun z38 T38 I38 L38 R38 h38 => ?_)
            obtain ⟨rfl, rfl, rfl, rfl, rfl⟩ := h38
            refine r_aload_n d_X8_nearestWoman_41 rfl ?_
            refine r_getr d_X8_nearestWoman_42 f_X8_31 (tt_139 _ _) (by decide) rfl (rr_139_9 _) ?_
            refine r_iload_n d_X8_nearestWoman_45 rfl ?_
            refine r_ialdJ d_X8_nearestWoman_46 (tt_147 _ _) rfl (by omega) (kk := ?_)
            rw [e7w]
            refine r_aload_n d_X8_nearestWoman_47 rfl ?_
            refine r_getr d_X8_nearestWoman_48 f_X8_7 (tt_139 _ _) (by decide) rfl (rr_139_1 _) ?_
            refine r_iload_n d_X8_nearestWoman_51 rfl ?_
            refine r_ialdJ d_X8_nearestWoman_52 (tt_140 _ _) rfl (by omega) (kk := ?_)
            rw [e0]
            refine r_isub d_X8_nearestWoman_53 ?_
            refine r_S1i d_X8_nearestWoman_54 (w_X8_281 _ rfl) (x_size (a := σ 7 w - σ 0 r) (by omega)) (by decide) (Nat.le_of_ble_eq_true rfl) (fun z54 T54 I54 L54 R54 h54 => ?_)
            obtain ⟨rfl, rfl, rfl, rfl, rfl⟩ := h54
            refine r_icmp_ge d_X8_nearestWoman_57 (by omega) (by omega) (fun c57 => ?_) (fun c57 => absurd c57 (by omega))
            refine r_iinc d_X8_nearestWoman_62 rfl (by decide) ?_
            refine r_goto d_X8_nearestWoman_65 ?_
            exact CpL (ih (c + 1) (by omega)) (by repeat (first | exact trivial | refine ⟨rfl, ?_⟩ | refine ⟨by rw [ea]; rfl, ?_⟩))
  refine r_iconst d_X8_nearestWoman_0 ?_
  refine r_istore_n d_X8_nearestWoman_1 (by decide) ?_
  refine r_iconst d_X8_nearestWoman_2 ?_
  refine r_istore_n d_X8_nearestWoman_3 (by decide) ?_
  exact CpL (loop nW 0 (by omega)) (by repeat (first | exact trivial | refine ⟨rfl, ?_⟩))
theorem x_suits (hV : MV σ ℓ nr nW ng) (hX : MX σ nr nW ng I) {r q : Nat} (hr : r < nr) (hq : q < ng) : Mc g 0 m_X8_suits 0 0 [vr 139, vi (r : Int), vi (q : Int)] (TT Ls tl) I L (RR tl) (qI fun z T' I' L' R' => z = (if fitS σ r q = true then 1 else 0) ∧ same (TT Ls tl) I L (RR tl) T' I' L' R') := by
  refine Mc_of rfl (Nat.le_of_ble_eq_true rfl) ?_
  obtain ⟨⟨s1, s2, s3, s4, s5⟩, v2, v3, v4⟩ := id hV
  have e0 : I 140 r = σ 0 r := hX.2.2.1 r hr 0 (by omega)
  have e1 : I 141 r = σ 1 r := hX.2.2.1 r hr 1 (by omega)
  have e11 : I 151 q = σ 11 q := hX.2.2.2.2 q hq 1 (by omega)
  have e12 : I 152 q = σ 12 q := hX.2.2.2.2 q hq 2 (by omega)
  have rv := s3 r hr
  have gv := v3 q hq
  unfold RV at rv
  unfold GV at gv
  have yes : ((σ 11 q = -1 ∨ σ 11 q = σ 1 r) ∧ (σ 12 q = 0 ∨ 4 ≤ σ 0 r)) → fitS σ r q = true := fun h => decide_eq_true h
  have non : ¬ ((σ 11 q = -1 ∨ σ 11 q = σ 1 r) ∧ (σ 12 q = 0 ∨ 4 ≤ σ 0 r)) → ¬ fitS σ r q = true := fun h q => h (of_decide_eq_true q)
  have t25 : (σ 11 q = -1 ∨ σ 11 q = σ 1 r) → Cp g 0 m_X8_suits 0 0 (qI fun z T' I' L' R' => z = (if fitS σ r q = true then 1 else 0) ∧ same (TT Ls tl) I L (RR tl) T' I' L' R') 25 [(0, vr 139), (1, vi (r : Int)), (2, vi (q : Int))] [] (TT Ls tl) I L (RR tl) := by
    intro h1
    refine r_aload_n d_X8_suits_25 rfl ?_
    refine r_getr d_X8_suits_26 f_X8_46 (tt_139 _ _) (by decide) rfl (rr_139_15 _) ?_
    refine r_iload_n d_X8_suits_29 rfl ?_
    refine r_zaldJ d_X8_suits_30 (tt_152 _ _) rfl (by omega) (kk := ?_)
    rw [e12]
    refine r_if_eq d_X8_suits_31 (by omega) (fun c31 => ?_) (fun c31 => ?_)
    · refine r_iconst d_X8_suits_44 ?_
      refine r_goto d_X8_suits_45 ?_
      refine r_zret d_X8_suits_49 rfl (by omega) ?_
      first
      | exact ⟨_, rfl, by rw [if_pos (yes (by omega))], same_rf⟩
      | exact ⟨_, rfl, by rw [if_neg (non (by omega))], same_rf⟩
    · refine r_aload_n d_X8_suits_34 rfl ?_
      refine r_getr d_X8_suits_35 f_X8_7 (tt_139 _ _) (by decide) rfl (rr_139_1 _) ?_
      refine r_iload_n d_X8_suits_38 rfl ?_
      refine r_ialdJ d_X8_suits_39 (tt_140 _ _) rfl (by omega) (kk := ?_)
      rw [e0]
      refine r_iconst d_X8_suits_40 ?_
      refine r_icmp_le d_X8_suits_41 (by omega) (by omega) (fun c41 => ?_) (fun c41 => ?_)
      · refine r_iconst d_X8_suits_48 ?_
        refine r_zret d_X8_suits_49 rfl (by omega) ?_
        first
        | exact ⟨_, rfl, by rw [if_pos (yes (by omega))], same_rf⟩
        | exact ⟨_, rfl, by rw [if_neg (non (by omega))], same_rf⟩
      · refine r_iconst d_X8_suits_44 ?_
        refine r_goto d_X8_suits_45 ?_
        refine r_zret d_X8_suits_49 rfl (by omega) ?_
        first
        | exact ⟨_, rfl, by rw [if_pos (yes (by omega))], same_rf⟩
        | exact ⟨_, rfl, by rw [if_neg (non (by omega))], same_rf⟩
  refine r_aload_n d_X8_suits_0 rfl ?_
  refine r_getr d_X8_suits_1 f_X8_43 (tt_139 _ _) (by decide) rfl (rr_139_14 _) ?_
  refine r_iload_n d_X8_suits_4 rfl ?_
  refine r_ialdJ d_X8_suits_5 (tt_151 _ _) rfl (by omega) (kk := ?_)
  rw [e11]
  refine r_iconst d_X8_suits_6 ?_
  refine r_icmp_eq d_X8_suits_7 (by omega) (by omega) (fun c7 => ?_) (fun c7 => ?_)
  · first
    | exact CpL (t25 (Or.inl c7)) (by repeat (first | exact trivial | refine ⟨rfl, ?_⟩))
    | exact CpL (t25 (Or.inr (by omega))) (by repeat (first | exact trivial | refine ⟨rfl, ?_⟩))
  · refine r_aload_n d_X8_suits_10 rfl ?_
    refine r_getr d_X8_suits_11 f_X8_43 (tt_139 _ _) (by decide) rfl (rr_139_14 _) ?_
    refine r_iload_n d_X8_suits_14 rfl ?_
    refine r_ialdJ d_X8_suits_15 (tt_151 _ _) rfl (by omega) (kk := ?_)
    rw [e11]
    refine r_aload_n d_X8_suits_16 rfl ?_
    refine r_getr d_X8_suits_17 f_X8_13 (tt_139 _ _) (by decide) rfl (rr_139_2 _) ?_
    refine r_iload_n d_X8_suits_20 rfl ?_
    refine r_ialdJ d_X8_suits_21 (tt_141 _ _) rfl (by omega) (kk := ?_)
    rw [e1]
    refine r_icmp_ne d_X8_suits_22 (by omega) (by omega) (fun c22 => ?_) (fun c22 => ?_)
    · refine r_iconst d_X8_suits_48 ?_
      refine r_zret d_X8_suits_49 rfl (by omega) ?_
      exact ⟨_, rfl, by rw [if_neg (non (by omega))], same_rf⟩
    · first
      | exact CpL (t25 (Or.inl c7)) (by repeat (first | exact trivial | refine ⟨rfl, ?_⟩))
      | exact CpL (t25 (Or.inr (by omega))) (by repeat (first | exact trivial | refine ⟨rfl, ?_⟩))
theorem x_firstGuest (hV : MV σ ℓ nr nW ng) (hX : MX σ nr nW ng I) {r : Nat} (hr : r < nr) : Mc g 1 m_X8_firstGuest 0 0 [vr 139, vi (r : Int)] (TT Ls tl) I L (RR tl) (qI fun z T' I' L' R' => z = pmS σ r ng ∧ same (TT Ls tl) I L (RR tl) T' I' L' R') := by
  refine Mc_of rfl (Nat.le_of_ble_eq_true rfl) ?_
  obtain ⟨⟨s1, s2, s3, s4, s5⟩, v2, v3, v4⟩ := id hV
  have e12 := hX.2.1
  have loop : ∀ (k c : Nat), c + k = ng → Cp g 1 m_X8_firstGuest 0 0 (qI fun z T' I' L' R' => z = pmS σ r ng ∧ same (TT Ls tl) I L (RR tl) T' I' L' R') 5 [(0, vr 139), (1, vi (r : Int)), (2, vi (pmS σ r c)), (3, vi (c : Int))] [] (TT Ls tl) I L (RR tl) := by
    intro k
    induction k with
    | zero =>
      intro c hc
      refine r_iload_n d_X8_firstGuest_5 rfl ?_
      refine r_aload_n d_X8_firstGuest_6 rfl ?_
      refine r_geti d_X8_firstGuest_7 f_X8_238 (tt_139 _ _) (by decide) (by decide) ?_
      refine r_icmp_ge d_X8_firstGuest_10 (by omega) (by omega) (fun c10 => ?_) (fun c10 => absurd c10 (by omega))
      refine r_iload_n d_X8_firstGuest_49 rfl ?_
      refine r_iret d_X8_firstGuest_50 rfl ?_
      exact ⟨_, rfl, by rw [show c = ng by omega], same_rf⟩
    | succ k ih =>
      intro c hc
      have hcn : c < ng := by omega
      have e10 : I 150 c = σ 10 c := hX.2.2.2.2 c hcn 0 (by omega)
      have gv := (v3 c hcn).1
      have pb := pmS_bd (r := r) v3 c (by omega)
      have hs := x_suits (g := g) (Ls := Ls) (tl := tl) (L := L) hV hX hr hcn
      have es : pmS σ r (c + 1) = if fitS σ r c = true then (if σ 10 c < pmS σ r c then σ 10 c else pmS σ r c) else pmS σ r c := rfl
      cases hf : fitS σ r c with
      | false =>
        rw [hf, if_neg (by decide)] at hs es
        refine r_iload_n d_X8_firstGuest_5 rfl ?_
        refine r_aload_n d_X8_firstGuest_6 rfl ?_
        refine r_geti d_X8_firstGuest_7 f_X8_238 (tt_139 _ _) (by decide) (by decide) ?_
        refine r_icmp_ge d_X8_firstGuest_10 (by omega) (by omega) (fun c10 => absurd c10 (by omega)) (fun c10 => ?_)
        refine r_aload_n d_X8_firstGuest_13 rfl ?_
        refine r_iload_n d_X8_firstGuest_14 rfl ?_
        refine r_iload_n d_X8_firstGuest_15 rfl ?_
        refine r_V2i d_X8_firstGuest_16 (w_X8_304 _ rfl) (tt_139 _ _) rfl rfl (hs) (by decide) (Nat.le_of_ble_eq_true rfl) (fun z16 T16 I16 L16 R16 h16 => ?_)
        obtain ⟨rfl, rfl, rfl, rfl, rfl⟩ := h16
        refine r_if_eq d_X8_firstGuest_19 (by omega) (fun c19 => ?_) (fun c19 => absurd c19 (by decide))
        refine r_iload_n d_X8_firstGuest_41 rfl ?_
        refine r_istore_n d_X8_firstGuest_42 (by decide) ?_
        refine r_iinc d_X8_firstGuest_43 rfl (by decide) ?_
        refine r_goto d_X8_firstGuest_46 ?_
        exact CpL (ih (c + 1) (by omega)) (by repeat (first | exact trivial | refine ⟨rfl, ?_⟩ | refine ⟨by rw [es]; rfl, ?_⟩))
      | true =>
        rw [hf, if_pos rfl] at hs es
        by_cases hlt : σ 10 c < pmS σ r c
        · rw [if_pos hlt] at es
          refine r_iload_n d_X8_firstGuest_5 rfl ?_
          refine r_aload_n d_X8_firstGuest_6 rfl ?_
          refine r_geti d_X8_firstGuest_7 f_X8_238 (tt_139 _ _) (by decide) (by decide) ?_
          refine r_icmp_ge d_X8_firstGuest_10 (by omega) (by omega) (fun c10 => absurd c10 (by omega)) (fun c10 => ?_)
          refine r_aload_n d_X8_firstGuest_13 rfl ?_
          refine r_iload_n d_X8_firstGuest_14 rfl ?_
          refine r_iload_n d_X8_firstGuest_15 rfl ?_
          refine r_V2i d_X8_firstGuest_16 (w_X8_304 _ rfl) (tt_139 _ _) rfl rfl (hs) (by decide) (Nat.le_of_ble_eq_true rfl) (fun z16 T16 I16 L16 R16 h16 => ?_)
          obtain ⟨rfl, rfl, rfl, rfl, rfl⟩ := h16
          refine r_if_eq d_X8_firstGuest_19 (by omega) (fun c19 => absurd c19 (by decide)) (fun c19 => ?_)
          refine r_aload_n d_X8_firstGuest_22 rfl ?_
          refine r_getr d_X8_firstGuest_23 f_X8_40 (tt_139 _ _) (by decide) rfl (rr_139_13 _) ?_
          refine r_iload_n d_X8_firstGuest_26 rfl ?_
          refine r_ialdJ d_X8_firstGuest_27 (tt_150 _ _) rfl (by omega) (kk := ?_)
          rw [e10]
          refine r_iload_n d_X8_firstGuest_28 rfl ?_
          refine r_icmp_ge d_X8_firstGuest_29 (by omega) (by omega) (fun c29 => absurd c29 (by omega)) (fun c29 => ?_)
          refine r_aload_n d_X8_firstGuest_32 rfl ?_
          refine r_getr d_X8_firstGuest_33 f_X8_40 (tt_139 _ _) (by decide) rfl (rr_139_13 _) ?_
          refine r_iload_n d_X8_firstGuest_36 rfl ?_
          refine r_ialdJ d_X8_firstGuest_37 (tt_150 _ _) rfl (by omega) (kk := ?_)
          rw [e10]
          refine r_goto d_X8_firstGuest_38 ?_
          refine r_istore_n d_X8_firstGuest_42 (by decide) ?_
          refine r_iinc d_X8_firstGuest_43 rfl (by decide) ?_
          refine r_goto d_X8_firstGuest_46 ?_
          exact CpL (ih (c + 1) (by omega)) (by repeat (first | exact trivial | refine ⟨rfl, ?_⟩ | refine ⟨by rw [es]; rfl, ?_⟩))
        · rw [if_neg hlt] at es
          refine r_iload_n d_X8_firstGuest_5 rfl ?_
          refine r_aload_n d_X8_firstGuest_6 rfl ?_
          refine r_geti d_X8_firstGuest_7 f_X8_238 (tt_139 _ _) (by decide) (by decide) ?_
          refine r_icmp_ge d_X8_firstGuest_10 (by omega) (by omega) (fun c10 => absurd c10 (by omega)) (fun c10 => ?_)
          refine r_aload_n d_X8_firstGuest_13 rfl ?_
          refine r_iload_n d_X8_firstGuest_14 rfl ?_
          refine r_iload_n d_X8_firstGuest_15 rfl ?_
          refine r_V2i d_X8_firstGuest_16 (w_X8_304 _ rfl) (tt_139 _ _) rfl rfl (hs) (by decide) (Nat.le_of_ble_eq_true rfl) (fun z16 T16 I16 L16 R16 h16 => ?_)
          obtain ⟨rfl, rfl, rfl, rfl, rfl⟩ := h16
          refine r_if_eq d_X8_firstGuest_19 (by omega) (fun c19 => absurd c19 (by decide)) (fun c19 => ?_)
          refine r_aload_n d_X8_firstGuest_22 rfl ?_
          refine r_getr d_X8_firstGuest_23 f_X8_40 (tt_139 _ _) (by decide) rfl (rr_139_13 _) ?_
          refine r_iload_n d_X8_firstGuest_26 rfl ?_
          refine r_ialdJ d_X8_firstGuest_27 (tt_150 _ _) rfl (by omega) (kk := ?_)
          rw [e10]
          refine r_iload_n d_X8_firstGuest_28 rfl ?_
          refine r_icmp_ge d_X8_firstGuest_29 (by omega) (by omega) (fun c29 => ?_) (fun c29 => absurd c29 (by omega))
          refine r_iload_n d_X8_firstGuest_41 rfl ?_
          refine r_istore_n d_X8_firstGuest_42 (by decide) ?_
          refine r_iinc d_X8_firstGuest_43 rfl (by decide) ?_
          refine r_goto d_X8_firstGuest_46 ?_
          exact CpL (ih (c + 1) (by omega)) (by repeat (first | exact trivial | refine ⟨rfl, ?_⟩ | refine ⟨by rw [es]; rfl, ?_⟩))
  refine r_bipush d_X8_firstGuest_0 (by decide) ?_
  refine r_istore_n d_X8_firstGuest_2 (by decide) ?_
  refine r_iconst d_X8_firstGuest_3 ?_
  refine r_istore_n d_X8_firstGuest_4 (by decide) ?_
  exact CpL (loop ng 0 (by omega)) (by repeat (first | exact trivial | refine ⟨rfl, ?_⟩))
end X77
