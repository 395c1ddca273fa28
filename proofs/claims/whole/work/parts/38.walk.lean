section C38
variable {g : sG} {Ls : Nat} {tl : List Nat} {σ : Sg} {ℓ ab : Int} {nr nw nW ng P : Nat} {how : Int} {row way : Nat}
theorem lone_no {δ : Sg} {r : Nat} (h : amin (fun w => mayS σ ℓ ab δ w r) (fun w => rdyS σ ℓ δ w r) nW = -1) : loneS σ ℓ ab nW δ r = δ := by unfold loneS; rw [if_pos h]
theorem lone_yes {δ : Sg} {r w : Nat} (h : amin (fun w => mayS σ ℓ ab δ w r) (fun w => rdyS σ ℓ δ w r) nW = (w : Int)) : w < nW ∧ loneS σ ℓ ab nW δ r = doS σ ℓ δ w r ∧ mayS σ ℓ ab δ w r = true := by
  rcases amin_spec (fun w => mayS σ ℓ ab δ w r) (fun w => rdyS σ ℓ δ w r) nW with ⟨h1, -⟩ | ⟨b, h1, h2, h3, -⟩
  · omega
  · have e : b = w := by omega
    subst e
    refine ⟨h2, ?_, h3⟩
    unfold loneS
    rw [if_neg (by omega), h1, Int.toNat_natCast]
    unfold stepS
    rw [if_pos h3]
theorem c_walk (hV : HV σ nr nw ng) (hS : SV σ ℓ nr nW) (hP : P = max ng nr) (h0 : 0 < nr) (h6 : nr ≤ 6) (hw : way < 8) (hrow : row = 124 + way) (hh : how = 0 ∨ how = 1) : ∀ (f d m c : Nat) (tk : Nat → Bool) (δ : Sg) (I L : sI), d + f = nr → m < 256 → (∀ r, r < nr → m.testBit r = tk r) → c + (dfs nr f tk).length ≤ 720 → HX 8 σ nr nw ng I → HS 8 σ nr ng I → KX σ ℓ ab nr nW I → RKX L → DV δ nr nW → DX δ nr nW I → UN tk nr δ → I 79 1 = (P : Int) → I 122 5 = (c : Int) → I 122 6 = how → (how = 1 → LX P (dnS nr (δ 3)) (gnF σ nr ng (δ 3)) d I L) →
    Mc g (3 + f) m_X4_walk 0 0 [vr 122, vi (d : Int), vi (m : Int), vr row] (TT Ls tl) I L (RR tl) (qV fun T' I' L' R' => T' = TT Ls tl ∧ R' = RR tl ∧ WI d row I I' ∧ WL d tk L L' ∧ DX δ nr nW I' ∧ PW σ ℓ ab nr nW ng how row δ c (dfs nr f tk) I I') := by
  have hT : (TT Ls tl)[row]? = some (10, 720) := by rw [hrow]; exact tt2_123 Ls tl hw
  obtain ⟨v1, v2, v3, v4, v5, v6, v7⟩ := id hV
  have h4 := hS.2.1
  have hP8 : P ≤ 8 := by omega
  intro f
  induction f with
  | zero =>
    intro d m c tk δ I L hdf hm hmb hc hX hH hK hR hDV hDX hU hp h5 h6' hLX
    refine Mc_of rfl (Nat.le_of_ble_eq_true rfl) ?_
    have e3 : I 8 3 = (nr : Int) := hX.1
    have hc : c + 1 ≤ 720 := hc
    have hrd : ∀ r, r < nr → I 76 r = δ 3 r ∧ -1 ≤ δ 3 r ∧ δ 3 r ≤ 44 := fun r hr => ⟨(hDX.1 r hr).2.2.2, ((hDV.1 r hr).2.2.2).1, ((hDV.1 r hr).2.2.2).2⟩
    have hG := gnF_bd (σ := σ) (nr := nr) (ng := ng) (rd := δ 3) v6 (fun r hr => ⟨(hrd r hr).2.1, (hrd r hr).2.2⟩) hP8
    have fin : ∀ (I1 : sI) (z : Int), WI d row I I1 → DX δ nr nW I1 → I1 row = I row → I1 122 5 = (c : Int) → CS σ nr ng (δ 3) how z → WI d row I (up2 (up2 I1 row c z) 122 5 ((c : Int) + 1)) ∧ WL d tk L L ∧ DX δ nr nW (up2 (up2 I1 row c z) 122 5 ((c : Int) + 1)) ∧ PW σ ℓ ab nr nW ng how row δ c (dfs nr 0 tk) I (up2 (up2 I1 row c z) 122 5 ((c : Int) + 1)) := by
      intro I1 z w1 w2 w3 w4 w5
      refine ⟨⟨fun a ha => ?_, fun k hk => ?_⟩, fun _ _ => rfl, ⟨fun r hr => ?_, fun w hw => ?_⟩, ?_, fun i l h => ?_, fun i hi => ?_⟩
      · rw [up2_ne _ _ (by omega), up2_ne _ _ (by omega)]; exact w1.1 a ha
      · rw [up2_nj _ _ hk, up2_ne _ _ (by omega)]; exact w1.2 k hk
      · rw [up2_ne _ _ (by omega), up2_ne _ _ (by omega), up2_ne _ _ (by omega), up2_ne _ _ (by omega), up2_ne _ _ (by omega), up2_ne _ _ (by omega), up2_ne _ _ (by omega), up2_ne _ _ (by omega)]; exact w2.1 r hr
      · rw [up2_ne _ _ (by omega), up2_ne _ _ (by omega), up2_ne _ _ (by omega), up2_ne _ _ (by omega)]; exact w2.2 w hw
      · rw [up2_at]; rfl
      · cases i with
        | zero =>
          have e : l = [] := by cases h; rfl
          subst e
          rw [up2_ne _ _ (by omega)]
          show CS σ nr ng (δ 3) how (up2 I1 row c z row c)
          rw [up2_at]; exact w5
        | succ i => cases h
      · rw [up2_ne _ _ (by omega), up2_nj _ _ (by omega), w3]
    rcases hh with e0 | e1
    · obtain ⟨g1, ⟨ar, g2, g3⟩, -⟩ := id hH
      refine r_iload_n d_X4_walk_0 rfl ?_
      refine r_aload_n d_X4_walk_1 rfl ?_
      refine r_getr d_X4_walk_2 f_X4_27 (tt_122 _ _) (by decide) rfl (rr_122_0 _) ?_
      refine r_geti d_X4_walk_5 f_X4_39 (tt_8 _ _) (by decide) (by decide) ?_
      refine r_icmp_ge d_X4_walk_8 (by omega) (by omega) (fun c8 => ?_) (fun c8 => absurd c8 (by omega))
      refine r_aload_n d_X4_walk_17 rfl ?_
      refine r_geti d_X4_walk_18 f_X4_75 (tt_122 _ _) (by decide) (by decide) ?_
      refine r_aload_n d_X4_walk_21 rfl ?_
      refine r_alen d_X4_walk_22 hT (by decide) ?_
      refine r_icmp_ge d_X4_walk_23 (by omega) (by omega) (fun c23 => absurd c23 (by omega)) (fun c23 => ?_)
      refine r_aload_n d_X4_walk_26 rfl ?_
      refine r_aload_n d_X4_walk_27 rfl ?_
      refine r_geti d_X4_walk_28 f_X4_75 (tt_122 _ _) (by decide) (by decide) ?_
      refine r_aload_n d_X4_walk_31 rfl ?_
      refine r_geti d_X4_walk_32 f_X4_64 (tt_122 _ _) (by decide) (by decide) ?_
      refine r_iconst d_X4_walk_35 ?_
      refine r_icmp_ne d_X4_walk_36 (by omega) (by omega) (fun c36 => ?_) (fun c36 => absurd c36 (by omega))
      refine r_aload_n d_X4_walk_61 rfl ?_
      refine r_getr d_X4_walk_62 f_X4_35 (tt_122 _ _) (by decide) rfl (rr_122_2 _) ?_
      refine r_aload_n d_X4_walk_65 rfl ?_
      refine r_getr d_X4_walk_66 f_X4_31 (tt_122 _ _) (by decide) rfl (rr_122_1 _) ?_
      refine r_getr d_X4_walk_69 f_X4_104 (tt_63 _ _) (by decide) rfl (rr_63_11 _) ?_
      refine r_V1i d_X4_walk_72 (w_X4_107 _ rfl) (tt_77 _ _) rfl rfl (c_giveAsTheyCome (rd := δ 3) hV hX g1 g2 g3 hrd) (by omega) (Nat.le_of_ble_eq_true rfl) (fun z72 T72 I72 L72 R72 h72 => ?_)
      obtain ⟨e, rfl, rfl, rfl, fa, p⟩ := h72
      have w1 : WI d row I I72 := ⟨fun a ha => fa a (by omega), fun k _ => by rw [fa 122 (by omega)]⟩
      have w2 : DX δ nr nW I72 := ⟨fun r hr => by rw [fa _ (by omega), fa _ (by omega), fa _ (by omega), fa _ (by omega)]; exact hDX.1 r hr, fun w hw => by rw [fa _ (by omega), fa _ (by omega)]; exact hDX.2 w hw⟩
      have w4 : I72 122 5 = (c : Int) := by rw [fa 122 (by omega)]; exact h5
      have hf := fin I72 z72 w1 w2 (fa row (by omega)) w4 ⟨I72 78, Or.inl ⟨e0, ar, fun i hi => (g2 i hi).2, g3, e, p⟩⟩
      refine r_iastJ (j := c) d_X4_walk_75 hT (by omega) (by omega) (by omega) (kk := ?_)
      refine r_aload_n d_X4_walk_76 rfl ?_
      refine r_dup d_X4_walk_77 rfl ?_
      refine r_geti d_X4_walk_78 f_X4_75 (tt_122 _ _) (by decide) (by decide) ?_
      refine r_iconst d_X4_walk_81 ?_
      refine r_iadd d_X4_walk_82 ?_
      rw [up2_ne _ _ (show 122 ≠ row by omega), w4]
      refine r_puti d_X4_walk_83 f_X4_75 (tt_122 _ _) (by decide) (Or.inl rfl) ?_
      refine r_vret d_X4_walk_86 rfl ?_
      exact ⟨rfl, rfl, rfl, hf⟩
    · have hL := hLX e1
      obtain ⟨l1, l2, l3, l4⟩ := id hL
      have hpl : ∀ j, j < P → I (110 + d) j = -1 ∨ ∃ ρ : Nat, I (110 + d) j = (ρ : Int) ∧ ρ < 8 ∧ ∀ j, j < P → L (81 + ρ) j = gnF σ nr ng (δ 3) ρ j := fun j hj => by
        rcases l1.1 j hj with q | ⟨ρ, q1, q2⟩
        · exact Or.inl q
        · exact Or.inr ⟨ρ, q1, q2.1, l3 ρ q2.1 q2.2⟩
      have e11 : I 8 11 = bareS σ ng := hH.2.2.2
      have hcs : CS σ nr ng (δ 3) how (I 8 11 - gainOf (gnF σ nr ng (δ 3)) (I (110 + d)) P / 43046721) := by
        refine ⟨fun q => wsR (gnF σ nr ng (δ 3)) (I (110 + d)) q, Or.inr ⟨e1, I (110 + d), ?_, ?_, fun _ _ => rfl⟩⟩
        · rw [← hP]; exact LX_opt hL
        · rw [← hP, e11]
      have hf := fin I _ ⟨fun _ _ => rfl, fun _ _ => rfl⟩ hDX rfl h5 hcs
      refine r_iload_n d_X4_walk_0 rfl ?_
      refine r_aload_n d_X4_walk_1 rfl ?_
      refine r_getr d_X4_walk_2 f_X4_27 (tt_122 _ _) (by decide) rfl (rr_122_0 _) ?_
      refine r_geti d_X4_walk_5 f_X4_39 (tt_8 _ _) (by decide) (by decide) ?_
      refine r_icmp_ge d_X4_walk_8 (by omega) (by omega) (fun c8 => ?_) (fun c8 => absurd c8 (by omega))
      refine r_aload_n d_X4_walk_17 rfl ?_
      refine r_geti d_X4_walk_18 f_X4_75 (tt_122 _ _) (by decide) (by decide) ?_
      refine r_aload_n d_X4_walk_21 rfl ?_
      refine r_alen d_X4_walk_22 hT (by decide) ?_
      refine r_icmp_ge d_X4_walk_23 (by omega) (by omega) (fun c23 => absurd c23 (by omega)) (fun c23 => ?_)
      refine r_aload_n d_X4_walk_26 rfl ?_
      refine r_aload_n d_X4_walk_27 rfl ?_
      refine r_geti d_X4_walk_28 f_X4_75 (tt_122 _ _) (by decide) (by decide) ?_
      refine r_aload_n d_X4_walk_31 rfl ?_
      refine r_geti d_X4_walk_32 f_X4_64 (tt_122 _ _) (by decide) (by decide) ?_
      refine r_iconst d_X4_walk_35 ?_
      refine r_icmp_ne d_X4_walk_36 (by omega) (by omega) (fun c36 => absurd c36 (by omega)) (fun c36 => ?_)
      refine r_aload_n d_X4_walk_39 rfl ?_
      refine r_getr d_X4_walk_40 f_X4_27 (tt_122 _ _) (by decide) rfl (rr_122_0 _) ?_
      refine r_geti d_X4_walk_43 f_X4_98 (tt_8 _ _) (by decide) (by decide) ?_
      refine r_aload_n d_X4_walk_46 rfl ?_
      refine r_getr d_X4_walk_47 f_X4_35 (tt_122 _ _) (by decide) rfl (rr_122_2 _) ?_
      refine r_getr d_X4_walk_50 f_X4_83 (tt_77 _ _) (by decide) rfl (rr_77_1 _) ?_
      refine r_iload_n d_X4_walk_53 rfl ?_
      refine r_V1i d_X4_walk_54 (w_X4_101 _ rfl) (tt_79 _ _) rfl rfl (c_savedAt hp hP8 (by omega) hpl hG) (by omega) (Nat.le_of_ble_eq_true rfl) (fun z54 T54 I54 L54 R54 h54 => ?_)
      obtain ⟨rfl, rfl, rfl, rfl, rfl⟩ := h54
      refine r_isub d_X4_walk_57 ?_
      refine r_goto d_X4_walk_58 ?_
      refine r_iastJ (j := c) d_X4_walk_75 hT (by omega) (by omega) (by omega) (kk := ?_)
      refine r_aload_n d_X4_walk_76 rfl ?_
      refine r_dup d_X4_walk_77 rfl ?_
      refine r_geti d_X4_walk_78 f_X4_75 (tt_122 _ _) (by decide) (by decide) ?_
      refine r_iconst d_X4_walk_81 ?_
      refine r_iadd d_X4_walk_82 ?_
      rw [up2_ne _ _ (show 122 ≠ row by omega), h5]
      refine r_puti d_X4_walk_83 f_X4_75 (tt_122 _ _) (by decide) (Or.inl rfl) ?_
      refine r_vret d_X4_walk_86 rfl ?_
      exact ⟨rfl, rfl, rfl, hf⟩
  | succ f ih =>
    intro d m c tk δ I L hdf hm hmb hc hX hH hK hR hDV hDX hU hp h5 h6' hLX
    refine Mc_of rfl (Nat.le_of_ble_eq_true rfl) ?_
    have e3 : I 8 3 = (nr : Int) := hX.1
    obtain ⟨W, hW⟩ : ∃ W, W = dfs nr (f + 1) tk := ⟨_, rfl⟩
    obtain ⟨Q, hQ⟩ : ∃ Q : sQ, Q = (qV fun T' I' L' R' => T' = TT Ls tl ∧ R' = RR tl ∧ WI d row I I' ∧ WL d tk L L' ∧ DX δ nr nW I' ∧ PW σ ℓ ab nr nW ng how row δ c W I I') := ⟨_, rfl⟩
    rw [← hW] at hc
    rw [← hW, ← hQ]
    have loop : ∀ (k b : Nat) (W1 : List (List Nat)) (I1 L1 : sI), b + k = nr → W = W1 ++ dfl (dfs nr f) tk k b → WI d row I I1 → WL d tk L L1 → DX δ nr nW I1 → PW σ ℓ ab nr nW ng how row δ c W1 I I1 → Cp g (3 + (f + 1)) m_X4_walk 0 0 Q 90 [(0, vr 122), (1, vi (d : Int)), (2, vi (m : Int)), (3, vr row), (4, vi (b : Int))] [] (TT Ls tl) I1 L1 (RR tl) := by
      intro k
      induction k with
      | zero =>
        intro b W1 I1 L1 hbk hW1 wI wL hD1 hp1
        have e31 : I1 8 3 = (nr : Int) := by rw [wI.1 8 (by omega)]; exact e3
        refine r_iload d_X4_walk_90 rfl ?_
        refine r_aload_n d_X4_walk_92 rfl ?_
        refine r_getr d_X4_walk_93 f_X4_27 (tt_122 _ _) (by decide) rfl (rr_122_0 _) ?_
        refine r_geti d_X4_walk_96 f_X4_39 (tt_8 _ _) (by decide) (by decide) ?_
        refine r_icmp_ge d_X4_walk_99 (by omega) (by omega) (fun c99 => ?_) (fun c99 => absurd c99 (by omega))
        refine r_vret d_X4_walk_261 rfl ?_
        rw [hQ]
        refine ⟨rfl, rfl, rfl, wI, wL, hD1, ?_⟩
        rw [hW1]
        show PW σ ℓ ab nr nW ng how row δ c (W1 ++ []) I I1
        rw [List.append_nil]; exact hp1
      | succ k ihk =>
        intro b W1 I1 L1 hbk hW1 wI wL hD1 hp1
        have hb : b < nr := by omega
        have e31 : I1 8 3 = (nr : Int) := by rw [wI.1 8 (by omega)]; exact e3
        have et : sand (sshr (m : Int) (b : Int)) 1 = if m.testBit b then 1 else 0 := bit_tst (by omega) (by omega)
        have hW1' : W = W1 ++ ((if tk b = true then [] else (dfs nr f (addS tk b)).map (fun l => b :: l)) ++ dfl (dfs nr f) tk k (b + 1)) := hW1
        by_cases htk : tk b = true
        · rw [if_pos htk, List.nil_append] at hW1'
          refine r_iload d_X4_walk_90 rfl ?_
          refine r_aload_n d_X4_walk_92 rfl ?_
          refine r_getr d_X4_walk_93 f_X4_27 (tt_122 _ _) (by decide) rfl (rr_122_0 _) ?_
          refine r_geti d_X4_walk_96 f_X4_39 (tt_8 _ _) (by decide) (by decide) ?_
          refine r_icmp_ge d_X4_walk_99 (by omega) (by omega) (fun c99 => absurd c99 (by omega)) (fun c99 => ?_)
          refine r_iload_n d_X4_walk_102 rfl ?_
          refine r_iload d_X4_walk_103 rfl ?_
          refine r_ishr d_X4_walk_105 ?_
          refine r_iconst d_X4_walk_106 ?_
          refine r_iand d_X4_walk_107 ?_
          refine r_iconst d_X4_walk_108 ?_
          refine r_icmp_ne d_X4_walk_109 (by rw [et]; split <;> omega) (by omega) (fun c109 => absurd c109 (by rw [et, hmb b hb, if_pos htk]; decide)) (fun c109 => ?_)
          refine r_goto d_X4_walk_112 ?_
          refine r_iinc d_X4_walk_255 rfl (by decide) ?_
          refine r_goto d_X4_walk_258 ?_
          exact CpL (ihk (b + 1) W1 I1 L1 (by omega) hW1' wI wL hD1 hp1) (by repeat (first | exact trivial | refine ⟨rfl, ?_⟩))
        · have htf : tk b = false := by cases h : tk b with
            | false => rfl
            | true => exact absurd h htk
          rw [if_neg htk, ← List.append_assoc] at hW1'
          have hlen : W.length = W1.length + (dfs nr f (addS tk b)).length + (dfl (dfs nr f) tk k (b + 1)).length := by rw [hW1', List.length_append, List.length_append, List.length_map]
          have hX1 := HX_low hV hX (fun a ha => wI.1 a (by omega))
          have hH1 := HS_low hH (fun a ha => wI.1 a (by omega))
          have hK1 := KX_low v1 h4 hK (fun a ha => wI.1 a (by omega))
          have hR1 : RKX L1 := fun j hj => by rw [wL 2 (by omega)]; exact hR j hj
          have p79 : I1 79 1 = (P : Int) := by rw [wI.1 79 (by omega)]; exact hp
          have p122 : I1 122 6 = how := by rw [wI.2 6 (by omega)]; exact h6'
          have hLX1 : how = 1 → LX P (dnS nr (δ 3)) (gnF σ nr ng (δ 3)) d I1 L1 := fun e => LX_congr (hLX e) (wL _ (by omega)) (wL _ (by omega)) (wI.1 _ (by omega)) (fun ρ hρ hs => wL _ (Or.inr (Or.inr (Or.inr (Or.inr ⟨by omega, by omega, by
            rw [show 81 + ρ - 81 = ρ by omega]
            have hs := of_decide_eq_true hs
            cases h : tk ρ with
            | true => rfl
            | false => exact absurd (hU ρ hs.1 h).2.2 hs.2⟩))))) (fun _ _ _ _ _ => rfl)
          have hub := hU b hb htf
          have hor : sor (m : Int) (sshl 1 (b : Int)) = ((m ||| 2 ^ b : Nat) : Int) := by
            rw [sshl_one b (by omega)]
            have : 2 ^ b ≤ 2 ^ 7 := Nat.pow_le_pow_right (by omega) (by omega)
            exact sor_nat (by omega) (by omega)
          have hmb' : ∀ r, r < nr → (m ||| 2 ^ b).testBit r = addS tk b r := fun r hr => by
            rw [or_bit, hmb r hr]; unfold addS; congr 1
            by_cases e : b = r
            · simp [e]
            · simp [e]; omega
          have hsf := c_soonestFor (g := g) (Ls := Ls) (tl := tl) (L := L1) hS hK1 hDV hD1 hb
          have hrg := amin_rng (fun w => mayS σ ℓ ab δ w b) (fun w => rdyS σ ℓ δ w b) nW
          obtain ⟨A, hA⟩ : ∃ A, A = amin (fun w => mayS σ ℓ ab δ w b) (fun w => rdyS σ ℓ δ w b) nW := ⟨_, rfl⟩
          rw [← hA] at hsf hrg
          by_cases hno : A = -1
          · have hl := lone_no (hA ▸ hno)
            refine r_iload d_X4_walk_90 rfl ?_
            refine r_aload_n d_X4_walk_92 rfl ?_
            refine r_getr d_X4_walk_93 f_X4_27 (tt_122 _ _) (by decide) rfl (rr_122_0 _) ?_
            refine r_geti d_X4_walk_96 f_X4_39 (tt_8 _ _) (by decide) (by decide) ?_
            refine r_icmp_ge d_X4_walk_99 (by omega) (by omega) (fun c99 => absurd c99 (by omega)) (fun c99 => ?_)
            refine r_iload_n d_X4_walk_102 rfl ?_
            refine r_iload d_X4_walk_103 rfl ?_
            refine r_ishr d_X4_walk_105 ?_
            refine r_iconst d_X4_walk_106 ?_
            refine r_iand d_X4_walk_107 ?_
            refine r_iconst d_X4_walk_108 ?_
            refine r_icmp_ne d_X4_walk_109 (by rw [et]; split <;> omega) (by omega) (fun c109 => ?_) (fun c109 => absurd c109 (by rw [et, hmb b hb, if_neg htk]; decide))
            refine r_aload_n d_X4_walk_115 rfl ?_
            refine r_getr d_X4_walk_116 f_X4_31 (tt_122 _ _) (by decide) rfl (rr_122_1 _) ?_
            refine r_iload d_X4_walk_119 rfl ?_
            refine r_V1i d_X4_walk_121 (w_X4_111 _ rfl) (tt_63 _ _) rfl rfl (hsf) (by omega) (Nat.le_of_ble_eq_true rfl) (fun z121 T121 I121 L121 R121 h121 => ?_)
            obtain ⟨rfl, rfl, rfl, rfl, rfl⟩ := h121
            refine r_istore d_X4_walk_124 (by decide) ?_
            refine r_iload d_X4_walk_126 rfl ?_
            refine r_iconst d_X4_walk_128 ?_
            refine r_icmp_ne d_X4_walk_129 (by omega) (by omega) (fun c129 => absurd c129 (by omega)) (fun c129 => ?_)
            refine r_aload_n d_X4_walk_132 rfl ?_
            refine r_getr d_X4_walk_133 f_X4_35 (tt_122 _ _) (by decide) rfl (rr_122_2 _) ?_
            refine r_getr d_X4_walk_136 f_X4_83 (tt_77 _ _) (by decide) rfl (rr_77_1 _) ?_
            refine r_iload_n d_X4_walk_139 rfl ?_
            refine r_V1v d_X4_walk_140 (w_X4_114 _ rfl) (tt_79 _ _) rfl rfl (c_keep (lv := d) p79 hP8 (by omega)) (by omega) (Nat.le_of_ble_eq_true rfl) (fun T140 I140 L140 R140 h140 => ?_)
            obtain ⟨rfl, rfl, k1, k2, k3⟩ := h140
            have x1 := HX_low hV hX1 (fun a ha => k1 a (by omega))
            have x2 := HS_low hH1 (fun a ha => k1 a (by omega))
            have x3 := KX_low v1 h4 hK1 (fun a ha => k1 a (by omega))
            have x4 : RKX L140 := fun j hj => by rw [k2 2 (by omega)]; exact hR1 j hj
            have x5 : DX δ nr nW I140 := ⟨fun r hr => by rw [k1 _ (by omega), k1 _ (by omega), k1 _ (by omega), k1 _ (by omega)]; exact hD1.1 r hr, fun w hw => by rw [k1 _ (by omega), k1 _ (by omega)]; exact hD1.2 w hw⟩
            have x6 : UN (addS tk b) nr δ := UN_add hU (fun _ _ => ⟨rfl, rfl, rfl⟩)
            have x7 : how = 1 → LX P (dnS nr (δ 3)) (gnF σ nr ng (δ 3)) (d + 1) I140 L140 := fun e => LX_keep (by omega) (hLX1 e) hP8 k2 k3
            have hrec := ih (d + 1) (m ||| 2 ^ b) (c + W1.length) (addS tk b) δ I140 L140 (by omega) (or_lt (n := 8) hm (by omega)) hmb' (by omega) x1 x2 x3 x4 hDV x5 x6 (by rw [k1 79 (by omega)]; exact p79) (by rw [k1 122 (by omega)]; exact hp1.1) (by rw [k1 122 (by omega)]; exact p122) x7
            refine r_aload_n d_X4_walk_143 rfl ?_
            refine r_iload_n d_X4_walk_144 rfl ?_
            refine r_iconst d_X4_walk_145 ?_
            refine r_iadd d_X4_walk_146 ?_
            refine r_iload_n d_X4_walk_147 rfl ?_
            refine r_iconst d_X4_walk_148 ?_
            refine r_iload d_X4_walk_149 rfl ?_
            refine r_ishl d_X4_walk_151 ?_
            refine r_ior d_X4_walk_152 ?_
            refine r_aload_n d_X4_walk_153 rfl ?_
            rw [hor, show (d : Int) + 1 = ((d + 1 : Nat) : Int) from rfl]
            refine r_V3v d_X4_walk_154 (w_X4_94 _ rfl) (tt_122 _ _) rfl rfl (hrec) (by omega) (Nat.le_of_ble_eq_true rfl) (fun T154 I154 L154 R154 h154 => ?_)
            obtain ⟨rfl, rfl, y1, y2, y3, y4⟩ := h154
            have i1 : WI d row I1 I154 := ⟨fun a ha => (y1.1 a (by omega)).trans (k1 a (by omega)), fun k hk => (y1.2 k hk).trans (by rw [k1 122 (by omega)])⟩
            have i2 : WL d tk L1 L154 := fun a ha => (y2 a (by
              rcases ha with h | h | h | h | ⟨h, h', h''⟩
              · exact Or.inl h
              · exact Or.inr (Or.inl h)
              · exact Or.inr (Or.inr (Or.inl (by omega)))
              · exact Or.inr (Or.inr (Or.inr (Or.inl (by omega))))
              · exact Or.inr (Or.inr (Or.inr (Or.inr ⟨h, h', by unfold addS; rw [h'']; rfl⟩))))).trans (k2 a (by omega))
            have i3 : PW σ ℓ ab nr nW ng how row δ (c + W1.length) ((dfs nr f (addS tk b)).map (fun l => b :: l)) I1 I154 := by
              refine PW_map ?_
              rw [hl]
              exact ⟨y4.1, y4.2.1, fun i hi => by rw [y4.2.2 i hi, k1 row (by omega)]⟩
            refine r_goto d_X4_walk_157 ?_
            refine r_iinc d_X4_walk_255 rfl (by decide) ?_
            refine r_goto d_X4_walk_258 ?_
            exact CpL (ihk (b + 1) _ I154 L154 (by omega) hW1' (WI_tr wI i1) (WL_tr wL i2) y3 (PW_app hp1 i3)) (by repeat (first | exact trivial | refine ⟨rfl, ?_⟩))
          · obtain ⟨w, rfl⟩ : ∃ w : Nat, A = (w : Int) := ⟨A.toNat, by omega⟩
            obtain ⟨hw', hl, hmay⟩ := lone_yes hA.symm
            have hstp : stepS σ ℓ ab δ w b = doS σ ℓ δ w b := by unfold stepS; rw [if_pos hmay]
            obtain ⟨δ', hδ'⟩ : ∃ δ', δ' = doS σ ℓ δ w b := ⟨_, rfl⟩
            have hDV' : DV δ' nr nW := by rw [hδ', ← hstp]; exact DV_step hS hDV hw' hb
            obtain ⟨n1, n2, n3, n4⟩ := doS_ne (σ := σ) (ℓ := ℓ) (δ := δ) (w := w) (r := b)
            rw [← hδ'] at n1 n2 n3 n4
            have hbd := begS_bd hS hDV hw' hb
            have hrd1 : 1 ≤ δ' 3 b := by rw [n4]; omega
            have hrdb := (hDV'.1 b hb).2.2.2
            have x6 : UN (addS tk b) nr δ' := UN_add hU n1
            have ew := hD1.2 w hw'
            have tail : ∀ (I2 L2 : sI), WI d row I1 I2 → WL d tk L1 L2 → DX δ' nr nW I2 → (how = 1 → LX P (dnS nr (δ' 3)) (gnF σ nr ng (δ' 3)) (d + 1) I2 L2) → I2 122 = I1 122 → I2 row = I1 row → Cp g (3 + (f + 1)) m_X4_walk 0 0 Q 226 [(0, vr 122), (1, vi (d : Int)), (2, vi (m : Int)), (3, vr row), (4, vi (b : Int)), (5, vi (w : Int)), (6, vi (δ 4 w)), (7, vi (δ 5 w))] [] (TT Ls tl) I2 L2 (RR tl) := by
              intro I2 L2 t1 t2 t3 t4 t5 t6
              have x1 := HX_low hV hX1 (fun a ha => t1.1 a (by omega))
              have x2 := HS_low hH1 (fun a ha => t1.1 a (by omega))
              have x3 := KX_low v1 h4 hK1 (fun a ha => t1.1 a (by omega))
              have x4 : RKX L2 := fun j hj => by rw [t2 2 (by omega)]; exact hR1 j hj
              have hrec := ih (d + 1) (m ||| 2 ^ b) (c + W1.length) (addS tk b) δ' I2 L2 (by omega) (or_lt (n := 8) hm (by omega)) hmb' (by omega) x1 x2 x3 x4 hDV' t3 x6 (by rw [t1.1 79 (by omega)]; exact p79) (by rw [t5]; exact hp1.1) (by rw [t5]; exact p122) t4
              refine r_aload_n d_X4_walk_226 rfl ?_
              refine r_iload_n d_X4_walk_227 rfl ?_
              refine r_iconst d_X4_walk_228 ?_
              refine r_iadd d_X4_walk_229 ?_
              refine r_iload_n d_X4_walk_230 rfl ?_
              refine r_iconst d_X4_walk_231 ?_
              refine r_iload d_X4_walk_232 rfl ?_
              refine r_ishl d_X4_walk_234 ?_
              refine r_ior d_X4_walk_235 ?_
              refine r_aload_n d_X4_walk_236 rfl ?_
              rw [hor, show (d : Int) + 1 = ((d + 1 : Nat) : Int) from rfl]
              refine r_V3v d_X4_walk_237 (w_X4_94 _ rfl) (tt_122 _ _) rfl rfl (hrec) (by omega) (Nat.le_of_ble_eq_true rfl) (fun T237 I237 L237 R237 h237 => ?_)
              obtain ⟨rfl, rfl, y1, y2, y3, y4⟩ := h237
              refine r_aload_n d_X4_walk_240 rfl ?_
              refine r_getr d_X4_walk_241 f_X4_31 (tt_122 _ _) (by decide) rfl (rr_122_1 _) ?_
              refine r_iload d_X4_walk_244 rfl ?_
              refine r_iload d_X4_walk_246 rfl ?_
              refine r_iload d_X4_walk_248 rfl ?_
              refine r_iload d_X4_walk_250 rfl ?_
              refine r_V4v d_X4_walk_252 (w_X4_131 _ rfl) (tt_63 _ _) rfl rfl (c_takeBack (a := δ 4 w) (b := δ 5 w) (by omega) (by omega)) (by omega) (Nat.le_of_ble_eq_true rfl) (fun T252 I252 L252 R252 h252 => ?_)
              obtain ⟨rfl, rfl, rfl, rfl⟩ := h252
              refine r_iinc d_X4_walk_255 rfl (by decide) ?_
              refine r_goto d_X4_walk_258 ?_
              rw [hδ'] at y3
              have y5 := DX_back y3 hub
              obtain ⟨I3, hI3⟩ : ∃ I3, I3 = up2 (up2 (up2 (up2 (up2 I237 74 b (-1)) 76 b (-1)) 75 b (-1)) 70 w (δ 4 w)) 71 w (δ 5 w) := ⟨_, rfl⟩
              rw [← hI3] at y5 ⊢
              have u1 : ∀ a, ¬ (70 ≤ a ∧ a ≤ 76) → I3 a = I237 a := fun a ha => by rw [hI3, up2_ne _ _ (by omega), up2_ne _ _ (by omega), up2_ne _ _ (by omega), up2_ne _ _ (by omega), up2_ne _ _ (by omega)]
              have i1 : WI d row I1 I3 := ⟨fun a ha => (u1 a (by omega)).trans ((y1.1 a (by omega)).trans (t1.1 a ha)), fun k hk => by rw [u1 122 (by omega), y1.2 k hk]; exact t1.2 k hk⟩
              have i2 : WL d tk L1 L237 := fun a ha => (y2 a (by
                rcases ha with h | h | h | h | ⟨h, h', h''⟩
                · exact Or.inl h
                · exact Or.inr (Or.inl h)
                · exact Or.inr (Or.inr (Or.inl (by omega)))
                · exact Or.inr (Or.inr (Or.inr (Or.inl (by omega))))
                · exact Or.inr (Or.inr (Or.inr (Or.inr ⟨h, h', by unfold addS; rw [h'']; rfl⟩))))).trans (t2 a ha)
              have i3 : PW σ ℓ ab nr nW ng how row δ (c + W1.length) ((dfs nr f (addS tk b)).map (fun l => b :: l)) I1 I3 := by
                refine PW_map ?_
                rw [hl, ← hδ']
                refine ⟨by rw [u1 122 (by omega)]; exact y4.1, fun i l h => by rw [u1 row (by omega)]; exact y4.2.1 i l h, fun i hi => by rw [u1 row (by omega), y4.2.2 i hi, t6]⟩
              exact CpL (ihk (b + 1) _ I3 L237 (by omega) hW1' (WI_tr wI i1) (WL_tr wL i2) y5 (PW_app hp1 i3)) (by repeat (first | exact trivial | refine ⟨rfl, ?_⟩))
            rcases hh with e0 | e1
            · skip
              refine r_iload d_X4_walk_90 rfl ?_
              refine r_aload_n d_X4_walk_92 rfl ?_
              refine r_getr d_X4_walk_93 f_X4_27 (tt_122 _ _) (by decide) rfl (rr_122_0 _) ?_
              refine r_geti d_X4_walk_96 f_X4_39 (tt_8 _ _) (by decide) (by decide) ?_
              refine r_icmp_ge d_X4_walk_99 (by omega) (by omega) (fun c99 => absurd c99 (by omega)) (fun c99 => ?_)
              refine r_iload_n d_X4_walk_102 rfl ?_
              refine r_iload d_X4_walk_103 rfl ?_
              refine r_ishr d_X4_walk_105 ?_
              refine r_iconst d_X4_walk_106 ?_
              refine r_iand d_X4_walk_107 ?_
              refine r_iconst d_X4_walk_108 ?_
              refine r_icmp_ne d_X4_walk_109 (by rw [et]; split <;> omega) (by omega) (fun c109 => ?_) (fun c109 => absurd c109 (by rw [et, hmb b hb, if_neg htk]; decide))
              refine r_aload_n d_X4_walk_115 rfl ?_
              refine r_getr d_X4_walk_116 f_X4_31 (tt_122 _ _) (by decide) rfl (rr_122_1 _) ?_
              refine r_iload d_X4_walk_119 rfl ?_
              refine r_V1i d_X4_walk_121 (w_X4_111 _ rfl) (tt_63 _ _) rfl rfl (hsf) (by omega) (Nat.le_of_ble_eq_true rfl) (fun z121 T121 I121 L121 R121 h121 => ?_)
              obtain ⟨rfl, rfl, rfl, rfl, rfl⟩ := h121
              refine r_istore d_X4_walk_124 (by decide) ?_
              refine r_iload d_X4_walk_126 rfl ?_
              refine r_iconst d_X4_walk_128 ?_
              refine r_icmp_ne d_X4_walk_129 (by omega) (by omega) (fun c129 => ?_) (fun c129 => absurd c129 (by omega))
              refine r_aload_n d_X4_walk_160 rfl ?_
              refine r_getr d_X4_walk_161 f_X4_31 (tt_122 _ _) (by decide) rfl (rr_122_1 _) ?_
              refine r_getr d_X4_walk_164 f_X4_117 (tt_63 _ _) (by decide) rfl (rr_63_4 _) ?_
              refine r_iload d_X4_walk_167 rfl ?_
              refine r_ialdJ (j := w) d_X4_walk_169 (tt_70 _ _) (by omega) (by omega) (kk := ?_)
              rw [ew.1]
              refine r_istore d_X4_walk_170 (by decide) ?_
              refine r_aload_n d_X4_walk_172 rfl ?_
              refine r_getr d_X4_walk_173 f_X4_31 (tt_122 _ _) (by decide) rfl (rr_122_1 _) ?_
              refine r_getr d_X4_walk_176 f_X4_120 (tt_63 _ _) (by decide) rfl (rr_63_5 _) ?_
              refine r_iload d_X4_walk_179 rfl ?_
              refine r_ialdJ (j := w) d_X4_walk_181 (tt_71 _ _) (by omega) (by omega) (kk := ?_)
              rw [ew.2]
              refine r_istore d_X4_walk_182 (by decide) ?_
              refine r_aload_n d_X4_walk_184 rfl ?_
              refine r_getr d_X4_walk_185 f_X4_31 (tt_122 _ _) (by decide) rfl (rr_122_1 _) ?_
              refine r_iload d_X4_walk_188 rfl ?_
              refine r_iload d_X4_walk_190 rfl ?_
              refine r_V2v d_X4_walk_192 (w_X4_123 _ rfl) (tt_63 _ _) rfl rfl (c_assign hS hK1 hDV hD1 hw' hb) (by omega) (Nat.le_of_ble_eq_true rfl) (fun T192 I192 L192 R192 h192 => ?_)
              obtain ⟨⟨rfl, fa, rfl, rfl⟩, hDa, h72⟩ := h192
              have q6 : I192 122 6 = how := by rw [fa 122 (by omega)]; exact p122
              refine r_aload_n d_X4_walk_195 rfl ?_
              refine r_geti d_X4_walk_196 f_X4_64 (tt_122 _ _) (by decide) (by decide) ?_
              refine r_iconst d_X4_walk_199 ?_
              refine r_icmp_ne d_X4_walk_200 (by omega) (by omega) (fun c200 => ?_) (fun c200 => absurd c200 (by omega))
              rw [hstp, ← hδ'] at hDa
              exact CpL (tail I192 L1 (WI_frb fa (by omega) (by omega)) (fun _ _ => rfl) hDa (fun e => by omega) (fa 122 (by omega)) (fa row (by omega))) (by repeat (first | exact trivial | refine ⟨rfl, ?_⟩))
            · have hG' := gnF_bd (σ := σ) (nr := nr) (ng := ng) (rd := δ' 3) v6 (fun r hr => ((hDV'.1 r hr).2.2.2)) hP8
              have hnb : ∀ ρ, dnS nr (δ 3) ρ = true → ρ ≠ b := fun ρ h e => by
                have h := of_decide_eq_true h
                rw [e] at h; exact h.2 hub.2.2
              have hsb : dnS nr (δ 3) b = false := by
                cases h : dnS nr (δ 3) b with
                | false => rfl
                | true => exact absurd rfl (hnb b h)
              have hsad : addS (dnS nr (δ 3)) b = dnS nr (δ' 3) := by
                funext ρ
                unfold addS dnS
                rw [Bool.eq_iff_iff, Bool.or_eq_true, decide_eq_true_iff, decide_eq_true_iff, decide_eq_true_iff]
                by_cases e : ρ = b
                · subst e
                  constructor
                  · intro _; exact ⟨hb, by omega⟩
                  · intro _; exact Or.inr rfl
                · rw [(n1 ρ e).2.2]
                  constructor
                  · rintro (h | h)
                    · exact h
                    · exact absurd h e
                  · exact Or.inl
              have hFX : ∀ {I2 : sI}, (∀ a, a < 70 → I2 a = I1 a) → FX ng (fun q => fmS σ q nr) I2 := fun hf j hj => by
                refine ⟨by rw [hf 32 (by omega)]; exact hH1.1 j hj, ?_⟩
                have h1 := fmS_lt (σ := σ) (q := j) nr
                have h2 : 2 ^ nr ≤ 2 ^ 8 := Nat.pow_le_pow_right (by omega) v1
                show fmS σ j nr < 256
                omega
              refine r_iload d_X4_walk_90 rfl ?_
              refine r_aload_n d_X4_walk_92 rfl ?_
              refine r_getr d_X4_walk_93 f_X4_27 (tt_122 _ _) (by decide) rfl (rr_122_0 _) ?_
              refine r_geti d_X4_walk_96 f_X4_39 (tt_8 _ _) (by decide) (by decide) ?_
              refine r_icmp_ge d_X4_walk_99 (by omega) (by omega) (fun c99 => absurd c99 (by omega)) (fun c99 => ?_)
              refine r_iload_n d_X4_walk_102 rfl ?_
              refine r_iload d_X4_walk_103 rfl ?_
              refine r_ishr d_X4_walk_105 ?_
              refine r_iconst d_X4_walk_106 ?_
              refine r_iand d_X4_walk_107 ?_
              refine r_iconst d_X4_walk_108 ?_
              refine r_icmp_ne d_X4_walk_109 (by rw [et]; split <;> omega) (by omega) (fun c109 => ?_) (fun c109 => absurd c109 (by rw [et, hmb b hb, if_neg htk]; decide))
              refine r_aload_n d_X4_walk_115 rfl ?_
              refine r_getr d_X4_walk_116 f_X4_31 (tt_122 _ _) (by decide) rfl (rr_122_1 _) ?_
              refine r_iload d_X4_walk_119 rfl ?_
              refine r_V1i d_X4_walk_121 (w_X4_111 _ rfl) (tt_63 _ _) rfl rfl (hsf) (by omega) (Nat.le_of_ble_eq_true rfl) (fun z121 T121 I121 L121 R121 h121 => ?_)
              obtain ⟨rfl, rfl, rfl, rfl, rfl⟩ := h121
              refine r_istore d_X4_walk_124 (by decide) ?_
              refine r_iload d_X4_walk_126 rfl ?_
              refine r_iconst d_X4_walk_128 ?_
              refine r_icmp_ne d_X4_walk_129 (by omega) (by omega) (fun c129 => ?_) (fun c129 => absurd c129 (by omega))
              refine r_aload_n d_X4_walk_160 rfl ?_
              refine r_getr d_X4_walk_161 f_X4_31 (tt_122 _ _) (by decide) rfl (rr_122_1 _) ?_
              refine r_getr d_X4_walk_164 f_X4_117 (tt_63 _ _) (by decide) rfl (rr_63_4 _) ?_
              refine r_iload d_X4_walk_167 rfl ?_
              refine r_ialdJ (j := w) d_X4_walk_169 (tt_70 _ _) (by omega) (by omega) (kk := ?_)
              rw [ew.1]
              refine r_istore d_X4_walk_170 (by decide) ?_
              refine r_aload_n d_X4_walk_172 rfl ?_
              refine r_getr d_X4_walk_173 f_X4_31 (tt_122 _ _) (by decide) rfl (rr_122_1 _) ?_
              refine r_getr d_X4_walk_176 f_X4_120 (tt_63 _ _) (by decide) rfl (rr_63_5 _) ?_
              refine r_iload d_X4_walk_179 rfl ?_
              refine r_ialdJ (j := w) d_X4_walk_181 (tt_71 _ _) (by omega) (by omega) (kk := ?_)
              rw [ew.2]
              refine r_istore d_X4_walk_182 (by decide) ?_
              refine r_aload_n d_X4_walk_184 rfl ?_
              refine r_getr d_X4_walk_185 f_X4_31 (tt_122 _ _) (by decide) rfl (rr_122_1 _) ?_
              refine r_iload d_X4_walk_188 rfl ?_
              refine r_iload d_X4_walk_190 rfl ?_
              refine r_V2v d_X4_walk_192 (w_X4_123 _ rfl) (tt_63 _ _) rfl rfl (c_assign hS hK1 hDV hD1 hw' hb) (by omega) (Nat.le_of_ble_eq_true rfl) (fun T192 I192 L192 R192 h192 => ?_)
              obtain ⟨⟨rfl, fa, rfl, rfl⟩, hDa, h72⟩ := h192
              have q6 : I192 122 6 = how := by rw [fa 122 (by omega)]; exact p122
              rw [hstp, ← hδ'] at hDa
              have e76 : I192 76 b = δ' 3 b := (hDa.1 b hb).2.2.2
              have hL2 : LX P (dnS nr (δ 3)) (gnF σ nr ng (δ' 3)) d I192 L1 := LX_congr (hLX1 e1) rfl rfl (fa _ (by omega)) (fun _ _ _ => rfl) (fun ρ j _ hs _ => by unfold gnF; rw [(n1 ρ (hnb ρ hs)).2.2])
              refine r_aload_n d_X4_walk_195 rfl ?_
              refine r_geti d_X4_walk_196 f_X4_64 (tt_122 _ _) (by decide) (by decide) ?_
              refine r_iconst d_X4_walk_199 ?_
              refine r_icmp_ne d_X4_walk_200 (by omega) (by omega) (fun c200 => absurd c200 (by omega)) (fun c200 => ?_)
              refine r_aload_n d_X4_walk_203 rfl ?_
              refine r_getr d_X4_walk_204 f_X4_35 (tt_122 _ _) (by decide) rfl (rr_122_2 _) ?_
              refine r_getr d_X4_walk_207 f_X4_83 (tt_77 _ _) (by decide) rfl (rr_77_1 _) ?_
              refine r_iload_n d_X4_walk_210 rfl ?_
              refine r_iload d_X4_walk_211 rfl ?_
              refine r_aload_n d_X4_walk_213 rfl ?_
              refine r_getr d_X4_walk_214 f_X4_31 (tt_122 _ _) (by decide) rfl (rr_122_1 _) ?_
              refine r_getr d_X4_walk_217 f_X4_104 (tt_63 _ _) (by decide) rfl (rr_63_11 _) ?_
              refine r_iload d_X4_walk_220 rfl ?_
              refine r_ialdJ d_X4_walk_222 (tt_76 _ _) rfl (by omega) (kk := ?_)
              rw [e76]
              refine r_V3v d_X4_walk_223 (w_X4_127 _ rfl) (tt_79 _ _) rfl rfl (c_add (lv := d) (r := b) (σ := σ) (ng := ng) (fm := fun q => fmS σ q nr) (rd := δ' 3 b) (by rw [fa 79 (by omega)]; exact p79) hP8 (by omega) hL2 hG' (by omega) hsb (by rw [fa 8 (by omega)]; exact hX1.2.2.1) v3 v6 (fun q hq k hk => by rw [fa _ (by omega)]; exact HXg hX1 hq hk) (hFX (fun a ha => fa a (by omega))) hR1 hrdb (fun j hj => by unfold gnF; rw [if_pos hb])) (by omega) (Nat.le_of_ble_eq_true rfl) (fun T223 I223 L223 R223 h223 => ?_)
              obtain ⟨rfl, rfl, k1, k2, k3⟩ := h223
              refine CpL (tail I223 L223 ⟨fun a ha => (k1 a (by omega)).trans (fa a (by omega)), fun k _ => by rw [k1 122 (by omega), fa 122 (by omega)]⟩ (fun a ha => ?_) ⟨fun r hr => by rw [k1 _ (by omega), k1 _ (by omega), k1 _ (by omega), k1 _ (by omega)]; exact hDa.1 r hr, fun v hv => by rw [k1 _ (by omega), k1 _ (by omega)]; exact hDa.2 v hv⟩ (fun _ => by rw [← hsad]; exact k3) (by rw [k1 122 (by omega), fa 122 (by omega)]) (by rw [k1 row (by omega), fa row (by omega)])) (by repeat (first | exact trivial | refine ⟨rfl, ?_⟩))
              refine k2 a ?_
              have : a ≠ 81 + b := fun e => by
                rcases ha with h | h | h | h | ⟨h, h', h''⟩
                · omega
                · omega
                · omega
                · omega
                · rw [e, show 81 + b - 81 = b by omega] at h''; exact htk h''
              omega
    refine r_iload_n d_X4_walk_0 rfl ?_
    refine r_aload_n d_X4_walk_1 rfl ?_
    refine r_getr d_X4_walk_2 f_X4_27 (tt_122 _ _) (by decide) rfl (rr_122_0 _) ?_
    refine r_geti d_X4_walk_5 f_X4_39 (tt_8 _ _) (by decide) (by decide) ?_
    refine r_icmp_ge d_X4_walk_8 (by omega) (by omega) (fun c8 => absurd c8 (by omega)) (fun c8 => ?_)
    refine r_iload_n d_X4_walk_11 rfl ?_
    refine r_bipush d_X4_walk_12 (by decide) ?_
    refine r_icmp_lt d_X4_walk_14 (by omega) (by omega) (fun c14 => ?_) (fun c14 => absurd c14 (by omega))
    refine r_iconst d_X4_walk_87 ?_
    refine r_istore d_X4_walk_88 (by decide) ?_
    refine CpL (loop nr 0 [] I L (by omega) (by rw [hW]; rfl) ⟨fun _ _ => rfl, fun _ _ => rfl⟩ (fun _ _ => rfl) hDX ⟨by rw [h5]; rfl, fun i l h => ?_, fun _ _ => rfl⟩) (by repeat (first | exact trivial | refine ⟨rfl, ?_⟩))
    cases i <;> cases h
end C38
