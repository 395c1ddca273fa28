/-! the reference: told rules, rules -/
theorem flW_snoc {l : List (Nat × Nat)} {x v w : Nat} : flW (l ++ [(x, v)]) w = flW l w ++ (if v = w then [(x, v)] else []) := by
  unfold flW
  rw [List.filter_append]
  congr 1
  by_cases e : v = w
  · rw [if_pos e]; simp [e]
  · rw [if_neg e]; simp [e]
theorem flW_le {l : List (Nat × Nat)} {w : Nat} : (flW l w).length ≤ l.length := List.length_filter_le _ _
theorem TLM_snoc {l : List (Nat × Nat)} {A B : Nat → Int} {x v : Nat} (hv : v < 3) (h : TLM l A) (hl : (flW l v).length < 8) (h1 : B (8 * v + (flW l v).length) = (x : Int)) (h2 : ∀ j, j ≠ 8 * v + (flW l v).length → B j = A j) : TLM (l ++ [(x, v)]) B := by
  intro w hw k hk
  rw [flW_snoc]
  by_cases e : v = w
  · subst e
    rw [if_pos rfl]
    by_cases e2 : k = (flW l v).length
    · rw [e2, h1, List.getElem?_append_right (Nat.le_refl _), Nat.sub_self]
      rfl
    · rw [h2 _ (by omega), h v hv k hk]
      by_cases e3 : k < (flW l v).length
      · rw [List.getElem?_append_left e3]
      · rw [List.getElem?_eq_none (by omega), List.getElem?_eq_none (by rw [List.length_append]; show _ + 1 ≤ k; omega)]
  · rw [if_neg e, List.append_nil, h2 _ (by omega)]
    exact h w hw k hk
theorem TLM_congr {l : List (Nat × Nat)} {A B : Nat → Int} (h : TLM l A) (e : ∀ j, j < 24 → B j = A j) : TLM l B := by
  intro w hw k hk
  rw [e _ (by omega)]
  exact h w hw k hk
theorem TLM_nil {A : Nat → Int} (h : ∀ j, j < 24 → A j = -1) : TLM [] A := by
  intro w hw k hk
  rw [h _ (by omega)]
  rfl
def FT (I I' : sI) : Prop := (∀ a, a ≠ 139 → a ≠ 172 → I' a = I a) ∧ (∀ k, k ≠ 30 → k ≠ 31 → I' 139 k = I 139 k)
section X9w
variable {g : sG} {Ls : Nat} {tl tl' : List Nat} {I L : sI} {pg : Nat → Int} {len : Nat} {D0 : Sg} {σ : Sg} {ℓ : Int} {nr nw ng : Nat} {ukd unn : Nat → Int} {utr utw : Nat → Nat → Nat}
theorem x_readTold (hP : PGM pg len I) : Mc g 1 m_X8_readTold 0 0 [vr 139] (TT Ls tl) I L (RR tl) (qV fun T' I' L' R' => T' = TT Ls tl ∧ R' = RR tl ∧ L' = L ∧ FT I I' ∧ ∃ p s, stpT pg len p s ∧ I' 139 30 = (p : Int) ∧ I' 139 31 = (if 0 < len ∧ p = len then 1 else 0) ∧ TLM s.2.2 (I' 172)) := by
  refine Mc_of rfl (Nat.le_of_ble_eq_true rfl) ?_
  obtain ⟨p1, p2, p3⟩ := hP
  obtain ⟨Q, hQ⟩ : ∃ Q : sQ, Q = (qV fun T' I' L' R' => T' = TT Ls tl ∧ R' = RR tl ∧ L' = L ∧ FT I I' ∧ ∃ p s, stpT pg len p s ∧ I' 139 30 = (p : Int) ∧ I' 139 31 = (if 0 < len ∧ p = len then 1 else 0) ∧ TLM s.2.2 (I' 172)) := ⟨_, rfl⟩
  rw [← hQ]
  have t150 : ∀ (p : Nat) (s : tSt) (J : sI), stpT pg len p s → (∀ a, a ≠ 172 → J a = I a) → TLM s.2.2 (J 172) → Cp g 1 m_X8_readTold 0 0 Q 150 [(0, vr 139), (4, vi (p : Int))] [] (TT Ls tl) J L (RR tl) := by
    intro p s J hst f hT
    have hpl := hst.2.1
    have e23 : up2 J 139 30 (p : Int) 139 23 = (len : Int) := by rw [up2_nj _ _ (by decide), f 139 (by decide)]; exact p1
    have fin : ∀ z : Int, z = (if 0 < len ∧ p = len then 1 else 0) → Q none (TT Ls tl) (up2 (up2 J 139 30 (p : Int)) 139 31 z) L (RR tl) := fun z hz => by
      rw [hQ]
      exact ⟨rfl, rfl, rfl, rfl, ⟨fun a h1 h2 => by rw [up2_ne _ _ h1, up2_ne _ _ h1]; exact f a h2, fun k h1 h2 => by rw [up2_nj _ _ h2, up2_nj _ _ h1, f 139 (by decide)]⟩, p, s, hst, by rw [up2_nj _ _ (by decide), up2_at], by rw [up2_at, hz], by rw [up2_ne _ _ (by decide), up2_ne _ _ (by decide)]; exact hT⟩
    by_cases c1 : p = len
    · by_cases c2 : 0 < len
      · skip
        refine r_aload_n d_X8_readTold_150 rfl ?_
        refine r_iload d_X8_readTold_151 rfl ?_
        refine r_puti d_X8_readTold_153 f_X8_219 (tt_139 _ _) (by decide) (Or.inl rfl) ?_
        refine r_aload_n d_X8_readTold_156 rfl ?_
        refine r_iload d_X8_readTold_157 rfl ?_
        refine r_aload_n d_X8_readTold_159 rfl ?_
        refine r_geti d_X8_readTold_160 f_X8_159 (tt_139 _ _) (by decide) (by decide) ?_
        rw [e23]
        refine r_icmp_ne d_X8_readTold_163 (by omega) (by omega) (fun c163 => absurd c163 (by omega)) (fun c163 => ?_)
        refine r_aload_n d_X8_readTold_166 rfl ?_
        refine r_geti d_X8_readTold_167 f_X8_159 (tt_139 _ _) (by decide) (by decide) ?_
        rw [e23]
        refine r_if_le d_X8_readTold_170 (by omega) (fun c170 => absurd c170 (by omega)) (fun c170 => ?_)
        refine r_iconst d_X8_readTold_173 ?_
        refine r_goto d_X8_readTold_174 ?_
        refine r_puti d_X8_readTold_178 f_X8_222 (tt_139 _ _) (by decide) (Or.inr ⟨rfl, by omega⟩) ?_
        refine r_vret d_X8_readTold_181 rfl ?_
        exact fin 1 (by rw [if_pos ⟨c2, c1⟩])
      · skip
        refine r_aload_n d_X8_readTold_150 rfl ?_
        refine r_iload d_X8_readTold_151 rfl ?_
        refine r_puti d_X8_readTold_153 f_X8_219 (tt_139 _ _) (by decide) (Or.inl rfl) ?_
        refine r_aload_n d_X8_readTold_156 rfl ?_
        refine r_iload d_X8_readTold_157 rfl ?_
        refine r_aload_n d_X8_readTold_159 rfl ?_
        refine r_geti d_X8_readTold_160 f_X8_159 (tt_139 _ _) (by decide) (by decide) ?_
        rw [e23]
        refine r_icmp_ne d_X8_readTold_163 (by omega) (by omega) (fun c163 => absurd c163 (by omega)) (fun c163 => ?_)
        refine r_aload_n d_X8_readTold_166 rfl ?_
        refine r_geti d_X8_readTold_167 f_X8_159 (tt_139 _ _) (by decide) (by decide) ?_
        rw [e23]
        refine r_if_le d_X8_readTold_170 (by omega) (fun c170 => ?_) (fun c170 => absurd c170 (by omega))
        refine r_iconst d_X8_readTold_177 ?_
        refine r_puti d_X8_readTold_178 f_X8_222 (tt_139 _ _) (by decide) (Or.inr ⟨rfl, by omega⟩) ?_
        refine r_vret d_X8_readTold_181 rfl ?_
        exact fin 0 (by rw [if_neg (fun q => c2 q.1)])
    · skip
      refine r_aload_n d_X8_readTold_150 rfl ?_
      refine r_iload d_X8_readTold_151 rfl ?_
      refine r_puti d_X8_readTold_153 f_X8_219 (tt_139 _ _) (by decide) (Or.inl rfl) ?_
      refine r_aload_n d_X8_readTold_156 rfl ?_
      refine r_iload d_X8_readTold_157 rfl ?_
      refine r_aload_n d_X8_readTold_159 rfl ?_
      refine r_geti d_X8_readTold_160 f_X8_159 (tt_139 _ _) (by decide) (by decide) ?_
      rw [e23]
      refine r_icmp_ne d_X8_readTold_163 (by omega) (by omega) (fun c163 => ?_) (fun c163 => absurd c163 (by omega))
      refine r_iconst d_X8_readTold_177 ?_
      refine r_puti d_X8_readTold_178 f_X8_222 (tt_139 _ _) (by decide) (Or.inr ⟨rfl, by omega⟩) ?_
      refine r_vret d_X8_readTold_181 rfl ?_
      exact fin 0 (by rw [if_neg (fun q => c1 q.2)])
  have loop : ∀ (k p : Nat) (s : tSt) (m : Nat) (J : sI), p + k = len → runT pg p = some s → m < 256 → (∀ r, r < 8 → m.testBit r = s.1 r) → (∀ a, a ≠ 172 → J a = I a) → TLM s.2.2 (J 172) → Cp g 1 m_X8_readTold 0 0 Q 33 [(0, vr 139), (1, vi (m : Int)), (2, vi (s.2.1 : Int)), (3, vi ((flW s.2.2 s.2.1).length : Int)), (4, vi (p : Int)), (5, vi 1)] [] (TT Ls tl) J L (RR tl) := by
    intro k
    induction k with
    | zero =>
      intro p s m J hpk hrun hm hb f hT
      have e23 : J 139 23 = (len : Int) := by rw [f 139 (by decide)]; exact p1
      refine r_iload d_X8_readTold_33 rfl ?_
      refine r_aload_n d_X8_readTold_35 rfl ?_
      refine r_geti d_X8_readTold_36 f_X8_159 (tt_139 _ _) (by decide) (by decide) ?_
      rw [e23]
      refine r_icmp_ge d_X8_readTold_39 (by omega) (by omega) (fun c39 => ?_) (fun c39 => absurd c39 (by omega))
      exact CpL (t150 p s J ⟨hrun, by omega, Or.inl (by omega)⟩ f hT) (by repeat (first | exact trivial | refine ⟨rfl, ?_⟩))
    | succ k ih =>
      intro p s m J hpk hrun hm hb f hT
      have e23 : J 139 23 = (len : Int) := by rw [f 139 (by decide)]; exact p1
      obtain ⟨g1, g2⟩ := p3 p (by omega)
      have e157 : J 157 p = pg p := by rw [f 157 (by decide)]; exact g1
      have hTI := TIV_run p s hrun
      obtain ⟨v1, v2, v3⟩ := id hTI
      have hfl := flW_le (l := s.2.2) (w := s.2.1)
      obtain ⟨c, hc⟩ : ∃ c, c = pg p := ⟨_, rfl⟩
      rw [← hc] at e157 g2
      have hwi := x_within (g := g) (T := TT Ls tl) (I := J) (L := L) (R := RR tl) (a := c - 48) (lo := 0) (hi := 7) (by omega) (by omega) (by omega)
      have t109 : ¬ ((48 ≤ c ∧ c ≤ 55) ∧ s.1 (c - 48).toNat = false) → Cp g 1 m_X8_readTold 0 0 Q 109 [(0, vr 139), (1, vi (m : Int)), (2, vi (s.2.1 : Int)), (3, vi ((flW s.2.2 s.2.1).length : Int)), (4, vi (p : Int)), (5, vi 1), (6, vi c)] [] (TT Ls tl) J L (RR tl) := by
        intro hno
        by_cases q : c = 59 ∧ s.2.1 < 2
        · have hs : tstT s (pg p) = some (s.1, s.2.1 + 1, s.2.2) := by rw [← hc]; unfold tstT; rw [if_pos q]
          have en : (((flW s.2.2 (s.2.1 + 1)).length : Nat) : Int) = 0 := by
            rw [flW_none (fun x hx => by have := (v3 x hx).2; omega)]; rfl
          refine r_iload d_X8_readTold_109 rfl ?_
          refine r_bipush d_X8_readTold_111 (by decide) ?_
          refine r_icmp_ne d_X8_readTold_113 (by omega) (by omega) (fun c113 => absurd c113 (by omega)) (fun c113 => ?_)
          refine r_iload_n d_X8_readTold_116 rfl ?_
          refine r_iconst d_X8_readTold_117 ?_
          refine r_icmp_ge d_X8_readTold_118 (by omega) (by omega) (fun c118 => absurd c118 (by omega)) (fun c118 => ?_)
          refine r_iinc d_X8_readTold_121 rfl (by decide) ?_
          refine r_iconst d_X8_readTold_124 ?_
          refine r_istore_n d_X8_readTold_125 (by decide) ?_
          refine r_goto d_X8_readTold_126 ?_
          refine r_iload d_X8_readTold_132 rfl ?_
          refine r_iload d_X8_readTold_134 rfl ?_
          refine r_if_eq d_X8_readTold_136 (by omega) (fun c136 => absurd c136 (by decide)) (fun c136 => ?_)
          refine r_iconst d_X8_readTold_139 ?_
          refine r_goto d_X8_readTold_140 ?_
          refine r_iadd d_X8_readTold_144 ?_
          refine r_istore d_X8_readTold_145 (by decide) ?_
          refine r_goto d_X8_readTold_147 ?_
          exact CpL (ih (p + 1) (s.1, s.2.1 + 1, s.2.2) m J (by omega) (runT_suc hrun hs) hm hb f hT) (by repeat (first | exact trivial | refine ⟨rfl, ?_⟩ | refine ⟨by rw [en]; rfl, ?_⟩))
        · have hs : tstT s (pg p) = none := by rw [← hc]; unfold tstT; rw [if_neg q, if_neg hno]
          by_cases q1 : c = 59
          · skip
            refine r_iload d_X8_readTold_109 rfl ?_
            refine r_bipush d_X8_readTold_111 (by decide) ?_
            refine r_icmp_ne d_X8_readTold_113 (by omega) (by omega) (fun c113 => absurd c113 (by omega)) (fun c113 => ?_)
            refine r_iload_n d_X8_readTold_116 rfl ?_
            refine r_iconst d_X8_readTold_117 ?_
            refine r_icmp_ge d_X8_readTold_118 (by omega) (by omega) (fun c118 => ?_) (fun c118 => absurd c118 (by omega))
            refine r_iconst d_X8_readTold_129 ?_
            refine r_istore d_X8_readTold_130 (by decide) ?_
            refine r_iload d_X8_readTold_132 rfl ?_
            refine r_iload d_X8_readTold_134 rfl ?_
            refine r_if_eq d_X8_readTold_136 (by omega) (fun c136 => ?_) (fun c136 => absurd c136 (by decide))
            refine r_iconst d_X8_readTold_143 ?_
            refine r_iadd d_X8_readTold_144 ?_
            refine r_istore d_X8_readTold_145 (by decide) ?_
            refine r_goto d_X8_readTold_147 ?_
            refine r_iload d_X8_readTold_33 rfl ?_
            refine r_aload_n d_X8_readTold_35 rfl ?_
            refine r_geti d_X8_readTold_36 f_X8_159 (tt_139 _ _) (by decide) (by decide) ?_
            rw [e23]
            refine r_icmp_ge d_X8_readTold_39 (by omega) (by omega) (fun c39 => absurd c39 (by omega)) (fun c39 => ?_)
            refine r_iload d_X8_readTold_42 rfl ?_
            refine r_if_eq d_X8_readTold_44 (by omega) (fun c44 => ?_) (fun c44 => absurd c44 (by decide))
            exact CpL (t150 p s J ⟨hrun, by omega, Or.inr hs⟩ f hT) (by repeat (first | exact trivial | refine ⟨rfl, ?_⟩ | refine ⟨by rw [Int.add_zero]; rfl, ?_⟩))
          · skip
            refine r_iload d_X8_readTold_109 rfl ?_
            refine r_bipush d_X8_readTold_111 (by decide) ?_
            refine r_icmp_ne d_X8_readTold_113 (by omega) (by omega) (fun c113 => ?_) (fun c113 => absurd c113 (by omega))
            refine r_iconst d_X8_readTold_129 ?_
            refine r_istore d_X8_readTold_130 (by decide) ?_
            refine r_iload d_X8_readTold_132 rfl ?_
            refine r_iload d_X8_readTold_134 rfl ?_
            refine r_if_eq d_X8_readTold_136 (by omega) (fun c136 => ?_) (fun c136 => absurd c136 (by decide))
            refine r_iconst d_X8_readTold_143 ?_
            refine r_iadd d_X8_readTold_144 ?_
            refine r_istore d_X8_readTold_145 (by decide) ?_
            refine r_goto d_X8_readTold_147 ?_
            refine r_iload d_X8_readTold_33 rfl ?_
            refine r_aload_n d_X8_readTold_35 rfl ?_
            refine r_geti d_X8_readTold_36 f_X8_159 (tt_139 _ _) (by decide) (by decide) ?_
            rw [e23]
            refine r_icmp_ge d_X8_readTold_39 (by omega) (by omega) (fun c39 => absurd c39 (by omega)) (fun c39 => ?_)
            refine r_iload d_X8_readTold_42 rfl ?_
            refine r_if_eq d_X8_readTold_44 (by omega) (fun c44 => ?_) (fun c44 => absurd c44 (by decide))
            exact CpL (t150 p s J ⟨hrun, by omega, Or.inr hs⟩ f hT) (by repeat (first | exact trivial | refine ⟨rfl, ?_⟩ | refine ⟨by rw [Int.add_zero]; rfl, ?_⟩))
      by_cases q : 0 ≤ c - 48 ∧ c - 48 ≤ 7
      · rw [if_pos q] at hwi
        obtain ⟨d, hd⟩ : ∃ d : Nat, c - 48 = (d : Int) := ⟨(c - 48).toNat, by omega⟩
        have ed : (c - 48).toNat = d := by omega
        have hd8 : d < 8 := by omega
        rw [hd] at hwi
        have hbt := bit_tst (m := m) (r := d) (by omega) (by omega)
        rw [hb d hd8] at hbt
        cases hs1 : s.1 d with
        | true =>
          rw [hs1, if_pos rfl] at hbt
          refine r_iload d_X8_readTold_33 rfl ?_
          refine r_aload_n d_X8_readTold_35 rfl ?_
          refine r_geti d_X8_readTold_36 f_X8_159 (tt_139 _ _) (by decide) (by decide) ?_
          rw [e23]
          refine r_icmp_ge d_X8_readTold_39 (by omega) (by omega) (fun c39 => absurd c39 (by omega)) (fun c39 => ?_)
          refine r_iload d_X8_readTold_42 rfl ?_
          refine r_if_eq d_X8_readTold_44 (by omega) (fun c44 => absurd c44 (by decide)) (fun c44 => ?_)
          refine r_aload_n d_X8_readTold_47 rfl ?_
          refine r_getr d_X8_readTold_48 f_X8_66 (tt_139 _ _) (by decide) rfl (rr_139_24 _) ?_
          refine r_iload d_X8_readTold_51 rfl ?_
          refine r_baldJ d_X8_readTold_53 (tt_157 _ _) rfl (by omega) (kk := ?_)
          rw [e157]
          refine r_istore d_X8_readTold_54 (by decide) ?_
          refine r_iload d_X8_readTold_56 rfl ?_
          refine r_bipush d_X8_readTold_58 (by decide) ?_
          refine r_isub d_X8_readTold_60 ?_
          rw [hd]
          refine r_istore d_X8_readTold_61 (by decide) ?_
          refine r_iload d_X8_readTold_63 rfl ?_
          refine r_iconst d_X8_readTold_65 ?_
          refine r_bipush d_X8_readTold_66 (by decide) ?_
          refine r_S3i d_X8_readTold_68 (w_X8_162 _ rfl) (hwi) (by decide) (Nat.le_of_ble_eq_true rfl) (fun z68 T68 I68 L68 R68 h68 => ?_)
          obtain ⟨rfl, rfl, rfl, rfl, rfl⟩ := h68
          refine r_if_eq d_X8_readTold_71 (by omega) (fun c71 => absurd c71 (by decide)) (fun c71 => ?_)
          refine r_iload_n d_X8_readTold_74 rfl ?_
          refine r_iload d_X8_readTold_75 rfl ?_
          refine r_ishr d_X8_readTold_77 ?_
          refine r_iconst d_X8_readTold_78 ?_
          refine r_iand d_X8_readTold_79 ?_
          rw [hbt]
          refine r_if_ne d_X8_readTold_80 (by omega) (fun c80 => ?_) (fun c80 => absurd c80 (by decide))
          exact CpL (t109 (fun h => by rw [ed, hs1] at h; exact absurd h.2 (by decide))) (by repeat (first | exact trivial | refine ⟨rfl, ?_⟩))
        | false =>
          rw [hs1, if_neg (by decide)] at hbt
          have hs : tstT s (pg p) = some (addS s.1 d, s.2.1, s.2.2 ++ [(d, s.2.1)]) := by
            rw [← hc]; unfold tstT; rw [if_neg (by omega), ed, if_pos ⟨by omega, hs1⟩]
          have hT2 := TIV_step hTI hs
          have hl2 : s.2.2.length < 8 := by
            have h2 := hT2.2.1
            have h3 : (s.2.2 ++ [(d, s.2.1)]).length + ucn (addS s.1 d) 8 0 = 8 := h2
            rw [List.length_append] at h3
            have h4 : s.2.2.length + 1 + ucn (addS s.1 d) 8 0 = 8 := h3
            omega
          have em : sor (m : Int) (sshl 1 (d : Int)) = ((m ||| 2 ^ d : Nat) : Int) := by
            have h2 : 2 ^ d < 2 ^ 8 := Nat.pow_lt_pow_right (by omega) hd8
            rw [sshl_one d (by omega), sor_nat (by omega) (by omega)]
          have en : (((flW (s.2.2 ++ [(d, s.2.1)]) s.2.1).length : Nat) : Int) = ((flW s.2.2 s.2.1).length : Int) + 1 := by
            rw [flW_snoc, if_pos rfl, List.length_append]
            show ((_ + 1 : Nat) : Int) = _
            omega
          refine r_iload d_X8_readTold_33 rfl ?_
          refine r_aload_n d_X8_readTold_35 rfl ?_
          refine r_geti d_X8_readTold_36 f_X8_159 (tt_139 _ _) (by decide) (by decide) ?_
          rw [e23]
          refine r_icmp_ge d_X8_readTold_39 (by omega) (by omega) (fun c39 => absurd c39 (by omega)) (fun c39 => ?_)
          refine r_iload d_X8_readTold_42 rfl ?_
          refine r_if_eq d_X8_readTold_44 (by omega) (fun c44 => absurd c44 (by decide)) (fun c44 => ?_)
          refine r_aload_n d_X8_readTold_47 rfl ?_
          refine r_getr d_X8_readTold_48 f_X8_66 (tt_139 _ _) (by decide) rfl (rr_139_24 _) ?_
          refine r_iload d_X8_readTold_51 rfl ?_
          refine r_baldJ d_X8_readTold_53 (tt_157 _ _) rfl (by omega) (kk := ?_)
          rw [e157]
          refine r_istore d_X8_readTold_54 (by decide) ?_
          refine r_iload d_X8_readTold_56 rfl ?_
          refine r_bipush d_X8_readTold_58 (by decide) ?_
          refine r_isub d_X8_readTold_60 ?_
          rw [hd]
          refine r_istore d_X8_readTold_61 (by decide) ?_
          refine r_iload d_X8_readTold_63 rfl ?_
          refine r_iconst d_X8_readTold_65 ?_
          refine r_bipush d_X8_readTold_66 (by decide) ?_
          refine r_S3i d_X8_readTold_68 (w_X8_162 _ rfl) (hwi) (by decide) (Nat.le_of_ble_eq_true rfl) (fun z68 T68 I68 L68 R68 h68 => ?_)
          obtain ⟨rfl, rfl, rfl, rfl, rfl⟩ := h68
          refine r_if_eq d_X8_readTold_71 (by omega) (fun c71 => absurd c71 (by decide)) (fun c71 => ?_)
          refine r_iload_n d_X8_readTold_74 rfl ?_
          refine r_iload d_X8_readTold_75 rfl ?_
          refine r_ishr d_X8_readTold_77 ?_
          refine r_iconst d_X8_readTold_78 ?_
          refine r_iand d_X8_readTold_79 ?_
          rw [hbt]
          refine r_if_ne d_X8_readTold_80 (by omega) (fun c80 => absurd c80 (by decide)) (fun c80 => ?_)
          refine r_iload_n d_X8_readTold_83 rfl ?_
          refine r_iconst d_X8_readTold_84 ?_
          refine r_iload d_X8_readTold_85 rfl ?_
          refine r_ishl d_X8_readTold_87 ?_
          refine r_ior d_X8_readTold_88 ?_
          rw [em]
          refine r_istore_n d_X8_readTold_89 (by decide) ?_
          refine r_aload_n d_X8_readTold_90 rfl ?_
          refine r_getr d_X8_readTold_91 f_X8_112 (tt_139 _ _) (by decide) rfl (rr_139_52 _) ?_
          refine r_bipush d_X8_readTold_94 (by decide) ?_
          refine r_iload_n d_X8_readTold_96 rfl ?_
          refine r_imul d_X8_readTold_97 ?_
          refine r_iload_n d_X8_readTold_98 rfl ?_
          refine r_iadd d_X8_readTold_99 ?_
          refine r_iload d_X8_readTold_100 rfl ?_
          refine r_iastJ (j := 8 * s.2.1 + (flW s.2.2 s.2.1).length) d_X8_readTold_102 (tt_172 _ _) (by omega) (by omega) (by omega) (kk := ?_)
          refine r_iinc d_X8_readTold_103 rfl (by decide) ?_
          refine r_goto d_X8_readTold_106 ?_
          refine r_iload d_X8_readTold_132 rfl ?_
          refine r_iload d_X8_readTold_134 rfl ?_
          refine r_if_eq d_X8_readTold_136 (by omega) (fun c136 => absurd c136 (by decide)) (fun c136 => ?_)
          refine r_iconst d_X8_readTold_139 ?_
          refine r_goto d_X8_readTold_140 ?_
          refine r_iadd d_X8_readTold_144 ?_
          refine r_istore d_X8_readTold_145 (by decide) ?_
          refine r_goto d_X8_readTold_147 ?_
          refine CpL (ih (p + 1) (addS s.1 d, s.2.1, s.2.2 ++ [(d, s.2.1)]) (m ||| 2 ^ d) _ (by omega) (runT_suc hrun hs) (or_lt (n := 8) hm hd8) (fun r hr => ?_) (fun a ha => by rw [up2_ne _ _ ha]; exact f a ha) (TLM_snoc (by omega) hT (by omega) (up2_at _ _ _ _) (fun j hj => up2_nj _ _ hj))) (by repeat (first | exact trivial | refine ⟨rfl, ?_⟩ | refine ⟨by rw [en]; rfl, ?_⟩))
          rw [or_bit, hb r hr]
          show (s.1 r || decide (d = r)) = (s.1 r || decide (r = d))
          by_cases e : d = r
          · rw [decide_eq_true e, decide_eq_true e.symm]
          · rw [decide_eq_false e, decide_eq_false (fun h => e h.symm)]
      · rw [if_neg q] at hwi
        refine r_iload d_X8_readTold_33 rfl ?_
        refine r_aload_n d_X8_readTold_35 rfl ?_
        refine r_geti d_X8_readTold_36 f_X8_159 (tt_139 _ _) (by decide) (by decide) ?_
        rw [e23]
        refine r_icmp_ge d_X8_readTold_39 (by omega) (by omega) (fun c39 => absurd c39 (by omega)) (fun c39 => ?_)
        refine r_iload d_X8_readTold_42 rfl ?_
        refine r_if_eq d_X8_readTold_44 (by omega) (fun c44 => absurd c44 (by decide)) (fun c44 => ?_)
        refine r_aload_n d_X8_readTold_47 rfl ?_
        refine r_getr d_X8_readTold_48 f_X8_66 (tt_139 _ _) (by decide) rfl (rr_139_24 _) ?_
        refine r_iload d_X8_readTold_51 rfl ?_
        refine r_baldJ d_X8_readTold_53 (tt_157 _ _) rfl (by omega) (kk := ?_)
        rw [e157]
        refine r_istore d_X8_readTold_54 (by decide) ?_
        refine r_iload d_X8_readTold_56 rfl ?_
        refine r_bipush d_X8_readTold_58 (by decide) ?_
        refine r_isub d_X8_readTold_60 ?_
        refine r_istore d_X8_readTold_61 (by decide) ?_
        refine r_iload d_X8_readTold_63 rfl ?_
        refine r_iconst d_X8_readTold_65 ?_
        refine r_bipush d_X8_readTold_66 (by decide) ?_
        refine r_S3i d_X8_readTold_68 (w_X8_162 _ rfl) (hwi) (by decide) (Nat.le_of_ble_eq_true rfl) (fun z68 T68 I68 L68 R68 h68 => ?_)
        obtain ⟨rfl, rfl, rfl, rfl, rfl⟩ := h68
        refine r_if_eq d_X8_readTold_71 (by omega) (fun c71 => ?_) (fun c71 => absurd c71 (by decide))
        exact CpL (t109 (fun h => q (by omega))) (by repeat (first | exact trivial | refine ⟨rfl, ?_⟩))
  have ini : ∀ (k b : Nat) (J : sI), b + k = 24 → (∀ a, a ≠ 172 → J a = I a) → (∀ j, j < b → J 172 j = -1) → Cp g 1 m_X8_readTold 0 0 Q 2 [(0, vr 139), (1, vi (b : Int))] [] (TT Ls tl) J L (RR tl) := by
    intro k
    induction k with
    | zero =>
      intro b J hbk f hj
      refine r_iload_n d_X8_readTold_2 rfl ?_
      refine r_bipush d_X8_readTold_3 (by decide) ?_
      refine r_icmp_ge d_X8_readTold_5 (by omega) (by omega) (fun c5 => ?_) (fun c5 => absurd c5 (by omega))
      refine r_iconst d_X8_readTold_21 ?_
      refine r_istore_n d_X8_readTold_22 (by decide) ?_
      refine r_iconst d_X8_readTold_23 ?_
      refine r_istore_n d_X8_readTold_24 (by decide) ?_
      refine r_iconst d_X8_readTold_25 ?_
      refine r_istore_n d_X8_readTold_26 (by decide) ?_
      refine r_iconst d_X8_readTold_27 ?_
      refine r_istore d_X8_readTold_28 (by decide) ?_
      refine r_iconst d_X8_readTold_30 ?_
      refine r_istore d_X8_readTold_31 (by decide) ?_
      exact CpL (loop len 0 (fun _ => false, 0, []) 0 J (by omega) rfl (by omega) (fun r _ => by rw [Nat.zero_testBit]) f (TLM_nil (fun j h => hj j (by omega)))) (by repeat (first | exact trivial | refine ⟨rfl, ?_⟩))
    | succ k ih =>
      intro b J hbk f hj
      refine r_iload_n d_X8_readTold_2 rfl ?_
      refine r_bipush d_X8_readTold_3 (by decide) ?_
      refine r_icmp_ge d_X8_readTold_5 (by omega) (by omega) (fun c5 => absurd c5 (by omega)) (fun c5 => ?_)
      refine r_aload_n d_X8_readTold_8 rfl ?_
      refine r_getr d_X8_readTold_9 f_X8_112 (tt_139 _ _) (by decide) rfl (rr_139_52 _) ?_
      refine r_iload_n d_X8_readTold_12 rfl ?_
      refine r_iconst d_X8_readTold_13 ?_
      refine r_iastJ d_X8_readTold_14 (tt_172 _ _) (by omega) rfl (by omega) (kk := ?_)
      refine r_iinc d_X8_readTold_15 rfl (by decide) ?_
      refine r_goto d_X8_readTold_18 ?_
      refine CpL (ih (b + 1) _ (by omega) (fun a ha => by rw [up2_ne _ _ ha]; exact f a ha) (fun j hj2 => ?_)) (by repeat (first | exact trivial | refine ⟨rfl, ?_⟩))
      by_cases e : j = b
      · rw [e, up2_at]
      · rw [up2_nj _ _ e]; exact hj j (by omega)
  refine r_iconst d_X8_readTold_0 ?_
  refine r_istore_n d_X8_readTold_1 (by decide) ?_
  exact CpL (ini 24 0 I (by omega) (fun _ _ => rfl) (fun j h => absurd h (by omega))) (by repeat (first | exact trivial | refine ⟨rfl, ?_⟩))
theorem x_fault (hP : PGM pg len I) (h0 : iniA D0) (h4 : ∀ i, D0 4 i = -1) (hrow : ROW D0 I) {sort : Int} (hs : i32 sort) : Mc g 6 m_X8_fault 0 0 [vr 139, vi sort] (TT Ls tl) I L (RR tl) (qI fun z T' I' L' R' => T' = TT Ls tl ∧ R' = RR tl ∧ L' = L ∧ (∀ a, a ≠ 139 → (a < 159 ∨ 173 ≤ a) → I' a = I a) ∧ (∀ k, (k < 30 ∨ (35 < k ∧ k < 49) ∨ 51 < k) → I' 139 k = I 139 k) ∧ aFault pg len D0 sort z) := by
  refine Mc_of rfl (Nat.le_of_ble_eq_true rfl) ?_
  have hs2 : -2147483648 ≤ sort ∧ sort ≤ 2147483647 := hs
  have hwi := x_within (g := g) (T := TT Ls tl) (I := I) (L := L) (R := RR tl) (a := sort) (lo := 0) (hi := 1) (by omega) (by omega) (by omega)
  by_cases k0 : sort = 0
  · rw [if_pos (by omega)] at hwi
    refine r_iload_n d_X8_fault_0 rfl ?_
    refine r_iconst d_X8_fault_1 ?_
    refine r_iconst d_X8_fault_2 ?_
    refine r_S3i d_X8_fault_3 (w_X8_162 _ rfl) (hwi) (by decide) (Nat.le_of_ble_eq_true rfl) (fun z3 T3 I3 L3 R3 h3 => ?_)
    obtain ⟨rfl, rfl, rfl, rfl, rfl⟩ := h3
    refine r_if_ne d_X8_fault_6 (by omega) (fun c6 => ?_) (fun c6 => absurd c6 (by decide))
    refine r_iload_n d_X8_fault_12 rfl ?_
    refine r_if_ne d_X8_fault_13 (by omega) (fun c13 => absurd c13 (by omega)) (fun c13 => ?_)
    refine r_aload_n d_X8_fault_16 rfl ?_
    refine r_V0v d_X8_fault_17 (w_X8_226 _ rfl) (tt_139 _ _) rfl rfl (x_readHouse hP h0 h4 hrow) (by decide) (Nat.le_of_ble_eq_true rfl) (fun T17 I17 L17 R17 h17 => ?_)
    obtain ⟨rfl, rfl, rfl, f, p, D, y1, y2, y3, y4⟩ := h17
    refine r_goto d_X8_fault_20 ?_
    refine r_aload_n d_X8_fault_27 rfl ?_
    refine r_geti d_X8_fault_28 f_X8_219 (tt_139 _ _) (by decide) (by decide) ?_
    refine r_iret d_X8_fault_31 rfl ?_
    exact ⟨_, rfl, rfl, rfl, rfl, fun a h1 h2 => f.1 a h1 (by omega), f.2, fun h => absurd (Or.inl k0) h, fun _ => ⟨p, D, y1, y2⟩, fun h => absurd h (by omega)⟩
  · by_cases k1 : sort = 1
    · rw [if_pos (by omega)] at hwi
      refine r_iload_n d_X8_fault_0 rfl ?_
      refine r_iconst d_X8_fault_1 ?_
      refine r_iconst d_X8_fault_2 ?_
      refine r_S3i d_X8_fault_3 (w_X8_162 _ rfl) (hwi) (by decide) (Nat.le_of_ble_eq_true rfl) (fun z3 T3 I3 L3 R3 h3 => ?_)
      obtain ⟨rfl, rfl, rfl, rfl, rfl⟩ := h3
      refine r_if_ne d_X8_fault_6 (by omega) (fun c6 => ?_) (fun c6 => absurd c6 (by decide))
      refine r_iload_n d_X8_fault_12 rfl ?_
      refine r_if_ne d_X8_fault_13 (by omega) (fun c13 => ?_) (fun c13 => absurd c13 (by omega))
      refine r_aload_n d_X8_fault_23 rfl ?_
      refine r_V0v d_X8_fault_24 (w_X8_229 _ rfl) (tt_139 _ _) rfl rfl (x_readTold hP) (by decide) (Nat.le_of_ble_eq_true rfl) (fun T24 I24 L24 R24 h24 => ?_)
      obtain ⟨rfl, rfl, rfl, f, p, s, y1, y2, y3, y4⟩ := h24
      refine r_aload_n d_X8_fault_27 rfl ?_
      refine r_geti d_X8_fault_28 f_X8_219 (tt_139 _ _) (by decide) (by decide) ?_
      refine r_iret d_X8_fault_31 rfl ?_
      exact ⟨_, rfl, rfl, rfl, rfl, fun a h1 h2 => f.1 a h1 (by omega), fun k hk => f.2 k (by omega) (by omega), fun h => absurd (Or.inr k1) h, fun h => absurd h k0, fun _ => ⟨p, s, y1, y2⟩⟩
    · rw [if_neg (by omega)] at hwi
      refine r_iload_n d_X8_fault_0 rfl ?_
      refine r_iconst d_X8_fault_1 ?_
      refine r_iconst d_X8_fault_2 ?_
      refine r_S3i d_X8_fault_3 (w_X8_162 _ rfl) (hwi) (by decide) (Nat.le_of_ble_eq_true rfl) (fun z3 T3 I3 L3 R3 h3 => ?_)
      obtain ⟨rfl, rfl, rfl, rfl, rfl⟩ := h3
      refine r_if_ne d_X8_fault_6 (by omega) (fun c6 => absurd c6 (by decide)) (fun c6 => ?_)
      refine r_bipush d_X8_fault_9 (by decide) ?_
      refine r_iret d_X8_fault_11 rfl ?_
      exact ⟨_, rfl, rfl, rfl, rfl, fun _ _ _ => rfl, fun _ _ => rfl, fun _ => rfl, fun h => absurd h k0, fun h => absurd h k1⟩
theorem MS_rule {n : Nat} {kd nn : Int} {tr tw : Nat → Nat} {I' : sI} (h : MS σ ℓ nr nw ng tl ukd unn utr utw I) (hl : tl.length < 8) (f : ∀ a, ((140 ≤ a ∧ a < 154) ∨ a = 173 ∨ a = 183) → I' a = I a) (fk : ∀ k, (k = 0 ∨ k = 8 ∨ k = 12 ∨ k = 17) → I' 139 k = I 139 k) (f19 : I' 139 19 = (tl.length : Int) + 1) (fr : ∀ q, q < tl.length → I' 154 q = I 154 q ∧ I' 155 q = I 155 q ∧ ∀ j, j < 24 → I' 156 (24 * q + j) = I 156 (24 * q + j)) (e0 : I' 154 tl.length = kd) (e1 : I' 155 tl.length = nn) (hk : 0 ≤ kd ∧ kd ≤ 6) (hnn : 0 ≤ nn ∧ nn ≤ 1) (ht : kd = 6 → ∃ l, SRT l ∧ TLM l (fun j => I' 156 (24 * tl.length + j)) ∧ (∀ x ∈ l, x.1 < 8) ∧ l.length ≤ 8 ∧ l.length = n ∧ ∀ i, i < l.length → tr i = (l.getD i (0, 0)).1 ∧ tw i = (l.getD i (0, 0)).2) : MS σ ℓ nr nw ng (tl ++ [n]) (upN ukd tl.length kd) (upN unn tl.length nn) (upN utr tl.length tr) (upN utw tl.length tw) I' := by
  obtain ⟨hV, h3, hcan, hA, hX, hl0, hw, hN, hR⟩ := h
  refine ⟨hV, h3, hcan, hA, MX_fr hX (fun a h1 h2 => f a (by omega)) (fk 0 (by omega)) (fk 12 (by omega)), by rw [fk 17 (by omega)]; exact hl0, by rw [fk 8 (by omega)]; exact hw, KNM_fr hN (f 173 (by omega)) (f 183 (by omega)), ?_⟩
  obtain ⟨r1, r2, r3⟩ := hR
  refine ⟨by rw [f19, List.length_append]; show _ = ((tl.length + 1 : Nat) : Int); omega, by rw [List.length_append]; show tl.length + 1 ≤ 8; omega, fun q hq => ?_⟩
  rw [List.length_append] at hq
  have hq2 : q < tl.length + 1 := hq
  by_cases e : q = tl.length
  · subst e
    rw [upN_at, upN_at, upN_at, upN_at]
    have eg : (tl ++ [n]).getD tl.length 0 = n := by rw [List.getD_eq_getElem?_getD, List.getElem?_append_right (Nat.le_refl _), Nat.sub_self]; rfl
    rw [eg]
    exact ⟨e0, e1, hk, hnn, ht⟩
  · rw [upN_ne e, upN_ne e, upN_ne e, upN_ne e]
    have hlt : q < tl.length := by omega
    have eg : (tl ++ [n]).getD q 0 = tl.getD q 0 := by rw [List.getD_eq_getElem?_getD, List.getD_eq_getElem?_getD, List.getElem?_append_left hlt]
    rw [eg]
    obtain ⟨a1, a2, a3⟩ := fr q hlt
    obtain ⟨u1, u2, u3, u4, u5⟩ := r3 q hlt
    refine ⟨by rw [a1]; exact u1, by rw [a2]; exact u2, u3, u4, fun h6 => ?_⟩
    obtain ⟨l, l1, l2, l3⟩ := u5 h6
    exact ⟨l, l1, TLM_congr l2 (fun j hj => a3 j hj), l3⟩
theorem x_tell_no (hM : MS σ ℓ nr nw ng tl ukd unn utr utw I) {p : Nat} {s : tSt} (hP : PGM pg len I) (hst : stpT pg len p s) (hno : ¬ (0 < len ∧ p = len ∧ tl.length < 8)) : Mc g 2 m_X8_tell 0 0 [vr 139] (TT Ls tl') I L (RR tl') (qI fun z T' I' L' R' => T' = TT Ls tl' ∧ R' = RR tl' ∧ L' = L ∧ FT I I' ∧ z = if 0 < len ∧ p = len then -104 else -103) := by
  refine Mc_of rfl (Nat.le_of_ble_eq_true rfl) ?_
  have hR := hM.2.2.2.2.2.2.2.2
  have h8 := hR.2.1
  by_cases c : 0 < len ∧ p = len
  · rw [if_pos c]
    refine r_aload_n d_X8_tell_0 rfl ?_
    refine r_V0v d_X8_tell_1 (w_X8_229 _ rfl) (tt_139 _ _) rfl rfl (x_readTold hP) (by decide) (Nat.le_of_ble_eq_true rfl) (fun T1 I1 L1 R1 h1 => ?_)
    obtain ⟨rfl, rfl, rfl, f, p', s', y1, y2, y3, y4⟩ := h1
    obtain ⟨ep, es⟩ := stpT_uq y1 hst
    subst ep
    subst es
    rw [if_pos c] at y3
    have e19 : I1 139 19 = (tl.length : Int) := by rw [f.2 19 (by decide) (by decide)]; exact hR.1
    refine r_aload_n d_X8_tell_4 rfl ?_
    refine r_geti d_X8_tell_5 f_X8_222 (tt_139 _ _) (by decide) (by decide) ?_
    rw [y3]
    refine r_if_ne d_X8_tell_8 (by omega) (fun c8 => ?_) (fun c8 => absurd c8 (by decide))
    refine r_aload_n d_X8_tell_14 rfl ?_
    refine r_geti d_X8_tell_15 f_X8_247 (tt_139 _ _) (by decide) (by decide) ?_
    refine r_bipush d_X8_tell_18 (by decide) ?_
    rw [e19]
    refine r_icmp_ne d_X8_tell_20 (by omega) (by omega) (fun c20 => absurd c20 (by omega)) (fun c20 => ?_)
    refine r_bipush d_X8_tell_23 (by decide) ?_
    refine r_iret d_X8_tell_25 rfl ?_
    exact ⟨_, rfl, rfl, rfl, rfl, f, rfl⟩
  · rw [if_neg c]
    refine r_aload_n d_X8_tell_0 rfl ?_
    refine r_V0v d_X8_tell_1 (w_X8_229 _ rfl) (tt_139 _ _) rfl rfl (x_readTold hP) (by decide) (Nat.le_of_ble_eq_true rfl) (fun T1 I1 L1 R1 h1 => ?_)
    obtain ⟨rfl, rfl, rfl, f, p', s', y1, y2, y3, y4⟩ := h1
    obtain ⟨ep, es⟩ := stpT_uq y1 hst
    subst ep
    subst es
    rw [if_neg c] at y3
    refine r_aload_n d_X8_tell_4 rfl ?_
    refine r_geti d_X8_tell_5 f_X8_222 (tt_139 _ _) (by decide) (by decide) ?_
    rw [y3]
    refine r_if_ne d_X8_tell_8 (by omega) (fun c8 => absurd c8 (by decide)) (fun c8 => ?_)
    refine r_bipush d_X8_tell_11 (by decide) ?_
    refine r_iret d_X8_tell_13 rfl ?_
    exact ⟨_, rfl, rfl, rfl, rfl, f, rfl⟩
theorem x_tell (hM : MS σ ℓ nr nw ng tl ukd unn utr utw I) {n : Nat} {s : tSt} (hP : PGM pg len I) (hst : stpT pg len len s) (h0 : 0 < len) (c8 : tl.length < 8) (hn : n = s.2.2.length) : Mc g 2 m_X8_tell 0 0 [vr 139] (TT Ls tl') I L (RR tl') (qI fun z T' I' L' R' => T' = TT Ls tl' ∧ R' = RR tl' ∧ L' = L ∧ z = (tl.length : Int) ∧ MS σ ℓ nr nw ng (tl ++ [n]) (upN ukd tl.length 6) (upN unn tl.length 0) (upN utr tl.length (fun i => (s.2.2.getD i (0, 0)).1)) (upN utw tl.length (fun i => (s.2.2.getD i (0, 0)).2)) I' ∧ I' 139 23 = 0 ∧ (∀ a, a ≠ 139 → a ≠ 154 → a ≠ 155 → a ≠ 156 → a ≠ 172 → I' a = I a) ∧ (∀ k, (k = 18 ∨ k = 25 ∨ k = 26 ∨ k = 27 ∨ k = 28) → I' 139 k = I 139 k)) := by
  refine Mc_of rfl (Nat.le_of_ble_eq_true rfl) ?_
  have hR := hM.2.2.2.2.2.2.2.2
  obtain ⟨Q, hQ⟩ : ∃ Q : sQ, Q = (qI fun z T' I' L' R' => T' = TT Ls tl' ∧ R' = RR tl' ∧ L' = L ∧ z = (tl.length : Int) ∧ MS σ ℓ nr nw ng (tl ++ [n]) (upN ukd tl.length 6) (upN unn tl.length 0) (upN utr tl.length (fun i => (s.2.2.getD i (0, 0)).1)) (upN utw tl.length (fun i => (s.2.2.getD i (0, 0)).2)) I' ∧ I' 139 23 = 0 ∧ (∀ a, a ≠ 139 → a ≠ 154 → a ≠ 155 → a ≠ 156 → a ≠ 172 → I' a = I a) ∧ (∀ k, (k = 18 ∨ k = 25 ∨ k = 26 ∨ k = 27 ∨ k = 28) → I' 139 k = I 139 k)) := ⟨_, rfl⟩
  rw [← hQ]
  have hTI := TIV_run len s hst.1
  obtain ⟨v1, v2, v3⟩ := id hTI
  have loop : ∀ J : sI, FT I J → TLM s.2.2 (J 172) → ∀ (k b : Nat) (K : sI), b + k = 24 → (∀ a, a ≠ 156 → K a = J a) → (∀ q j, q < tl.length → j < 24 → K 156 (24 * q + j) = J 156 (24 * q + j)) → (∀ j, j < b → K 156 (24 * tl.length + j) = J 172 j) → Cp g 2 m_X8_tell 0 0 Q 28 [(0, vr 139), (1, vi (b : Int))] [] (TT Ls tl') K L (RR tl') := by
    intro J fJ hT k
    have j19 : J 139 19 = (tl.length : Int) := by rw [fJ.2 19 (by decide) (by decide)]; exact hR.1
    induction k with
    | zero =>
      intro b K hbk f h1 h2
      have e19 : K 139 19 = (tl.length : Int) := by rw [f 139 (by decide)]; exact j19
      have e19b : ∀ v : Int, up2 K 154 tl.length v 139 19 = (tl.length : Int) := fun v => by rw [up2_ne _ _ (by decide)]; exact e19
      have e19c : ∀ v w : Int, up2 (up2 K 154 tl.length v) 155 tl.length w 139 19 = (tl.length : Int) := fun v w => by rw [up2_ne _ _ (by decide)]; exact e19b v
      obtain ⟨K2, hK2⟩ : ∃ K2 : sI, K2 = up2 (up2 (up2 (up2 K 154 tl.length 6) 155 tl.length 0) 139 19 ((tl.length : Int) + 1)) 139 23 0 := ⟨_, rfl⟩
      have g1 : ∀ a, a ≠ 139 → a ≠ 154 → a ≠ 155 → K2 a = K a := fun a q1 q2 q3 => by rw [hK2, up2_ne _ _ q1, up2_ne _ _ q1, up2_ne _ _ q3, up2_ne _ _ q2]
      have g2 : ∀ k, k ≠ 19 → k ≠ 23 → K2 139 k = K 139 k := fun k q1 q2 => by rw [hK2, up2_nj _ _ q2, up2_nj _ _ q1, up2_ne _ _ (by decide), up2_ne _ _ (by decide)]
      have g3 : K2 139 19 = (tl.length : Int) + 1 := by rw [hK2, up2_nj _ _ (by decide), up2_at]
      have g4 : K2 139 23 = 0 := by rw [hK2, up2_at]
      have hMS : MS σ ℓ nr nw ng (tl ++ [n]) (upN ukd tl.length 6) (upN unn tl.length 0) (upN utr tl.length (fun i => (s.2.2.getD i (0, 0)).1)) (upN utw tl.length (fun i => (s.2.2.getD i (0, 0)).2)) K2 := by
        refine MS_rule hM c8 (fun a ha => ?_) (fun k hk => ?_) g3 (fun q hq => ⟨?_, ?_, fun j hj => ?_⟩) ?_ ?_ (by omega) (by omega) (fun _ => ⟨s.2.2, SRT_run len s hst.1, ?_, fun x hx => (v3 x hx).1, by omega, hn.symm, fun i hi => ⟨rfl, rfl⟩⟩)
        · rw [g1 a (by omega) (by omega) (by omega), f a (by omega), fJ.1 a (by omega) (by omega)]
        · rw [g2 k (by omega) (by omega), f 139 (by decide), fJ.2 k (by omega) (by omega)]
        · rw [hK2, up2_ne _ _ (by decide), up2_ne _ _ (by decide), up2_ne _ _ (by decide), up2_nj _ _ (by omega), f 154 (by decide), fJ.1 154 (by decide) (by decide)]
        · rw [hK2, up2_ne _ _ (by decide), up2_ne _ _ (by decide), up2_nj _ _ (by omega), up2_ne _ _ (by decide), f 155 (by decide), fJ.1 155 (by decide) (by decide)]
        · rw [g1 156 (by decide) (by decide) (by decide), h1 q j hq hj, fJ.1 156 (by decide) (by decide)]
        · rw [hK2, up2_ne _ _ (by decide), up2_ne _ _ (by decide), up2_ne _ _ (by decide), up2_at]
        · rw [hK2, up2_ne _ _ (by decide), up2_ne _ _ (by decide), up2_at]
        · refine TLM_congr hT (fun j hj => ?_)
          show K2 156 (24 * tl.length + j) = _
          rw [g1 156 (by decide) (by decide) (by decide), h2 j (by omega)]
      refine r_iload_n d_X8_tell_28 rfl ?_
      refine r_bipush d_X8_tell_29 (by decide) ?_
      refine r_icmp_ge d_X8_tell_31 (by omega) (by omega) (fun c31 => ?_) (fun c31 => absurd c31 (by omega))
      refine r_aload_n d_X8_tell_60 rfl ?_
      refine r_getr d_X8_tell_61 f_X8_57 (tt_139 _ _) (by decide) rfl (rr_139_20 _) ?_
      refine r_aload_n d_X8_tell_64 rfl ?_
      refine r_geti d_X8_tell_65 f_X8_247 (tt_139 _ _) (by decide) (by decide) ?_
      rw [e19]
      refine r_bipush d_X8_tell_68 (by decide) ?_
      refine r_iastJ (j := tl.length) d_X8_tell_70 (tt_154 _ _) (by omega) (by omega) (by omega) (kk := ?_)
      refine r_aload_n d_X8_tell_71 rfl ?_
      refine r_getr d_X8_tell_72 f_X8_60 (tt_139 _ _) (by decide) rfl (rr_139_21 _) ?_
      refine r_aload_n d_X8_tell_75 rfl ?_
      refine r_geti d_X8_tell_76 f_X8_247 (tt_139 _ _) (by decide) (by decide) ?_
      rw [e19b]
      refine r_iconst d_X8_tell_79 ?_
      refine r_iastJ (j := tl.length) d_X8_tell_80 (tt_155 _ _) (by omega) (by omega) (by omega) (kk := ?_)
      refine r_aload_n d_X8_tell_81 rfl ?_
      refine r_dup d_X8_tell_82 rfl ?_
      refine r_geti d_X8_tell_83 f_X8_247 (tt_139 _ _) (by decide) (by decide) ?_
      rw [e19c]
      refine r_iconst d_X8_tell_86 ?_
      refine r_iadd d_X8_tell_87 ?_
      refine r_puti d_X8_tell_88 f_X8_247 (tt_139 _ _) (by decide) (Or.inl rfl) ?_
      refine r_aload_n d_X8_tell_91 rfl ?_
      refine r_iconst d_X8_tell_92 ?_
      refine r_puti d_X8_tell_93 f_X8_159 (tt_139 _ _) (by decide) (Or.inl rfl) ?_
      rw [← hK2]
      refine r_aload_n d_X8_tell_96 rfl ?_
      refine r_geti d_X8_tell_97 f_X8_247 (tt_139 _ _) (by decide) (by decide) ?_
      rw [g3]
      refine r_iconst d_X8_tell_100 ?_
      refine r_isub d_X8_tell_101 ?_
      refine r_iret d_X8_tell_102 rfl ?_
      rw [hQ]
      refine ⟨_, rfl, rfl, rfl, rfl, by omega, hMS, g4, fun a q1 q2 q3 q4 q5 => ?_, fun k hk => ?_⟩
      · rw [g1 a q1 q2 q3, f a q4, fJ.1 a q1 q5]
      · rw [g2 k (by omega) (by omega), f 139 (by decide), fJ.2 k (by omega) (by omega)]
    | succ k ih =>
      intro b K hbk f h1 h2
      have e19 : K 139 19 = (tl.length : Int) := by rw [f 139 (by decide)]; exact j19
      have e172 : K 172 b = J 172 b := by rw [f 172 (by decide)]
      refine r_iload_n d_X8_tell_28 rfl ?_
      refine r_bipush d_X8_tell_29 (by decide) ?_
      refine r_icmp_ge d_X8_tell_31 (by omega) (by omega) (fun c31 => absurd c31 (by omega)) (fun c31 => ?_)
      refine r_aload_n d_X8_tell_34 rfl ?_
      refine r_getr d_X8_tell_35 f_X8_63 (tt_139 _ _) (by decide) rfl (rr_139_22 _) ?_
      refine r_bipush d_X8_tell_38 (by decide) ?_
      refine r_aload_n d_X8_tell_40 rfl ?_
      refine r_geti d_X8_tell_41 f_X8_247 (tt_139 _ _) (by decide) (by decide) ?_
      rw [e19]
      refine r_imul d_X8_tell_44 ?_
      refine r_iload_n d_X8_tell_45 rfl ?_
      refine r_iadd d_X8_tell_46 ?_
      refine r_aload_n d_X8_tell_47 rfl ?_
      refine r_getr d_X8_tell_48 f_X8_112 (tt_139 _ _) (by decide) rfl (rr_139_52 _) ?_
      refine r_iload_n d_X8_tell_51 rfl ?_
      refine r_ialdJ d_X8_tell_52 (tt_172 _ _) rfl (by omega) (kk := ?_)
      rw [e172]
      refine r_iastJ (j := 24 * tl.length + b) d_X8_tell_53 (tt_156 _ _) (by omega) (by omega) (by omega) (kk := ?_)
      refine r_iinc d_X8_tell_54 rfl (by decide) ?_
      refine r_goto d_X8_tell_57 ?_
      refine CpL (ih (b + 1) _ (by omega) (fun a ha => by rw [up2_ne _ _ ha]; exact f a ha) (fun q j hq hj => by rw [up2_nj _ _ (by omega)]; exact h1 q j hq hj) (fun j hj => ?_)) (by repeat (first | exact trivial | refine ⟨rfl, ?_⟩))
      by_cases e : j = b
      · rw [e, up2_at]
      · rw [up2_nj _ _ (by omega)]; exact h2 j (by omega)
  refine r_aload_n d_X8_tell_0 rfl ?_
  refine r_V0v d_X8_tell_1 (w_X8_229 _ rfl) (tt_139 _ _) rfl rfl (x_readTold hP) (by decide) (Nat.le_of_ble_eq_true rfl) (fun T1 I1 L1 R1 h1 => ?_)
  obtain ⟨rfl, rfl, rfl, f, p', s', y1, y2, y3, y4⟩ := h1
  obtain ⟨ep, es⟩ := stpT_uq y1 hst
  rw [es] at y4
  rw [if_pos ⟨h0, ep⟩] at y3
  have e19 : I1 139 19 = (tl.length : Int) := by rw [f.2 19 (by decide) (by decide)]; exact hR.1
  refine r_aload_n d_X8_tell_4 rfl ?_
  refine r_geti d_X8_tell_5 f_X8_222 (tt_139 _ _) (by decide) (by decide) ?_
  rw [y3]
  refine r_if_ne d_X8_tell_8 (by omega) (fun c8 => ?_) (fun c8 => absurd c8 (by decide))
  refine r_aload_n d_X8_tell_14 rfl ?_
  refine r_geti d_X8_tell_15 f_X8_247 (tt_139 _ _) (by decide) (by decide) ?_
  refine r_bipush d_X8_tell_18 (by decide) ?_
  rw [e19]
  refine r_icmp_ne d_X8_tell_20 (by omega) (by omega) (fun c20 => ?_) (fun c20 => absurd c20 (by omega))
  refine r_iconst d_X8_tell_26 ?_
  refine r_istore_n d_X8_tell_27 (by decide) ?_
  exact CpL (loop I1 f y4 24 0 I1 (by omega) (fun _ _ => rfl) (fun _ _ _ _ => rfl) (fun j h => absurd h (by omega))) (by repeat (first | exact trivial | refine ⟨rfl, ?_⟩))
theorem x_rule_no (hM : MS σ ℓ nr nw ng tl ukd unn utr utw I) {kind n : Int} (hk : i32 kind) (hn : i32 n) (hz : rlF kind n tl.length ≠ 0) : Mc g 1 m_X8_rule 0 0 [vr 139, vi kind, vi n] (TT Ls tl') I L (RR tl') (qI fun z T' I' L' R' => z = rlF kind n tl.length ∧ same (TT Ls tl') I L (RR tl') T' I' L' R') := by
  refine Mc_of rfl (Nat.le_of_ble_eq_true rfl) ?_
  have hk2 : -2147483648 ≤ kind ∧ kind ≤ 2147483647 := hk
  have hn2 : -2147483648 ≤ n ∧ n ≤ 2147483647 := hn
  have hR := hM.2.2.2.2.2.2.2.2
  have h8 := hR.2.1
  have e19 := hR.1
  unfold rlF at hz ⊢
  have hwi := x_within (g := g) (T := TT Ls tl') (I := I) (L := L) (R := RR tl') (a := kind) (lo := 0) (hi := 5) (by omega) (by omega) (by omega)
  have hwj := fun hi : Int => fun (hh : 0 ≤ hi ∧ hi ≤ 1) => x_within (g := g) (T := TT Ls tl') (I := I) (L := L) (R := RR tl') (a := n) (lo := 0) (hi := hi) (by omega) (by omega) (by omega)
  by_cases c1 : 0 ≤ kind ∧ kind ≤ 5
  · rw [if_pos c1] at hwi
    by_cases c5 : kind = 5
    · rw [if_pos c5] at hz ⊢
      have hw := hwj 1 (by omega)
      by_cases c2 : 0 ≤ n ∧ n ≤ 1
      · rw [if_pos c2] at hw
        rw [if_pos ⟨c1, c2⟩] at hz ⊢
        have c3 : ¬ tl.length < 8 := fun h => hz (if_pos h)
        rw [if_neg c3]
        refine r_iload_n d_X8_rule_0 rfl ?_
        refine r_iconst d_X8_rule_1 ?_
        refine r_iconst d_X8_rule_2 ?_
        refine r_S3i d_X8_rule_3 (w_X8_162 _ rfl) (hwi) (by decide) (Nat.le_of_ble_eq_true rfl) (fun z3 T3 I3 L3 R3 h3 => ?_)
        obtain ⟨rfl, rfl, rfl, rfl, rfl⟩ := h3
        refine r_if_eq d_X8_rule_6 (by omega) (fun c6 => absurd c6 (by decide)) (fun c6 => ?_)
        refine r_iload_n d_X8_rule_9 rfl ?_
        refine r_iconst d_X8_rule_10 ?_
        refine r_iload_n d_X8_rule_11 rfl ?_
        refine r_iconst d_X8_rule_12 ?_
        refine r_icmp_ne d_X8_rule_13 (by omega) (by omega) (fun c13 => absurd c13 (by omega)) (fun c13 => ?_)
        refine r_iconst d_X8_rule_16 ?_
        refine r_goto d_X8_rule_17 ?_
        refine r_S3i d_X8_rule_21 (w_X8_162 _ rfl) (hw) (by decide) (Nat.le_of_ble_eq_true rfl) (fun z21 T21 I21 L21 R21 h21 => ?_)
        obtain ⟨rfl, rfl, rfl, rfl, rfl⟩ := h21
        refine r_if_ne d_X8_rule_24 (by omega) (fun c24 => ?_) (fun c24 => absurd c24 (by decide))
        refine r_aload_n d_X8_rule_30 rfl ?_
        refine r_geti d_X8_rule_31 f_X8_247 (tt_139 _ _) (by decide) (by decide) ?_
        refine r_bipush d_X8_rule_34 (by decide) ?_
        rw [e19]
        refine r_icmp_ne d_X8_rule_36 (by omega) (by omega) (fun c36 => absurd c36 (by omega)) (fun c36 => ?_)
        refine r_bipush d_X8_rule_39 (by decide) ?_
        refine r_iret d_X8_rule_41 rfl ?_
        exact ⟨_, rfl, rfl, same_rf⟩
      · rw [if_neg c2] at hw
        rw [if_neg (fun h => c2 h.2)]
        refine r_iload_n d_X8_rule_0 rfl ?_
        refine r_iconst d_X8_rule_1 ?_
        refine r_iconst d_X8_rule_2 ?_
        refine r_S3i d_X8_rule_3 (w_X8_162 _ rfl) (hwi) (by decide) (Nat.le_of_ble_eq_true rfl) (fun z3 T3 I3 L3 R3 h3 => ?_)
        obtain ⟨rfl, rfl, rfl, rfl, rfl⟩ := h3
        refine r_if_eq d_X8_rule_6 (by omega) (fun c6 => absurd c6 (by decide)) (fun c6 => ?_)
        refine r_iload_n d_X8_rule_9 rfl ?_
        refine r_iconst d_X8_rule_10 ?_
        refine r_iload_n d_X8_rule_11 rfl ?_
        refine r_iconst d_X8_rule_12 ?_
        refine r_icmp_ne d_X8_rule_13 (by omega) (by omega) (fun c13 => absurd c13 (by omega)) (fun c13 => ?_)
        refine r_iconst d_X8_rule_16 ?_
        refine r_goto d_X8_rule_17 ?_
        refine r_S3i d_X8_rule_21 (w_X8_162 _ rfl) (hw) (by decide) (Nat.le_of_ble_eq_true rfl) (fun z21 T21 I21 L21 R21 h21 => ?_)
        obtain ⟨rfl, rfl, rfl, rfl, rfl⟩ := h21
        refine r_if_ne d_X8_rule_24 (by omega) (fun c24 => absurd c24 (by decide)) (fun c24 => ?_)
        refine r_bipush d_X8_rule_27 (by decide) ?_
        refine r_iret d_X8_rule_29 rfl ?_
        exact ⟨_, rfl, rfl, same_rf⟩
    · rw [if_neg c5] at hz ⊢
      have hw := hwj 0 (by omega)
      by_cases c2 : 0 ≤ n ∧ n ≤ 0
      · rw [if_pos c2] at hw
        rw [if_pos ⟨c1, c2⟩] at hz ⊢
        have c3 : ¬ tl.length < 8 := fun h => hz (if_pos h)
        rw [if_neg c3]
        refine r_iload_n d_X8_rule_0 rfl ?_
        refine r_iconst d_X8_rule_1 ?_
        refine r_iconst d_X8_rule_2 ?_
        refine r_S3i d_X8_rule_3 (w_X8_162 _ rfl) (hwi) (by decide) (Nat.le_of_ble_eq_true rfl) (fun z3 T3 I3 L3 R3 h3 => ?_)
        obtain ⟨rfl, rfl, rfl, rfl, rfl⟩ := h3
        refine r_if_eq d_X8_rule_6 (by omega) (fun c6 => absurd c6 (by decide)) (fun c6 => ?_)
        refine r_iload_n d_X8_rule_9 rfl ?_
        refine r_iconst d_X8_rule_10 ?_
        refine r_iload_n d_X8_rule_11 rfl ?_
        refine r_iconst d_X8_rule_12 ?_
        refine r_icmp_ne d_X8_rule_13 (by omega) (by omega) (fun c13 => ?_) (fun c13 => absurd c13 (by omega))
        refine r_iconst d_X8_rule_20 ?_
        refine r_S3i d_X8_rule_21 (w_X8_162 _ rfl) (hw) (by decide) (Nat.le_of_ble_eq_true rfl) (fun z21 T21 I21 L21 R21 h21 => ?_)
        obtain ⟨rfl, rfl, rfl, rfl, rfl⟩ := h21
        refine r_if_ne d_X8_rule_24 (by omega) (fun c24 => ?_) (fun c24 => absurd c24 (by decide))
        refine r_aload_n d_X8_rule_30 rfl ?_
        refine r_geti d_X8_rule_31 f_X8_247 (tt_139 _ _) (by decide) (by decide) ?_
        refine r_bipush d_X8_rule_34 (by decide) ?_
        rw [e19]
        refine r_icmp_ne d_X8_rule_36 (by omega) (by omega) (fun c36 => absurd c36 (by omega)) (fun c36 => ?_)
        refine r_bipush d_X8_rule_39 (by decide) ?_
        refine r_iret d_X8_rule_41 rfl ?_
        exact ⟨_, rfl, rfl, same_rf⟩
      · rw [if_neg c2] at hw
        rw [if_neg (fun h => c2 h.2)]
        refine r_iload_n d_X8_rule_0 rfl ?_
        refine r_iconst d_X8_rule_1 ?_
        refine r_iconst d_X8_rule_2 ?_
        refine r_S3i d_X8_rule_3 (w_X8_162 _ rfl) (hwi) (by decide) (Nat.le_of_ble_eq_true rfl) (fun z3 T3 I3 L3 R3 h3 => ?_)
        obtain ⟨rfl, rfl, rfl, rfl, rfl⟩ := h3
        refine r_if_eq d_X8_rule_6 (by omega) (fun c6 => absurd c6 (by decide)) (fun c6 => ?_)
        refine r_iload_n d_X8_rule_9 rfl ?_
        refine r_iconst d_X8_rule_10 ?_
        refine r_iload_n d_X8_rule_11 rfl ?_
        refine r_iconst d_X8_rule_12 ?_
        refine r_icmp_ne d_X8_rule_13 (by omega) (by omega) (fun c13 => ?_) (fun c13 => absurd c13 (by omega))
        refine r_iconst d_X8_rule_20 ?_
        refine r_S3i d_X8_rule_21 (w_X8_162 _ rfl) (hw) (by decide) (Nat.le_of_ble_eq_true rfl) (fun z21 T21 I21 L21 R21 h21 => ?_)
        obtain ⟨rfl, rfl, rfl, rfl, rfl⟩ := h21
        refine r_if_ne d_X8_rule_24 (by omega) (fun c24 => absurd c24 (by decide)) (fun c24 => ?_)
        refine r_bipush d_X8_rule_27 (by decide) ?_
        refine r_iret d_X8_rule_29 rfl ?_
        exact ⟨_, rfl, rfl, same_rf⟩
  · rw [if_neg c1] at hwi
    rw [if_neg (fun h => c1 h.1)]
    refine r_iload_n d_X8_rule_0 rfl ?_
    refine r_iconst d_X8_rule_1 ?_
    refine r_iconst d_X8_rule_2 ?_
    refine r_S3i d_X8_rule_3 (w_X8_162 _ rfl) (hwi) (by decide) (Nat.le_of_ble_eq_true rfl) (fun z3 T3 I3 L3 R3 h3 => ?_)
    obtain ⟨rfl, rfl, rfl, rfl, rfl⟩ := h3
    refine r_if_eq d_X8_rule_6 (by omega) (fun c6 => ?_) (fun c6 => absurd c6 (by decide))
    refine r_bipush d_X8_rule_27 (by decide) ?_
    refine r_iret d_X8_rule_29 rfl ?_
    exact ⟨_, rfl, rfl, same_rf⟩
theorem x_rule (hM : MS σ ℓ nr nw ng tl ukd unn utr utw I) {kind n : Int} (hk : i32 kind) (hn : i32 n) (hz : rlF kind n tl.length = 0) : Mc g 1 m_X8_rule 0 0 [vr 139, vi kind, vi n] (TT Ls tl') I L (RR tl') (qI fun z T' I' L' R' => T' = TT Ls tl' ∧ R' = RR tl' ∧ L' = L ∧ z = (tl.length : Int) ∧ MS σ ℓ nr nw ng (tl ++ [0]) (upN ukd tl.length kind) (upN unn tl.length n) (upN utr tl.length (fun _ => 0)) (upN utw tl.length (fun _ => 0)) I' ∧ (∀ a, a ≠ 139 → a ≠ 154 → a ≠ 155 → I' a = I a) ∧ (∀ k, k ≠ 19 → I' 139 k = I 139 k)) := by
  refine Mc_of rfl (Nat.le_of_ble_eq_true rfl) ?_
  have hk2 : -2147483648 ≤ kind ∧ kind ≤ 2147483647 := hk
  have hn2 : -2147483648 ≤ n ∧ n ≤ 2147483647 := hn
  have hR := hM.2.2.2.2.2.2.2.2
  have e19 := hR.1
  unfold rlF at hz
  have hwi := x_within (g := g) (T := TT Ls tl') (I := I) (L := L) (R := RR tl') (a := kind) (lo := 0) (hi := 5) (by omega) (by omega) (by omega)
  have hwj := fun hi : Int => fun (hh : 0 ≤ hi ∧ hi ≤ 1) => x_within (g := g) (T := TT Ls tl') (I := I) (L := L) (R := RR tl') (a := n) (lo := 0) (hi := hi) (by omega) (by omega) (by omega)
  have hcond : (0 ≤ kind ∧ kind ≤ 5) ∧ (0 ≤ n ∧ n ≤ (if kind = 5 then 1 else 0)) := Classical.byContradiction (fun h => by rw [if_neg h] at hz; exact absurd hz (by decide))
  have c3 : tl.length < 8 := by
    rw [if_pos hcond] at hz
    exact Classical.byContradiction (fun h => by rw [if_neg h] at hz; exact absurd hz (by decide))
  obtain ⟨c1, c2⟩ := hcond
  rw [if_pos c1] at hwi
  have hn1 : 0 ≤ n ∧ n ≤ 1 := ⟨c2.1, Int.le_trans c2.2 (by split <;> omega)⟩
  obtain ⟨Q, hQ⟩ : ∃ Q : sQ, Q = (qI fun z T' I' L' R' => T' = TT Ls tl' ∧ R' = RR tl' ∧ L' = L ∧ z = (tl.length : Int) ∧ MS σ ℓ nr nw ng (tl ++ [0]) (upN ukd tl.length kind) (upN unn tl.length n) (upN utr tl.length (fun _ => 0)) (upN utw tl.length (fun _ => 0)) I' ∧ (∀ a, a ≠ 139 → a ≠ 154 → a ≠ 155 → I' a = I a) ∧ (∀ k, k ≠ 19 → I' 139 k = I 139 k)) := ⟨_, rfl⟩
  rw [← hQ]
  have e19b : ∀ v : Int, up2 I 154 tl.length v 139 19 = (tl.length : Int) := fun v => by rw [up2_ne _ _ (by decide)]; exact e19
  have e19c : ∀ v w : Int, up2 (up2 I 154 tl.length v) 155 tl.length w 139 19 = (tl.length : Int) := fun v w => by rw [up2_ne _ _ (by decide)]; exact e19b v
  obtain ⟨K2, hK2⟩ : ∃ K2 : sI, K2 = up2 (up2 (up2 I 154 tl.length kind) 155 tl.length n) 139 19 ((tl.length : Int) + 1) := ⟨_, rfl⟩
  have g1 : ∀ a, a ≠ 139 → a ≠ 154 → a ≠ 155 → K2 a = I a := fun a q1 q2 q3 => by rw [hK2, up2_ne _ _ q1, up2_ne _ _ q3, up2_ne _ _ q2]
  have g2 : ∀ k, k ≠ 19 → K2 139 k = I 139 k := fun k q1 => by rw [hK2, up2_nj _ _ q1, up2_ne _ _ (by decide), up2_ne _ _ (by decide)]
  have g3 : K2 139 19 = (tl.length : Int) + 1 := by rw [hK2, up2_at]
  have hMS : MS σ ℓ nr nw ng (tl ++ [0]) (upN ukd tl.length kind) (upN unn tl.length n) (upN utr tl.length (fun _ => 0)) (upN utw tl.length (fun _ => 0)) K2 := by
    refine MS_rule hM c3 (fun a ha => g1 a (by omega) (by omega) (by omega)) (fun k hk => g2 k (by omega)) g3 (fun q hq => ⟨?_, ?_, fun j hj => ?_⟩) ?_ ?_ (by omega) hn1 (fun h => absurd h (by omega))
    · rw [hK2, up2_ne _ _ (by decide), up2_ne _ _ (by decide), up2_nj _ _ (by omega)]
    · rw [hK2, up2_ne _ _ (by decide), up2_nj _ _ (by omega), up2_ne _ _ (by decide)]
    · rw [g1 156 (by decide) (by decide) (by decide)]
    · rw [hK2, up2_ne _ _ (by decide), up2_ne _ _ (by decide), up2_at]
    · rw [hK2, up2_ne _ _ (by decide), up2_at]
  have t30 : Cp g 1 m_X8_rule 0 0 Q 30 [(0, vr 139), (1, vi kind), (2, vi n)] [] (TT Ls tl') I L (RR tl') := by
    refine r_aload_n d_X8_rule_30 rfl ?_
    refine r_geti d_X8_rule_31 f_X8_247 (tt_139 _ _) (by decide) (by decide) ?_
    refine r_bipush d_X8_rule_34 (by decide) ?_
    rw [e19]
    refine r_icmp_ne d_X8_rule_36 (by omega) (by omega) (fun c36 => ?_) (fun c36 => absurd c36 (by omega))
    refine r_aload_n d_X8_rule_42 rfl ?_
    refine r_getr d_X8_rule_43 f_X8_57 (tt_139 _ _) (by decide) rfl (rr_139_20 _) ?_
    refine r_aload_n d_X8_rule_46 rfl ?_
    refine r_geti d_X8_rule_47 f_X8_247 (tt_139 _ _) (by decide) (by decide) ?_
    rw [e19]
    refine r_iload_n d_X8_rule_50 rfl ?_
    refine r_iastJ (j := tl.length) d_X8_rule_51 (tt_154 _ _) (by omega) (by omega) (by omega) (kk := ?_)
    refine r_aload_n d_X8_rule_52 rfl ?_
    refine r_getr d_X8_rule_53 f_X8_60 (tt_139 _ _) (by decide) rfl (rr_139_21 _) ?_
    refine r_aload_n d_X8_rule_56 rfl ?_
    refine r_geti d_X8_rule_57 f_X8_247 (tt_139 _ _) (by decide) (by decide) ?_
    rw [e19b]
    refine r_iload_n d_X8_rule_60 rfl ?_
    refine r_iastJ (j := tl.length) d_X8_rule_61 (tt_155 _ _) (by omega) (by omega) (by omega) (kk := ?_)
    refine r_aload_n d_X8_rule_62 rfl ?_
    refine r_dup d_X8_rule_63 rfl ?_
    refine r_geti d_X8_rule_64 f_X8_247 (tt_139 _ _) (by decide) (by decide) ?_
    rw [e19c]
    refine r_iconst d_X8_rule_67 ?_
    refine r_iadd d_X8_rule_68 ?_
    refine r_puti d_X8_rule_69 f_X8_247 (tt_139 _ _) (by decide) (Or.inl rfl) ?_
    rw [← hK2]
    refine r_aload_n d_X8_rule_72 rfl ?_
    refine r_geti d_X8_rule_73 f_X8_247 (tt_139 _ _) (by decide) (by decide) ?_
    rw [g3]
    refine r_iconst d_X8_rule_76 ?_
    refine r_isub d_X8_rule_77 ?_
    refine r_iret d_X8_rule_78 rfl ?_
    rw [hQ]
    exact ⟨_, rfl, rfl, rfl, rfl, by omega, hMS, g1, g2⟩
  by_cases c5 : kind = 5
  · have hw := hwj 1 (by omega)
    rw [if_pos hn1] at hw
    refine r_iload_n d_X8_rule_0 rfl ?_
    refine r_iconst d_X8_rule_1 ?_
    refine r_iconst d_X8_rule_2 ?_
    refine r_S3i d_X8_rule_3 (w_X8_162 _ rfl) (hwi) (by decide) (Nat.le_of_ble_eq_true rfl) (fun z3 T3 I3 L3 R3 h3 => ?_)
    obtain ⟨rfl, rfl, rfl, rfl, rfl⟩ := h3
    refine r_if_eq d_X8_rule_6 (by omega) (fun c6 => absurd c6 (by decide)) (fun c6 => ?_)
    refine r_iload_n d_X8_rule_9 rfl ?_
    refine r_iconst d_X8_rule_10 ?_
    refine r_iload_n d_X8_rule_11 rfl ?_
    refine r_iconst d_X8_rule_12 ?_
    refine r_icmp_ne d_X8_rule_13 (by omega) (by omega) (fun c13 => absurd c13 (by omega)) (fun c13 => ?_)
    refine r_iconst d_X8_rule_16 ?_
    refine r_goto d_X8_rule_17 ?_
    refine r_S3i d_X8_rule_21 (w_X8_162 _ rfl) (hw) (by decide) (Nat.le_of_ble_eq_true rfl) (fun z21 T21 I21 L21 R21 h21 => ?_)
    obtain ⟨rfl, rfl, rfl, rfl, rfl⟩ := h21
    refine r_if_ne d_X8_rule_24 (by omega) (fun c24 => ?_) (fun c24 => absurd c24 (by decide))
    exact t30
  · have hw := hwj 0 (by omega)
    rw [if_neg c5] at c2
    rw [if_pos c2] at hw
    refine r_iload_n d_X8_rule_0 rfl ?_
    refine r_iconst d_X8_rule_1 ?_
    refine r_iconst d_X8_rule_2 ?_
    refine r_S3i d_X8_rule_3 (w_X8_162 _ rfl) (hwi) (by decide) (Nat.le_of_ble_eq_true rfl) (fun z3 T3 I3 L3 R3 h3 => ?_)
    obtain ⟨rfl, rfl, rfl, rfl, rfl⟩ := h3
    refine r_if_eq d_X8_rule_6 (by omega) (fun c6 => absurd c6 (by decide)) (fun c6 => ?_)
    refine r_iload_n d_X8_rule_9 rfl ?_
    refine r_iconst d_X8_rule_10 ?_
    refine r_iload_n d_X8_rule_11 rfl ?_
    refine r_iconst d_X8_rule_12 ?_
    refine r_icmp_ne d_X8_rule_13 (by omega) (by omega) (fun c13 => ?_) (fun c13 => absurd c13 (by omega))
    refine r_iconst d_X8_rule_20 ?_
    refine r_S3i d_X8_rule_21 (w_X8_162 _ rfl) (hw) (by decide) (Nat.le_of_ble_eq_true rfl) (fun z21 T21 I21 L21 R21 h21 => ?_)
    obtain ⟨rfl, rfl, rfl, rfl, rfl⟩ := h21
    refine r_if_ne d_X8_rule_24 (by omega) (fun c24 => ?_) (fun c24 => absurd c24 (by decide))
    exact t30
end X9w
