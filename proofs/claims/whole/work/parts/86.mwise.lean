theorem two8 {nr : Nat} (h : nr ≤ 8) : 0 < 2 ^ nr ∧ 2 ^ nr ≤ 256 := ⟨Nat.two_pow_pos nr, Nat.pow_le_pow_right (n := 2) (by decide) h⟩
theorem nx_lt {nr m : Nat} {p : Int} (hm : m < 2 ^ nr) (hp : -1 ≤ p ∧ p < nr) : nxM m p < 2 ^ nr := by
  unfold nxM
  split
  · exact hm
  · exact Nat.or_lt_two_pow hm (Nat.pow_lt_pow_right (by decide) (by omega))
section X86
variable {g : sG} {Ls : Nat} {tl : List Nat} {T : sT} {R : sR} {I L : sI} {σ δ : Sg} {ℓ ab : Int} {nr nW ng : Nat} {rd : Nat → Int}
theorem x_giveWisely (hV : MV σ ℓ nr nW ng) (hX : MX σ nr nW ng I) (hrd : ∀ r, r < nr → I 179 r = rd r ∧ -1 ≤ rd r ∧ rd r ≤ 44) : Mc g 4 m_X8_giveWisely 0 0 [vr 139] (TT Ls tl) I L (RR tl) (qV fun T' I' L' R' => T' = TT Ls tl ∧ R' = RR tl ∧ L' = L ∧ frb 181 183 I I' ∧ KYS σ nr ng rd (I' 181) ng 0) := by
  refine Mc_of rfl (Nat.le_of_ble_eq_true rfl) ?_
  obtain ⟨⟨s1, s2, s3, s4, s5⟩, v2, v3, v4⟩ := id hV
  obtain ⟨Q, hQ⟩ : ∃ Q : sQ, Q = (qV fun T' I' L' R' => T' = TT Ls tl ∧ R' = RR tl ∧ L' = L ∧ frb 181 183 I I' ∧ KYS σ nr ng rd (I' 181) ng 0) := ⟨_, rfl⟩
  rw [← hQ]
  obtain ⟨p1, p2_⟩ := two8 s1
  have esh : sshl 1 (nr : Int) = ((2 ^ nr : Nat) : Int) := sshl_one _ (by omega)
  have nx := fun {m : Nat} {p : Int} (hm : m < 2 ^ nr) (hp : -1 ≤ p ∧ p < nr) => nx_lt hm hp
  have rbd : ∀ k m, k ≤ ng → 0 ≤ rsS σ nr ng rd k m ∧ rsS σ nr ng rd k m ≤ 396 * (k : Int) := rs_bd (fun r hr => (hrd r hr).2) v3
  obtain ⟨W, hW⟩ : ∃ W : Nat, W = 2 ^ nr := ⟨_, rfl⟩
  rw [← hW] at p1 p2_ esh nx
  -- keys
  have keys : ∀ (k q m : Nat) (I1 : sI), q + k = ng → frb 181 183 I I1 → m < W → (∀ x, x ≤ ng → ∀ m, m < W → I1 182 (256 * x + m) = rsS σ nr ng rd (ng - x) m) → (∀ b : Nat → Int, (∀ i, i < q → b i = I1 181 i) → KYS σ nr ng rd b (ng - q) m → KYS σ nr ng rd b ng 0) → Cp g 4 m_X8_giveWisely 0 0 Q 152 [(0, vr 139), (1, vi (m : Int)), (2, vi (q : Int))] [] (TT Ls tl) I1 L (RR tl) := by
    intro k
    induction k with
    | zero =>
      intro q m I1 hq f hm hc hk
      have e12 : I1 139 12 = (ng : Int) := by rw [f 139 (by omega)]; exact hX.2.1
      refine r_iload_n d_X8_giveWisely_152 rfl ?_
      refine r_aload_n d_X8_giveWisely_153 rfl ?_
      refine r_geti d_X8_giveWisely_154 f_X8_238 (tt_139 _ _) (by decide) (by decide) ?_
      refine r_icmp_ge d_X8_giveWisely_157 (by omega) (by omega) (fun c157 => ?_) (fun c157 => absurd c157 (by omega))
      refine r_vret d_X8_giveWisely_254 rfl ?_
      rw [hQ]
      refine ⟨rfl, rfl, rfl, rfl, f, hk (I1 181) (fun _ _ => rfl) ?_⟩
      rw [show ng - q = 0 by omega]
      trivial
    | succ k ih =>
      intro q m I1 hqk f hm hc hk
      have hq : q < ng := by omega
      have hX1 := MX_frb hX f (by omega)
      have e12 : I1 139 12 = (ng : Int) := hX1.2.1
      have e0 : I1 139 0 = (nr : Int) := hX1.1
      have hrd1 : ∀ r, r < nr → I1 179 r = rd r ∧ -1 ≤ rd r ∧ rd r ≤ 44 := fun r hr => by rw [f 179 (by omega)]; exact hrd r hr
      have eg : ng - (ng - q) = q := by omega
      have en : ng - q = (ng - (q + 1)) + 1 := by omega
      obtain ⟨ok, hok⟩ : ∃ ok : Nat → Bool, ok = fun r => cnH σ rd q m r && decide (cstS σ rd q (r : Int) + rsS σ nr ng rd (ng - (q + 1)) (m ||| 2 ^ r) = rsS σ nr ng rd (ng - q) m) := ⟨_, rfl⟩
      have eky : kyO σ nr ng rd (ng - (q + 1)) m = amin ok (fun _ => 0) nr := by
        rw [hok]
        unfold kyO
        rw [← en, eg]
      have fin : ∀ (p : Int) (b : Nat), b ≤ nr → (b = nr ∨ p ≠ -1) → p = amin ok (fun _ => 0) nr → Cp g 4 m_X8_giveWisely 0 0 Q 226 [(0, vr 139), (1, vi (m : Int)), (2, vi (q : Int)), (3, vi p), (4, vi (b : Int))] [] (TT Ls tl) I1 L (RR tl) := by
        intro p b _ _ hp
        have prg := amin_rng ok (fun _ => 0) nr
        rw [← hp] at prg
        have hn := nx hm prg
        have go := ih (q + 1) (nxM m p) (up2 I1 181 q p) (by omega) (fun a ha => by rw [up2_ne _ _ (by omega)]; exact f a ha) hn (fun x hx m hm => by rw [up2_ne _ _ (by omega)]; exact hc x hx m hm) (fun b hb hkk => by
          have eb : b q = p := by rw [hb q (by omega), up2_at]
          refine hk b (fun i hi => ?_) ?_
          · rw [hb i (by omega), up2_nj _ _ (by omega)]
          · rw [en]
            refine ⟨?_, ?_⟩
            · rw [← en, eg, eb, eky]; exact hp
            · rw [← en, eg, eb]; exact hkk)
        by_cases hpn : p = -1
        · have e5 : sor (m : Int) 0 = ((nxM m p : Nat) : Int) := by
            rw [show (0 : Int) = ((0 : Nat) : Int) from rfl, sor_nat (by omega) (by omega), Nat.or_zero]
            unfold nxM; rw [if_pos hpn]
          refine r_aload_n d_X8_giveWisely_226 rfl ?_
          refine r_getr d_X8_giveWisely_227 f_X8_142 (tt_139 _ _) (by decide) rfl (rr_139_63 _) ?_
          refine r_iload_n d_X8_giveWisely_230 rfl ?_
          refine r_iload_n d_X8_giveWisely_231 rfl ?_
          refine r_iastJ d_X8_giveWisely_232 (tt_181 _ _) (by omega) rfl (by omega) (kk := ?_)
          refine r_iload_n d_X8_giveWisely_233 rfl ?_
          refine r_iload_n d_X8_giveWisely_234 rfl ?_
          refine r_iconst d_X8_giveWisely_235 ?_
          refine r_icmp_ne d_X8_giveWisely_236 (by omega) (by omega) (fun c236 => absurd c236 (by exact fun q => q hpn)) (fun c236 => ?_)
          refine r_iconst d_X8_giveWisely_239 ?_
          refine r_goto d_X8_giveWisely_240 ?_
          refine r_ior d_X8_giveWisely_246 ?_
          refine r_istore_n d_X8_giveWisely_247 (by decide) ?_
          refine r_iinc d_X8_giveWisely_248 rfl (by decide) ?_
          refine r_goto d_X8_giveWisely_251 ?_
          exact CpL go (by repeat (first | exact trivial | refine ⟨rfl, ?_⟩ | refine ⟨by rw [e5]; rfl, ?_⟩))
        · obtain ⟨c, hc2⟩ : ∃ c : Nat, p = (c : Int) := ⟨p.toNat, by omega⟩
          have hc8 : c < 8 := by omega
          have e5 : sor (m : Int) (sshl 1 p) = ((nxM m p : Nat) : Int) := by
            rw [hc2, sshl_one _ (by omega), sor_nat (by omega) (Nat.lt_of_lt_of_le (Nat.pow_lt_pow_right (n := 8) (by decide) hc8) (by decide))]
            unfold nxM; rw [if_neg (by omega), Int.toNat_natCast]
          refine r_aload_n d_X8_giveWisely_226 rfl ?_
          refine r_getr d_X8_giveWisely_227 f_X8_142 (tt_139 _ _) (by decide) rfl (rr_139_63 _) ?_
          refine r_iload_n d_X8_giveWisely_230 rfl ?_
          refine r_iload_n d_X8_giveWisely_231 rfl ?_
          refine r_iastJ d_X8_giveWisely_232 (tt_181 _ _) (by omega) rfl (by omega) (kk := ?_)
          refine r_iload_n d_X8_giveWisely_233 rfl ?_
          refine r_iload_n d_X8_giveWisely_234 rfl ?_
          refine r_iconst d_X8_giveWisely_235 ?_
          refine r_icmp_ne d_X8_giveWisely_236 (by omega) (by omega) (fun c236 => ?_) (fun c236 => absurd c236 (by exact hpn))
          refine r_iconst d_X8_giveWisely_243 ?_
          refine r_iload_n d_X8_giveWisely_244 rfl ?_
          refine r_ishl d_X8_giveWisely_245 ?_
          refine r_ior d_X8_giveWisely_246 ?_
          refine r_istore_n d_X8_giveWisely_247 (by decide) ?_
          refine r_iinc d_X8_giveWisely_248 rfl (by decide) ?_
          refine r_goto d_X8_giveWisely_251 ?_
          exact CpL go (by repeat (first | exact trivial | refine ⟨rfl, ?_⟩ | refine ⟨by rw [e5]; rfl, ?_⟩))
      have rooms : ∀ (k3 b : Nat), b + k3 = nr → amin ok (fun _ => 0) b = -1 → Cp g 4 m_X8_giveWisely 0 0 Q 165 [(0, vr 139), (1, vi (m : Int)), (2, vi (q : Int)), (3, vi (-1)), (4, vi (b : Int))] [] (TT Ls tl) I1 L (RR tl) := by
        intro k3
        induction k3 with
        | zero =>
          intro b hb ha
          have hb2 : b = nr := by omega
          refine r_iload d_X8_giveWisely_165 rfl ?_
          refine r_aload_n d_X8_giveWisely_167 rfl ?_
          refine r_geti d_X8_giveWisely_168 f_X8_232 (tt_139 _ _) (by decide) (by decide) ?_
          refine r_icmp_ge d_X8_giveWisely_171 (by omega) (by omega) (fun c171 => ?_) (fun c171 => absurd c171 (by omega))
          exact fin (-1) b (by omega) (Or.inl hb2) (by rw [← hb2, ha])
        | succ k3 ih3 =>
          intro b hb ha
          have hbn : b < nr := by omega
          have hcn := x_canHave (g := g) (Ls := Ls) (tl := tl) (L := L) hV hX1 hrd1 hq hbn (show m < 256 by omega)
          cases hkb : ok b with
          | false =>
            have en2 := amin_no (key := fun _ => (0 : Int)) (Or.inl hkb)
            have nxt := ih3 (b + 1) (by omega) (by rw [en2]; exact ha)
            cases hcb : cnH σ rd q m b with
            | false =>
              rw [hcb, if_neg (by decide)] at hcn
              refine r_iload d_X8_giveWisely_165 rfl ?_
              refine r_aload_n d_X8_giveWisely_167 rfl ?_
              refine r_geti d_X8_giveWisely_168 f_X8_232 (tt_139 _ _) (by decide) (by decide) ?_
              refine r_icmp_ge d_X8_giveWisely_171 (by omega) (by omega) (fun c171 => absurd c171 (by omega)) (fun c171 => ?_)
              refine r_iload_n d_X8_giveWisely_174 rfl ?_
              refine r_iconst d_X8_giveWisely_175 ?_
              refine r_icmp_ne d_X8_giveWisely_176 (by omega) (by omega) (fun c176 => absurd c176 (by exact fun q => q rfl)) (fun c176 => ?_)
              refine r_aload_n d_X8_giveWisely_179 rfl ?_
              refine r_iload_n d_X8_giveWisely_180 rfl ?_
              refine r_iload d_X8_giveWisely_181 rfl ?_
              refine r_iload_n d_X8_giveWisely_183 rfl ?_
              refine r_V3i d_X8_giveWisely_184 (w_X8_342 _ rfl) (tt_139 _ _) rfl rfl (hcn) (by decide) (Nat.le_of_ble_eq_true rfl) (fun z184 T184 I184 L184 R184 h184 => ?_)
              obtain ⟨rfl, rfl, rfl, rfl, rfl⟩ := h184
              refine r_if_eq d_X8_giveWisely_187 (by omega) (fun c187 => ?_) (fun c187 => absurd c187 (by decide))
              refine r_iconst d_X8_giveWisely_218 ?_
              refine r_istore_n d_X8_giveWisely_219 (by decide) ?_
              refine r_iinc d_X8_giveWisely_220 rfl (by decide) ?_
              refine r_goto d_X8_giveWisely_223 ?_
              exact CpL nxt (by repeat (first | exact trivial | refine ⟨rfl, ?_⟩))
            | true =>
              rw [hcb, if_pos rfl] at hcn
              have hne : ¬ cstS σ rd q (b : Int) + rsS σ nr ng rd (ng - (q + 1)) (m ||| 2 ^ b) = rsS σ nr ng rd (ng - q) m := fun h => by
                rw [hok] at hkb
                have : (cnH σ rd q m b && decide (cstS σ rd q (b : Int) + rsS σ nr ng rd (ng - (q + 1)) (m ||| 2 ^ b) = rsS σ nr ng rd (ng - q) m)) = false := hkb
                rw [hcb, decide_eq_true h] at this
                cases this
              have enx : nxM m (b : Int) = m ||| 2 ^ b := by unfold nxM; rw [if_neg (by omega), Int.toNat_natCast]
              have hnl := nx hm (p := (b : Int)) (by omega)
              have hby := x_by (g := g) (Ls := Ls) (tl := tl) (L := L) hV hX1 hrd1 hq (show m < 256 by omega) (p := (b : Int)) (by omega) (hc (q + 1) (by omega) _ hnl)
              rw [enx] at hby
              have c1 := (cst_bd (rd := rd) (p := (b : Int)) (v3 q hq) (Or.inr (hrd b hbn).2)).2
              have c2 := rbd (ng - (q + 1)) (m ||| 2 ^ b) (by omega)
              have c3 := rbd (ng - q) m (by omega)
              have hcm := hc q (by omega) m hm
              refine r_iload d_X8_giveWisely_165 rfl ?_
              refine r_aload_n d_X8_giveWisely_167 rfl ?_
              refine r_geti d_X8_giveWisely_168 f_X8_232 (tt_139 _ _) (by decide) (by decide) ?_
              refine r_icmp_ge d_X8_giveWisely_171 (by omega) (by omega) (fun c171 => absurd c171 (by omega)) (fun c171 => ?_)
              refine r_iload_n d_X8_giveWisely_174 rfl ?_
              refine r_iconst d_X8_giveWisely_175 ?_
              refine r_icmp_ne d_X8_giveWisely_176 (by omega) (by omega) (fun c176 => absurd c176 (by exact fun q => q rfl)) (fun c176 => ?_)
              refine r_aload_n d_X8_giveWisely_179 rfl ?_
              refine r_iload_n d_X8_giveWisely_180 rfl ?_
              refine r_iload d_X8_giveWisely_181 rfl ?_
              refine r_iload_n d_X8_giveWisely_183 rfl ?_
              refine r_V3i d_X8_giveWisely_184 (w_X8_342 _ rfl) (tt_139 _ _) rfl rfl (hcn) (by decide) (Nat.le_of_ble_eq_true rfl) (fun z184 T184 I184 L184 R184 h184 => ?_)
              obtain ⟨rfl, rfl, rfl, rfl, rfl⟩ := h184
              refine r_if_eq d_X8_giveWisely_187 (by omega) (fun c187 => absurd c187 (by decide)) (fun c187 => ?_)
              refine r_aload_n d_X8_giveWisely_190 rfl ?_
              refine r_iload_n d_X8_giveWisely_191 rfl ?_
              refine r_iload_n d_X8_giveWisely_192 rfl ?_
              refine r_iload d_X8_giveWisely_193 rfl ?_
              refine r_V3i d_X8_giveWisely_195 (w_X8_348 _ rfl) (tt_139 _ _) rfl rfl (hby) (by decide) (Nat.le_of_ble_eq_true rfl) (fun z195 T195 I195 L195 R195 h195 => ?_)
              obtain ⟨rfl, rfl, rfl, rfl, rfl⟩ := h195
              refine r_aload_n d_X8_giveWisely_198 rfl ?_
              refine r_getr d_X8_giveWisely_199 f_X8_145 (tt_139 _ _) (by decide) rfl (rr_139_64 _) ?_
              refine r_sipush d_X8_giveWisely_202 (by decide) ?_
              refine r_iload_n d_X8_giveWisely_205 rfl ?_
              refine r_imul d_X8_giveWisely_206 ?_
              refine r_iload_n d_X8_giveWisely_207 rfl ?_
              refine r_iadd d_X8_giveWisely_208 ?_
              refine r_ialdJ (j := 256 * q + m) d_X8_giveWisely_209 (tt_182 _ _) (by omega) (by omega) (kk := ?_)
              rw [hcm]
              refine r_icmp_ne d_X8_giveWisely_210 (by omega) (by omega) (fun c210 => ?_) (fun c210 => absurd c210 (by exact hne))
              refine r_iconst d_X8_giveWisely_218 ?_
              refine r_istore_n d_X8_giveWisely_219 (by decide) ?_
              refine r_iinc d_X8_giveWisely_220 rfl (by decide) ?_
              refine r_goto d_X8_giveWisely_223 ?_
              exact CpL nxt (by repeat (first | exact trivial | refine ⟨rfl, ?_⟩))
          | true =>
            have en2 := amin_yes hkb (key := fun _ => (0 : Int)) (Or.inl ha)
            have hkb2 : (cnH σ rd q m b && decide (cstS σ rd q (b : Int) + rsS σ nr ng rd (ng - (q + 1)) (m ||| 2 ^ b) = rsS σ nr ng rd (ng - q) m)) = true := by rw [hok] at hkb; exact hkb
            rw [Bool.and_eq_true, decide_eq_true_iff] at hkb2
            rw [hkb2.1, if_pos rfl] at hcn
            have hall : amin ok (fun _ => (0 : Int)) nr = (b : Int) := by
              refine amin_uniq hbn hkb (fun _ _ _ => Int.le_refl _) (fun i hi ho => ?_)
              rcases amin_spec ok (fun _ => (0 : Int)) b with ⟨-, h⟩ | ⟨c, h, -⟩
              · rw [h i hi] at ho; cases ho
              · rw [ha] at h; omega
            have enx : nxM m (b : Int) = m ||| 2 ^ b := by unfold nxM; rw [if_neg (by omega), Int.toNat_natCast]
            have hnl := nx hm (p := (b : Int)) (by omega)
            have hby := x_by (g := g) (Ls := Ls) (tl := tl) (L := L) hV hX1 hrd1 hq (show m < 256 by omega) (p := (b : Int)) (by omega) (hc (q + 1) (by omega) _ hnl)
            rw [enx] at hby
            have c1 := (cst_bd (rd := rd) (p := (b : Int)) (v3 q hq) (Or.inr (hrd b hbn).2)).2
            have c2 := rbd (ng - (q + 1)) (m ||| 2 ^ b) (by omega)
            have c3 := rbd (ng - q) m (by omega)
            have hcm := hc q (by omega) m hm
            have fn := fin (b : Int) (b + 1) (by omega) (Or.inr (by omega)) hall.symm
            have t165 : Cp g 4 m_X8_giveWisely 0 0 Q 165 [(0, vr 139), (1, vi (m : Int)), (2, vi (q : Int)), (3, vi (b : Int)), (4, vi ((b : Int) + 1))] [] (TT Ls tl) I1 L (RR tl) := by
              by_cases h9 : b + 1 < nr
              · skip
                refine r_iload d_X8_giveWisely_165 rfl ?_
                refine r_aload_n d_X8_giveWisely_167 rfl ?_
                refine r_geti d_X8_giveWisely_168 f_X8_232 (tt_139 _ _) (by decide) (by decide) ?_
                refine r_icmp_ge d_X8_giveWisely_171 (by omega) (by omega) (fun c171 => absurd c171 (by omega)) (fun c171 => ?_)
                refine r_iload_n d_X8_giveWisely_174 rfl ?_
                refine r_iconst d_X8_giveWisely_175 ?_
                refine r_icmp_ne d_X8_giveWisely_176 (by omega) (by omega) (fun c176 => ?_) (fun c176 => absurd c176 (by omega))
                exact CpL fn (by repeat (first | exact trivial | refine ⟨rfl, ?_⟩))
              · skip
                refine r_iload d_X8_giveWisely_165 rfl ?_
                refine r_aload_n d_X8_giveWisely_167 rfl ?_
                refine r_geti d_X8_giveWisely_168 f_X8_232 (tt_139 _ _) (by decide) (by decide) ?_
                refine r_icmp_ge d_X8_giveWisely_171 (by omega) (by omega) (fun c171 => ?_) (fun c171 => absurd c171 (by omega))
                exact CpL fn (by repeat (first | exact trivial | refine ⟨rfl, ?_⟩))
            refine r_iload d_X8_giveWisely_165 rfl ?_
            refine r_aload_n d_X8_giveWisely_167 rfl ?_
            refine r_geti d_X8_giveWisely_168 f_X8_232 (tt_139 _ _) (by decide) (by decide) ?_
            refine r_icmp_ge d_X8_giveWisely_171 (by omega) (by omega) (fun c171 => absurd c171 (by omega)) (fun c171 => ?_)
            refine r_iload_n d_X8_giveWisely_174 rfl ?_
            refine r_iconst d_X8_giveWisely_175 ?_
            refine r_icmp_ne d_X8_giveWisely_176 (by omega) (by omega) (fun c176 => absurd c176 (by exact fun q => q rfl)) (fun c176 => ?_)
            refine r_aload_n d_X8_giveWisely_179 rfl ?_
            refine r_iload_n d_X8_giveWisely_180 rfl ?_
            refine r_iload d_X8_giveWisely_181 rfl ?_
            refine r_iload_n d_X8_giveWisely_183 rfl ?_
            refine r_V3i d_X8_giveWisely_184 (w_X8_342 _ rfl) (tt_139 _ _) rfl rfl (hcn) (by decide) (Nat.le_of_ble_eq_true rfl) (fun z184 T184 I184 L184 R184 h184 => ?_)
            obtain ⟨rfl, rfl, rfl, rfl, rfl⟩ := h184
            refine r_if_eq d_X8_giveWisely_187 (by omega) (fun c187 => absurd c187 (by decide)) (fun c187 => ?_)
            refine r_aload_n d_X8_giveWisely_190 rfl ?_
            refine r_iload_n d_X8_giveWisely_191 rfl ?_
            refine r_iload_n d_X8_giveWisely_192 rfl ?_
            refine r_iload d_X8_giveWisely_193 rfl ?_
            refine r_V3i d_X8_giveWisely_195 (w_X8_348 _ rfl) (tt_139 _ _) rfl rfl (hby) (by decide) (Nat.le_of_ble_eq_true rfl) (fun z195 T195 I195 L195 R195 h195 => ?_)
            obtain ⟨rfl, rfl, rfl, rfl, rfl⟩ := h195
            refine r_aload_n d_X8_giveWisely_198 rfl ?_
            refine r_getr d_X8_giveWisely_199 f_X8_145 (tt_139 _ _) (by decide) rfl (rr_139_64 _) ?_
            refine r_sipush d_X8_giveWisely_202 (by decide) ?_
            refine r_iload_n d_X8_giveWisely_205 rfl ?_
            refine r_imul d_X8_giveWisely_206 ?_
            refine r_iload_n d_X8_giveWisely_207 rfl ?_
            refine r_iadd d_X8_giveWisely_208 ?_
            refine r_ialdJ (j := 256 * q + m) d_X8_giveWisely_209 (tt_182 _ _) (by omega) (by omega) (kk := ?_)
            rw [hcm]
            refine r_icmp_ne d_X8_giveWisely_210 (by omega) (by omega) (fun c210 => absurd c210 (by exact fun q => q hkb2.2)) (fun c210 => ?_)
            refine r_iload d_X8_giveWisely_213 rfl ?_
            refine r_goto d_X8_giveWisely_215 ?_
            refine r_istore_n d_X8_giveWisely_219 (by decide) ?_
            refine r_iinc d_X8_giveWisely_220 rfl (by decide) ?_
            refine r_goto d_X8_giveWisely_223 ?_
            exact CpL t165 (by repeat (first | exact trivial | refine ⟨rfl, ?_⟩))
      refine r_iload_n d_X8_giveWisely_152 rfl ?_
      refine r_aload_n d_X8_giveWisely_153 rfl ?_
      refine r_geti d_X8_giveWisely_154 f_X8_238 (tt_139 _ _) (by decide) (by decide) ?_
      refine r_icmp_ge d_X8_giveWisely_157 (by omega) (by omega) (fun c157 => absurd c157 (by omega)) (fun c157 => ?_)
      refine r_iconst d_X8_giveWisely_160 ?_
      refine r_istore_n d_X8_giveWisely_161 (by decide) ?_
      refine r_iconst d_X8_giveWisely_162 ?_
      refine r_istore d_X8_giveWisely_163 (by decide) ?_
      exact CpL (rooms nr 0 (by omega) rfl) (by repeat (first | exact trivial | refine ⟨rfl, ?_⟩))
  -- rests
  have rests : ∀ (k : Nat) (I1 : sI), k ≤ ng → frb 181 183 I I1 → (∀ x, k ≤ x → x ≤ ng → ∀ m, m < W → I1 182 (256 * x + m) = rsS σ nr ng rd (ng - x) m) → Cp g 4 m_X8_giveWisely 0 0 Q 41 [(0, vr 139), (1, vi ((k : Int) - 1))] [] (TT Ls tl) I1 L (RR tl) := by
    intro k
    induction k with
    | zero =>
      intro I1 hk f hc
      refine r_iload_n d_X8_giveWisely_41 rfl ?_
      refine r_if_lt d_X8_giveWisely_42 (by omega) (fun c42 => ?_) (fun c42 => absurd c42 (by omega))
      refine r_iconst d_X8_giveWisely_148 ?_
      refine r_istore_n d_X8_giveWisely_149 (by decide) ?_
      refine r_iconst d_X8_giveWisely_150 ?_
      refine r_istore_n d_X8_giveWisely_151 (by decide) ?_
      exact CpL (keys ng 0 0 I1 (by omega) f p1 (fun x hx => hc x (by omega) hx) (fun b _ h => h)) (by repeat (first | exact trivial | refine ⟨rfl, ?_⟩))
    | succ q ih =>
      intro I1 hk f hc
      have hq : q < ng := by omega
      have eg : ng - (ng - q) = q := by omega
      have en : ng - q = (ng - (q + 1)) + 1 := by omega
      have sets : ∀ (k2 m : Nat) (I1 : sI), m + k2 = W → frb 181 183 I I1 → (∀ x, q + 1 ≤ x → x ≤ ng → ∀ m, m < W → I1 182 (256 * x + m) = rsS σ nr ng rd (ng - x) m) → (∀ i, i < m → I1 182 (256 * q + i) = rsS σ nr ng rd (ng - q) i) → Cp g 4 m_X8_giveWisely 0 0 Q 47 [(0, vr 139), (1, vi (q : Int)), (2, vi (m : Int))] [] (TT Ls tl) I1 L (RR tl) := by
        intro k2
        induction k2 with
        | zero =>
          intro m I1 hm f hc hd
          have hX1 := MX_frb hX f (by omega)
          have e0 : I1 139 0 = (nr : Int) := hX1.1
          refine r_iload_n d_X8_giveWisely_47 rfl ?_
          refine r_iconst d_X8_giveWisely_48 ?_
          refine r_aload_n d_X8_giveWisely_49 rfl ?_
          refine r_geti d_X8_giveWisely_50 f_X8_232 (tt_139 _ _) (by decide) (by decide) ?_
          rw [e0]
          refine r_ishl d_X8_giveWisely_53 ?_
          rw [esh]
          refine r_icmp_ge d_X8_giveWisely_54 (by omega) (by omega) (fun c54 => ?_) (fun c54 => absurd c54 (by omega))
          refine r_iinc d_X8_giveWisely_142 rfl (by decide) ?_
          refine r_goto d_X8_giveWisely_145 ?_
          refine CpL (ih I1 (by omega) f (fun x h1 h2 m' hm' => ?_)) (by repeat (first | exact trivial | refine ⟨rfl, ?_⟩))
          by_cases e : x = q
          · rw [e]; exact hd m' (by omega)
          · exact hc x (by omega) h2 m' hm'
        | succ k2 ih2 =>
          intro m I1 hm f hc hd
          have hX1 := MX_frb hX f (by omega)
          have e0 : I1 139 0 = (nr : Int) := hX1.1
          have hmW : m < W := by omega
          have hrd1 : ∀ r, r < nr → I1 179 r = rd r ∧ -1 ≤ rd r ∧ rd r ≤ 44 := fun r hr => by rw [f 179 (by omega)]; exact hrd r hr
          obtain ⟨bs, hbs⟩ : ∃ bs, bs = cstS σ rd q (-1) + rsS σ nr ng rd (ng - (q + 1)) m := ⟨_, rfl⟩
          obtain ⟨F, hF⟩ : ∃ F : Nat → Int, F = fun (r : Nat) => cstS σ rd q (r : Int) + rsS σ nr ng rd (ng - (q + 1)) (m ||| 2 ^ r) := ⟨_, rfl⟩
          obtain ⟨ok, hok⟩ : ∃ ok : Nat → Bool, ok = fun r => cnH σ rd q m r := ⟨_, rfl⟩
          have ers : rsS σ nr ng rd (ng - q) m = mnR bs ok F nr := by
            rw [en]
            show mnR _ _ _ nr = _
            rw [← en, eg, hbs, hF, hok]
          have hn0 : nxM m (-1) = m := if_pos rfl
          have c0 := (cst_bd (rd := rd) (p := -1) (v3 q hq) (Or.inl rfl)).2
          have c00 := rbd (ng - (q + 1)) m (by omega)
          have bbd : 0 ≤ bs ∧ bs ≤ 3960 := by rw [hbs]; omega
          have Fbd : ∀ r, r < nr → 0 ≤ F r ∧ F r ≤ 3960 := fun r hr => by
            have c1 := (cst_bd (rd := rd) (p := (r : Int)) (v3 q hq) (Or.inr (hrd r hr).2)).2
            have c2 := rbd (ng - (q + 1)) (m ||| 2 ^ r) (by omega)
            rw [hF]
            show 0 ≤ cstS σ rd q (r : Int) + rsS σ nr ng rd (ng - (q + 1)) (m ||| 2 ^ r) ∧ cstS σ rd q (r : Int) + rsS σ nr ng rd (ng - (q + 1)) (m ||| 2 ^ r) ≤ 3960
            omega
          have mbd : ∀ b, b ≤ nr → 0 ≤ mnR bs ok F b ∧ mnR bs ok F b ≤ 3960 := fun b hb => by
            obtain ⟨n1, n2, n3⟩ := mn_le (b := bs) (ok := ok) (f := F) b
            rcases n3 with h | ⟨i, i1, i2, h⟩
            · omega
            · have := Fbd i (by omega); omega
          have hby0 := x_by (g := g) (Ls := Ls) (tl := tl) (L := L) hV hX1 hrd1 hq (show m < 256 by omega) (p := -1) (v := rsS σ nr ng rd (ng - (q + 1)) m) (by omega) (by rw [hn0]; exact hc (q + 1) (by omega) (by omega) m hmW)
          rw [← hbs] at hby0
          have rooms : ∀ (k3 b : Nat), b + k3 = nr → Cp g 4 m_X8_giveWisely 0 0 Q 68 [(0, vr 139), (1, vi (q : Int)), (2, vi (m : Int)), (3, vi (mnR bs ok F b)), (4, vi (b : Int))] [] (TT Ls tl) I1 L (RR tl) := by
            intro k3
            induction k3 with
            | zero =>
              intro b hb
              have hb2 : b = nr := by omega
              have ers2 : mnR bs ok F b = rsS σ nr ng rd (ng - q) m := by rw [ers, hb2]
              refine r_iload d_X8_giveWisely_68 rfl ?_
              refine r_aload_n d_X8_giveWisely_70 rfl ?_
              refine r_geti d_X8_giveWisely_71 f_X8_232 (tt_139 _ _) (by decide) (by decide) ?_
              refine r_icmp_ge d_X8_giveWisely_74 (by omega) (by omega) (fun c74 => ?_) (fun c74 => absurd c74 (by omega))
              refine r_aload_n d_X8_giveWisely_123 rfl ?_
              refine r_getr d_X8_giveWisely_124 f_X8_145 (tt_139 _ _) (by decide) rfl (rr_139_64 _) ?_
              refine r_sipush d_X8_giveWisely_127 (by decide) ?_
              refine r_iload_n d_X8_giveWisely_130 rfl ?_
              refine r_imul d_X8_giveWisely_131 ?_
              refine r_iload_n d_X8_giveWisely_132 rfl ?_
              refine r_iadd d_X8_giveWisely_133 ?_
              refine r_iload_n d_X8_giveWisely_134 rfl ?_
              refine r_iastJ (j := 256 * q + m) d_X8_giveWisely_135 (tt_182 _ _) (by omega) (by omega) (by omega) (kk := ?_)
              refine r_iinc d_X8_giveWisely_136 rfl (by decide) ?_
              refine r_goto d_X8_giveWisely_139 ?_
              refine CpL (ih2 (m + 1) (up2 I1 182 (256 * q + m) (mnR bs ok F b)) (by omega) (fun a ha => by rw [up2_ne _ _ (by omega)]; exact f a ha) (fun x h1 h2 m' hm' => by rw [up2_nj _ _ (by omega)]; exact hc x h1 h2 m' hm') (fun i hi => ?_)) (by repeat (first | exact trivial | refine ⟨rfl, ?_⟩))
              by_cases e : i = m
              · rw [e, up2_at]; exact ers2
              · rw [up2_nj _ _ (by omega)]; exact hd i (by omega)
            | succ k3 ih3 =>
              intro b hb
              have hbn : b < nr := by omega
              have hcn := x_canHave (g := g) (Ls := Ls) (tl := tl) (L := L) hV hX1 hrd1 hq hbn (show m < 256 by omega)
              rw [show cnH σ rd q m b = ok b by rw [hok]] at hcn
              have es : mnR bs ok F (b + 1) = if ok b = true ∧ F b < mnR bs ok F b then F b else mnR bs ok F b := rfl
              have mb := mbd b (by omega)
              cases hkb : ok b with
              | false =>
                rw [hkb, if_neg (by decide)] at hcn
                rw [hkb, if_neg (fun h => by cases h.1)] at es
                refine r_iload d_X8_giveWisely_68 rfl ?_
                refine r_aload_n d_X8_giveWisely_70 rfl ?_
                refine r_geti d_X8_giveWisely_71 f_X8_232 (tt_139 _ _) (by decide) (by decide) ?_
                refine r_icmp_ge d_X8_giveWisely_74 (by omega) (by omega) (fun c74 => absurd c74 (by omega)) (fun c74 => ?_)
                refine r_aload_n d_X8_giveWisely_77 rfl ?_
                refine r_iload_n d_X8_giveWisely_78 rfl ?_
                refine r_iload d_X8_giveWisely_79 rfl ?_
                refine r_iload_n d_X8_giveWisely_81 rfl ?_
                refine r_V3i d_X8_giveWisely_82 (w_X8_342 _ rfl) (tt_139 _ _) rfl rfl (hcn) (by decide) (Nat.le_of_ble_eq_true rfl) (fun z82 T82 I82 L82 R82 h82 => ?_)
                obtain ⟨rfl, rfl, rfl, rfl, rfl⟩ := h82
                refine r_if_eq d_X8_giveWisely_85 (by omega) (fun c85 => ?_) (fun c85 => absurd c85 (by decide))
                refine r_ldcw d_X8_giveWisely_99 (k_X8_314 _ rfl) ?_
                refine r_istore d_X8_giveWisely_102 (by decide) ?_
                refine r_iload d_X8_giveWisely_104 rfl ?_
                refine r_iload_n d_X8_giveWisely_106 rfl ?_
                refine r_icmp_ge d_X8_giveWisely_107 (by omega) (by omega) (fun c107 => ?_) (fun c107 => absurd c107 (by omega))
                refine r_iload_n d_X8_giveWisely_115 rfl ?_
                refine r_istore_n d_X8_giveWisely_116 (by decide) ?_
                refine r_iinc d_X8_giveWisely_117 rfl (by decide) ?_
                refine r_goto d_X8_giveWisely_120 ?_
                exact CpL (ih3 (b + 1) (by omega)) (by repeat (first | exact trivial | refine ⟨rfl, ?_⟩ | refine ⟨by rw [es]; rfl, ?_⟩))
              | true =>
                rw [hkb, if_pos rfl] at hcn
                have enx : nxM m (b : Int) = m ||| 2 ^ b := by unfold nxM; rw [if_neg (by omega), Int.toNat_natCast]
                have hnl := nx hmW (p := (b : Int)) (by omega)
                have hby := x_by (g := g) (Ls := Ls) (tl := tl) (L := L) hV hX1 hrd1 hq (show m < 256 by omega) (p := (b : Int)) (by omega) (hc (q + 1) (by omega) (by omega) _ hnl)
                rw [enx, show cstS σ rd q (b : Int) + rsS σ nr ng rd (ng - (q + 1)) (m ||| 2 ^ b) = F b by rw [hF]] at hby
                have fb := Fbd b hbn
                by_cases hlt : F b < mnR bs ok F b
                · rw [if_pos ⟨hkb, hlt⟩] at es
                  refine r_iload d_X8_giveWisely_68 rfl ?_
                  refine r_aload_n d_X8_giveWisely_70 rfl ?_
                  refine r_geti d_X8_giveWisely_71 f_X8_232 (tt_139 _ _) (by decide) (by decide) ?_
                  refine r_icmp_ge d_X8_giveWisely_74 (by omega) (by omega) (fun c74 => absurd c74 (by omega)) (fun c74 => ?_)
                  refine r_aload_n d_X8_giveWisely_77 rfl ?_
                  refine r_iload_n d_X8_giveWisely_78 rfl ?_
                  refine r_iload d_X8_giveWisely_79 rfl ?_
                  refine r_iload_n d_X8_giveWisely_81 rfl ?_
                  refine r_V3i d_X8_giveWisely_82 (w_X8_342 _ rfl) (tt_139 _ _) rfl rfl (hcn) (by decide) (Nat.le_of_ble_eq_true rfl) (fun z82 T82 I82 L82 R82 h82 => ?_)
                  obtain ⟨rfl, rfl, rfl, rfl, rfl⟩ := h82
                  refine r_if_eq d_X8_giveWisely_85 (by omega) (fun c85 => absurd c85 (by decide)) (fun c85 => ?_)
                  refine r_aload_n d_X8_giveWisely_88 rfl ?_
                  refine r_iload_n d_X8_giveWisely_89 rfl ?_
                  refine r_iload_n d_X8_giveWisely_90 rfl ?_
                  refine r_iload d_X8_giveWisely_91 rfl ?_
                  refine r_V3i d_X8_giveWisely_93 (w_X8_348 _ rfl) (tt_139 _ _) rfl rfl (hby) (by decide) (Nat.le_of_ble_eq_true rfl) (fun z93 T93 I93 L93 R93 h93 => ?_)
                  obtain ⟨rfl, rfl, rfl, rfl, rfl⟩ := h93
                  refine r_goto d_X8_giveWisely_96 ?_
                  refine r_istore d_X8_giveWisely_102 (by decide) ?_
                  refine r_iload d_X8_giveWisely_104 rfl ?_
                  refine r_iload_n d_X8_giveWisely_106 rfl ?_
                  refine r_icmp_ge d_X8_giveWisely_107 (by omega) (by omega) (fun c107 => absurd c107 (by omega)) (fun c107 => ?_)
                  refine r_iload d_X8_giveWisely_110 rfl ?_
                  refine r_goto d_X8_giveWisely_112 ?_
                  refine r_istore_n d_X8_giveWisely_116 (by decide) ?_
                  refine r_iinc d_X8_giveWisely_117 rfl (by decide) ?_
                  refine r_goto d_X8_giveWisely_120 ?_
                  exact CpL (ih3 (b + 1) (by omega)) (by repeat (first | exact trivial | refine ⟨rfl, ?_⟩ | refine ⟨by rw [es]; rfl, ?_⟩))
                · rw [if_neg (fun h => hlt h.2)] at es
                  refine r_iload d_X8_giveWisely_68 rfl ?_
                  refine r_aload_n d_X8_giveWisely_70 rfl ?_
                  refine r_geti d_X8_giveWisely_71 f_X8_232 (tt_139 _ _) (by decide) (by decide) ?_
                  refine r_icmp_ge d_X8_giveWisely_74 (by omega) (by omega) (fun c74 => absurd c74 (by omega)) (fun c74 => ?_)
                  refine r_aload_n d_X8_giveWisely_77 rfl ?_
                  refine r_iload_n d_X8_giveWisely_78 rfl ?_
                  refine r_iload d_X8_giveWisely_79 rfl ?_
                  refine r_iload_n d_X8_giveWisely_81 rfl ?_
                  refine r_V3i d_X8_giveWisely_82 (w_X8_342 _ rfl) (tt_139 _ _) rfl rfl (hcn) (by decide) (Nat.le_of_ble_eq_true rfl) (fun z82 T82 I82 L82 R82 h82 => ?_)
                  obtain ⟨rfl, rfl, rfl, rfl, rfl⟩ := h82
                  refine r_if_eq d_X8_giveWisely_85 (by omega) (fun c85 => absurd c85 (by decide)) (fun c85 => ?_)
                  refine r_aload_n d_X8_giveWisely_88 rfl ?_
                  refine r_iload_n d_X8_giveWisely_89 rfl ?_
                  refine r_iload_n d_X8_giveWisely_90 rfl ?_
                  refine r_iload d_X8_giveWisely_91 rfl ?_
                  refine r_V3i d_X8_giveWisely_93 (w_X8_348 _ rfl) (tt_139 _ _) rfl rfl (hby) (by decide) (Nat.le_of_ble_eq_true rfl) (fun z93 T93 I93 L93 R93 h93 => ?_)
                  obtain ⟨rfl, rfl, rfl, rfl, rfl⟩ := h93
                  refine r_goto d_X8_giveWisely_96 ?_
                  refine r_istore d_X8_giveWisely_102 (by decide) ?_
                  refine r_iload d_X8_giveWisely_104 rfl ?_
                  refine r_iload_n d_X8_giveWisely_106 rfl ?_
                  refine r_icmp_ge d_X8_giveWisely_107 (by omega) (by omega) (fun c107 => ?_) (fun c107 => absurd c107 (by omega))
                  refine r_iload_n d_X8_giveWisely_115 rfl ?_
                  refine r_istore_n d_X8_giveWisely_116 (by decide) ?_
                  refine r_iinc d_X8_giveWisely_117 rfl (by decide) ?_
                  refine r_goto d_X8_giveWisely_120 ?_
                  exact CpL (ih3 (b + 1) (by omega)) (by repeat (first | exact trivial | refine ⟨rfl, ?_⟩ | refine ⟨by rw [es]; rfl, ?_⟩))
          refine r_iload_n d_X8_giveWisely_47 rfl ?_
          refine r_iconst d_X8_giveWisely_48 ?_
          refine r_aload_n d_X8_giveWisely_49 rfl ?_
          refine r_geti d_X8_giveWisely_50 f_X8_232 (tt_139 _ _) (by decide) (by decide) ?_
          rw [e0]
          refine r_ishl d_X8_giveWisely_53 ?_
          rw [esh]
          refine r_icmp_ge d_X8_giveWisely_54 (by omega) (by omega) (fun c54 => absurd c54 (by omega)) (fun c54 => ?_)
          refine r_aload_n d_X8_giveWisely_57 rfl ?_
          refine r_iload_n d_X8_giveWisely_58 rfl ?_
          refine r_iload_n d_X8_giveWisely_59 rfl ?_
          refine r_iconst d_X8_giveWisely_60 ?_
          refine r_V3i d_X8_giveWisely_61 (w_X8_348 _ rfl) (tt_139 _ _) rfl rfl (hby0) (by decide) (Nat.le_of_ble_eq_true rfl) (fun z61 T61 I61 L61 R61 h61 => ?_)
          obtain ⟨rfl, rfl, rfl, rfl, rfl⟩ := h61
          refine r_istore_n d_X8_giveWisely_64 (by decide) ?_
          refine r_iconst d_X8_giveWisely_65 ?_
          refine r_istore d_X8_giveWisely_66 (by decide) ?_
          exact CpL (rooms nr 0 (by omega)) (by repeat (first | exact trivial | refine ⟨rfl, ?_⟩))
      have e9 : ((q + 1 : Nat) : Int) - 1 = (q : Int) := by omega
      rw [e9]
      refine r_iload_n d_X8_giveWisely_41 rfl ?_
      refine r_if_lt d_X8_giveWisely_42 (by omega) (fun c42 => absurd c42 (by omega)) (fun c42 => ?_)
      refine r_iconst d_X8_giveWisely_45 ?_
      refine r_istore_n d_X8_giveWisely_46 (by decide) ?_
      exact CpL (sets W 0 I1 (by omega) f hc (fun i hi => absurd hi (by omega))) (by repeat (first | exact trivial | refine ⟨rfl, ?_⟩))
  -- zeros
  have zeros : ∀ (k m : Nat) (I1 : sI), m + k = W → frb 181 183 I I1 → (∀ i, i < m → I1 182 (256 * ng + i) = 0) → Cp g 4 m_X8_giveWisely 0 0 Q 2 [(0, vr 139), (1, vi (m : Int))] [] (TT Ls tl) I1 L (RR tl) := by
    intro k
    induction k with
    | zero =>
      intro m I1 hm f hd
      have hX1 := MX_frb hX f (by omega)
      have e0 : I1 139 0 = (nr : Int) := hX1.1
      have e12 : I1 139 12 = (ng : Int) := hX1.2.1
      refine r_iload_n d_X8_giveWisely_2 rfl ?_
      refine r_iconst d_X8_giveWisely_3 ?_
      refine r_aload_n d_X8_giveWisely_4 rfl ?_
      refine r_geti d_X8_giveWisely_5 f_X8_232 (tt_139 _ _) (by decide) (by decide) ?_
      rw [e0]
      refine r_ishl d_X8_giveWisely_8 ?_
      rw [esh]
      refine r_icmp_ge d_X8_giveWisely_9 (by omega) (by omega) (fun c9 => ?_) (fun c9 => absurd c9 (by omega))
      refine r_aload_n d_X8_giveWisely_34 rfl ?_
      refine r_geti d_X8_giveWisely_35 f_X8_238 (tt_139 _ _) (by decide) (by decide) ?_
      rw [e12]
      refine r_iconst d_X8_giveWisely_38 ?_
      refine r_isub d_X8_giveWisely_39 ?_
      refine r_istore_n d_X8_giveWisely_40 (by decide) ?_
      refine CpL (rests ng I1 (by omega) f (fun x h1 h2 m' hm' => ?_)) (by repeat (first | exact trivial | refine ⟨rfl, ?_⟩))
      rw [show x = ng by omega, Nat.sub_self]
      exact hd m' (by omega)
    | succ k ih =>
      intro m I1 hm f hd
      have hX1 := MX_frb hX f (by omega)
      have e0 : I1 139 0 = (nr : Int) := hX1.1
      have e12 : I1 139 12 = (ng : Int) := hX1.2.1
      refine r_iload_n d_X8_giveWisely_2 rfl ?_
      refine r_iconst d_X8_giveWisely_3 ?_
      refine r_aload_n d_X8_giveWisely_4 rfl ?_
      refine r_geti d_X8_giveWisely_5 f_X8_232 (tt_139 _ _) (by decide) (by decide) ?_
      rw [e0]
      refine r_ishl d_X8_giveWisely_8 ?_
      rw [esh]
      refine r_icmp_ge d_X8_giveWisely_9 (by omega) (by omega) (fun c9 => absurd c9 (by omega)) (fun c9 => ?_)
      refine r_aload_n d_X8_giveWisely_12 rfl ?_
      refine r_getr d_X8_giveWisely_13 f_X8_145 (tt_139 _ _) (by decide) rfl (rr_139_64 _) ?_
      refine r_sipush d_X8_giveWisely_16 (by decide) ?_
      refine r_aload_n d_X8_giveWisely_19 rfl ?_
      refine r_geti d_X8_giveWisely_20 f_X8_238 (tt_139 _ _) (by decide) (by decide) ?_
      refine r_imul d_X8_giveWisely_23 ?_
      refine r_iload_n d_X8_giveWisely_24 rfl ?_
      refine r_iadd d_X8_giveWisely_25 ?_
      refine r_iconst d_X8_giveWisely_26 ?_
      refine r_iastJ (j := 256 * ng + m) d_X8_giveWisely_27 (tt_182 _ _) (by omega) (by omega) (by omega) (kk := ?_)
      refine r_iinc d_X8_giveWisely_28 rfl (by decide) ?_
      refine r_goto d_X8_giveWisely_31 ?_
      refine CpL (ih (m + 1) (up2 I1 182 (256 * ng + m) 0) (by omega) (fun a ha => by rw [up2_ne _ _ (by omega)]; exact f a ha) (fun i hi => ?_)) (by repeat (first | exact trivial | refine ⟨rfl, ?_⟩))
      by_cases e : i = m
      · rw [e, up2_at]
      · rw [up2_nj _ _ (by omega)]; exact hd i (by omega)
  refine r_iconst d_X8_giveWisely_0 ?_
  refine r_istore_n d_X8_giveWisely_1 (by decide) ?_
  exact CpL (zeros W 0 I (by omega) frb_rf (fun i hi => absurd hi (by omega))) (by repeat (first | exact trivial | refine ⟨rfl, ?_⟩))
theorem x_giveAll (hV : MV σ ℓ nr nW ng) (hX : MX σ nr nW ng I) (hrd : ∀ r, r < nr → I 179 r = rd r ∧ -1 ≤ rd r ∧ rd r ≤ 44) {ar : Nat → Nat} (a1 : ∀ i, i < ng → ar i < ng) (a2 : ∀ i j, i < j → j < ng → bef σ (ar i) (ar j)) {how : Int} (hh : how = 0 ∨ how = 1) : Mc g 5 m_X8_giveAll 0 0 [vr 139, vi how] (TT Ls tl) I L (RR tl) (qI fun z T' I' L' R' => T' = TT Ls tl ∧ R' = RR tl ∧ L' = L ∧ frb 181 183 I I' ∧ GVX σ nr ng rd how z (I' 181) ∧ ∀ q, q < ng → -1 ≤ I' 181 q ∧ I' 181 q < nr) := by
  refine Mc_of rfl (Nat.le_of_ble_eq_true rfl) ?_
  obtain ⟨⟨s1, s2, s3, s4, s5⟩, v2, v3, v4⟩ := id hV
  obtain ⟨Q, hQ⟩ : ∃ Q : sQ, Q = (qI fun z T' I' L' R' => T' = TT Ls tl ∧ R' = RR tl ∧ L' = L ∧ frb 181 183 I I' ∧ GVX σ nr ng rd how z (I' 181) ∧ ∀ q, q < ng → -1 ≤ I' 181 q ∧ I' 181 q < nr) := ⟨_, rfl⟩
  rw [← hQ]
  have loop : ∀ (I1 : sI), frb 181 183 I I1 → (∀ q, q < ng → -1 ≤ I1 181 q ∧ I1 181 q < nr) → GVX σ nr ng rd how (sumN (fun q => cstS σ rd q (I1 181 q)) ng) (I1 181) → ∀ (k b : Nat), b + k = ng → Cp g 5 m_X8_giveAll 0 0 Q 19 [(0, vr 139), (1, vi how), (2, vi (sumN (fun q => cstS σ rd q (I1 181 q)) b)), (3, vi (b : Int))] [] (TT Ls tl) I1 L (RR tl) := by
    intro I1 f hrg hG k
    have hX1 := MX_frb hX f (by omega)
    have e12 : I1 139 12 = (ng : Int) := hX1.2.1
    have hrd1 : ∀ r, r < nr → I1 179 r = rd r ∧ -1 ≤ rd r ∧ rd r ≤ 44 := fun r hr => by rw [f 179 (by omega)]; exact hrd r hr
    induction k with
    | zero =>
      intro b hb
      have hb2 : b = ng := by omega
      refine r_iload_n d_X8_giveAll_19 rfl ?_
      refine r_aload_n d_X8_giveAll_20 rfl ?_
      refine r_geti d_X8_giveAll_21 f_X8_238 (tt_139 _ _) (by decide) (by decide) ?_
      refine r_icmp_ge d_X8_giveAll_24 (by omega) (by omega) (fun c24 => ?_) (fun c24 => absurd c24 (by omega))
      refine r_iload_n d_X8_giveAll_47 rfl ?_
      refine r_iret d_X8_giveAll_48 rfl ?_
      rw [hQ]
      exact ⟨_, rfl, rfl, rfl, rfl, f, by rw [hb2]; exact hG, hrg⟩
    | succ k ih =>
      intro b hb
      have hbn : b < ng := by omega
      refine r_iload_n d_X8_giveAll_19 rfl ?_
      refine r_aload_n d_X8_giveAll_20 rfl ?_
      refine r_geti d_X8_giveAll_21 f_X8_238 (tt_139 _ _) (by decide) (by decide) ?_
      refine r_icmp_ge d_X8_giveAll_24 (by omega) (by omega) (fun c24 => absurd c24 (by omega)) (fun c24 => ?_)
      refine r_iload_n d_X8_giveAll_27 rfl ?_
      refine r_aload_n d_X8_giveAll_28 rfl ?_
      refine r_iload_n d_X8_giveAll_29 rfl ?_
      refine r_aload_n d_X8_giveAll_30 rfl ?_
      refine r_getr d_X8_giveAll_31 f_X8_142 (tt_139 _ _) (by decide) rfl (rr_139_63 _) ?_
      refine r_iload_n d_X8_giveAll_34 rfl ?_
      refine r_ialdJ d_X8_giveAll_35 (tt_181 _ _) rfl (by omega) (kk := ?_)
      refine r_V2i d_X8_giveAll_36 (w_X8_345 _ rfl) (tt_139 _ _) rfl rfl (x_costOf hV hX1 hrd1 hbn (hrg b hbn)) (by decide) (Nat.le_of_ble_eq_true rfl) (fun z36 T36 I36 L36 R36 h36 => ?_)
      obtain ⟨rfl, rfl, rfl, rfl, rfl⟩ := h36
      refine r_iadd d_X8_giveAll_39 ?_
      refine r_istore_n d_X8_giveAll_40 (by decide) ?_
      refine r_iinc d_X8_giveAll_41 rfl (by decide) ?_
      refine r_goto d_X8_giveAll_44 ?_
      exact CpL (ih (b + 1) (by omega)) (by repeat (first | exact trivial | refine ⟨rfl, ?_⟩))
  rcases hh with rfl | rfl
  · skip
    refine r_iload_n d_X8_giveAll_0 rfl ?_
    refine r_if_ne d_X8_giveAll_1 (by omega) (fun c1 => absurd c1 (by decide)) (fun c1 => ?_)
    refine r_aload_n d_X8_giveAll_4 rfl ?_
    refine r_V0v d_X8_giveAll_5 (w_X8_351 _ rfl) (tt_139 _ _) rfl rfl (x_giveAsTheyCome hV hX hrd a1 a2) (by decide) (Nat.le_of_ble_eq_true rfl) (fun T5 I5 L5 R5 h5 => ?_)
    obtain ⟨rfl, rfl, rfl, y1, y2⟩ := h5
    refine r_goto d_X8_giveAll_8 ?_
    refine r_iconst d_X8_giveAll_15 ?_
    refine r_istore_n d_X8_giveAll_16 (by decide) ?_
    refine r_iconst d_X8_giveAll_17 ?_
    refine r_istore_n d_X8_giveAll_18 (by decide) ?_
    refine CpL (loop I5 (fun a ha => y1 a (by omega)) (fun q hq => ?_) (Or.inl ⟨rfl, ar, a1, a2, as_sum a1 a2 y2, y2⟩) ng 0 (by omega)) (by repeat (first | exact trivial | refine ⟨rfl, ?_⟩))
    obtain ⟨i, i1, i2⟩ := perm_onto a1 (fun i j hi hj e => ar_inj a2 hi hj e) q hq
    rw [← i2, y2 i i1]
    exact amin_rng _ _ _
  · skip
    refine r_iload_n d_X8_giveAll_0 rfl ?_
    refine r_if_ne d_X8_giveAll_1 (by omega) (fun c1 => ?_) (fun c1 => absurd c1 (by decide))
    refine r_aload_n d_X8_giveAll_11 rfl ?_
    refine r_V0v d_X8_giveAll_12 (w_X8_354 _ rfl) (tt_139 _ _) rfl rfl (x_giveWisely hV hX hrd) (by decide) (Nat.le_of_ble_eq_true rfl) (fun T12 I12 L12 R12 h12 => ?_)
    obtain ⟨rfl, rfl, rfl, y1, y2⟩ := h12
    refine r_iconst d_X8_giveAll_15 ?_
    refine r_istore_n d_X8_giveAll_16 (by decide) ?_
    refine r_iconst d_X8_giveAll_17 ?_
    refine r_istore_n d_X8_giveAll_18 (by decide) ?_
    obtain ⟨a, o1, o2, o3⟩ := wise_opt rfl s1 v2 (fun r hr => (hrd r hr).2) v3 y2
    have vl := VLD_glb ng 0 (Nat.le_refl _) (ky_cost ng 0 (Nat.le_refl _) y2).1
    refine CpL (loop I12 y1 (fun q hq => ?_) (Or.inr ⟨rfl, a, o1, o2, o3⟩) ng 0 (by omega)) (by repeat (first | exact trivial | refine ⟨rfl, ?_⟩))
    rcases vl.1 q (by omega) hq with h | ⟨r, h, hr, -⟩
    · rw [h]; omega
    · rw [h]; omega
end X86
