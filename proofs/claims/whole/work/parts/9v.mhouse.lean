/-! the reference: a house -/
theorem ARV_S {σ : Sg} {ng : Nat} {A : Nat → Int} (h : ARV σ ng A) : ARS σ ng := by
  obtain ⟨ar, h1, h2⟩ := h
  exact ⟨ar, fun i hi => (h1 i hi).2, h2⟩
section X9v
variable {g : sG} {Ls : Nat} {tl : List Nat} {I L : sI} {pg : Nat → Int} {len p : Nat} {D0 D : Sg} {σ : Sg} {ℓ : Int} {nr nw ng nr0 nw0 ng0 : Nat} {ukd unn : Nat → Int} {utr utw : Nat → Nat → Nat}
theorem x_house_no (hP : PGM pg len I) (h0 : iniA D0) (h4 : ∀ i, D0 4 i = -1) (hrow : ROW D0 I) (hst : stpA pg len D0 p D) (hno : ¬ (p = len ∧ D 20 7 = 23)) : Mc g 6 m_X8_house 0 0 [vr 139] (TT Ls tl) I L (RR tl) (qI fun z T' I' L' R' => T' = TT Ls tl ∧ R' = RR tl ∧ L' = L ∧ FHM I I' ∧ z = -103) := by
  refine Mc_of rfl (Nat.le_of_ble_eq_true rfl) ?_
  refine r_aload_n d_X8_house_0 rfl ?_
  refine r_V0v d_X8_house_1 (w_X8_226 _ rfl) (tt_139 _ _) rfl rfl (x_readHouse hP h0 h4 hrow) (by decide) (Nat.le_of_ble_eq_true rfl) (fun T1 I1 L1 R1 h1 => ?_)
  obtain ⟨rfl, rfl, rfl, f, p', D', y1, y2, y3, y4⟩ := h1
  obtain ⟨ep, eD⟩ := stp_uq y1 hst
  subst ep
  subst eD
  rw [if_neg hno] at y3
  refine r_aload_n d_X8_house_4 rfl ?_
  refine r_geti d_X8_house_5 f_X8_222 (tt_139 _ _) (by decide) (by decide) ?_
  rw [y3]
  refine r_if_ne d_X8_house_8 (by omega) (fun c8 => absurd c8 (by decide)) (fun c8 => ?_)
  refine r_bipush d_X8_house_11 (by decide) ?_
  refine r_iret d_X8_house_13 rfl ?_
  exact ⟨_, rfl, rfl, rfl, rfl, f, rfl⟩
theorem x_house_yes (hM : MS σ ℓ nr0 nw0 ng0 tl ukd unn utr utw I) (hk18 : 0 ≤ I 139 18 ∧ I 139 18 ≤ 10000) (hP : PGM pg len I) (h0 : iniA D0) (h4 : ∀ i, D0 4 i = -1) (hrow : ROW D0 I) (hst : stpA pg len D0 p D) (hy : p = len ∧ D 20 7 = 23) (hHV : HV (sgA D) nr nw ng) (hAR : ARS (sgA D) ng) (d0 : D 20 0 = (nr : Int)) (d1 : D 20 1 = (nw : Int)) (d2 : D 20 2 = (ng : Int)) : Mc g 6 m_X8_house 0 0 [vr 139] (TT Ls tl) I L (RR tl) (qI fun z T' I' L' R' => T' = TT Ls tl ∧ R' = RR tl ∧ L' = L ∧ z = (nr : Int) ∧ MS (sgA D) ℓ nr nw ng tl ukd unn utr utw I' ∧ I' 139 23 = 0 ∧ I' 139 18 = I 139 18 + 1 ∧ (∀ a, (a < 139 ∨ 186 ≤ a ∨ (154 ≤ a ∧ a ≤ 158)) → I' a = I a) ∧ (∀ k, (k = 17 ∨ k = 19 ∨ k = 25 ∨ k = 26 ∨ k = 27 ∨ k = 28) → I' 139 k = I 139 k)) := by
  refine Mc_of rfl (Nat.le_of_ble_eq_true rfl) ?_
  obtain ⟨hV0, h30, hcan0, hA0, hX0, hl0, hwm0, hN0, hR0⟩ := id hM
  obtain ⟨v1, v2, v3, v4, v5, v6, v7⟩ := id hHV
  obtain ⟨Q, hQ⟩ : ∃ Q : sQ, Q = (qI fun z T' I' L' R' => T' = TT Ls tl ∧ R' = RR tl ∧ L' = L ∧ z = (nr : Int) ∧ MS (sgA D) ℓ nr nw ng tl ukd unn utr utw I' ∧ I' 139 23 = 0 ∧ I' 139 18 = I 139 18 + 1 ∧ (∀ a, (a < 139 ∨ 186 ≤ a ∨ (154 ≤ a ∧ a ≤ 158)) → I' a = I a) ∧ (∀ k, (k = 17 ∨ k = 19 ∨ k = 25 ∨ k = 26 ∨ k = 27 ∨ k = 28) → I' 139 k = I 139 k)) := ⟨_, rfl⟩
  rw [← hQ]
  have main : ∀ J : sI, (J 139 0 = (nr : Int) ∧ J 139 8 = (nw : Int) ∧ J 139 12 = (ng : Int)) → (∀ a, (a < 139 ∨ 186 ≤ a ∨ (154 ≤ a ∧ a ≤ 158)) → J a = I a) → (∀ k, (k = 17 ∨ k = 18 ∨ k = 19 ∨ k = 25 ∨ k = 26 ∨ k = 27 ∨ k = 28) → J 139 k = I 139 k) → IVA D → (∀ r, r < nr → J 159 r = D 0 r ∧ J 160 r = D 1 r ∧ J 161 r = D 2 r ∧ J 162 r = D 3 r ∧ J 163 r = D 4 r ∧ J 164 r = D 5 r) → (∀ w, w < nw → J 165 w = D 7 w ∧ J 166 w = D 8 w ∧ J 167 w = D 9 w) → (∀ q, q < ng → J 168 q = D 10 q ∧ J 169 q = D 11 q ∧ J 170 q = D 12 q ∧ J 171 q = D 13 q) → Cp g 6 m_X8_house 0 0 Q 40 [(0, vr 139), (1, vi 0)] [] (TT Ls tl) J L (RR tl) := by
    intro J hc fJ kJ hIV rr rw_ rg
    have t249 : ∀ I3 : sI, (∀ a, (a < 140 ∨ 154 ≤ a) → I3 a = J a) → (∀ r, r < nr → ∀ k, k < 7 → I3 (140 + k) r = sgA D k r) → (∀ w, w < nw → ∀ k, k < 3 → I3 (147 + k) w = sgA D (7 + k) w) → (∀ q, q < ng → ∀ k, k < 4 → I3 (150 + k) q = sgA D (10 + k) q) → Cp g 6 m_X8_house 0 0 Q 249 [(0, vr 139)] [] (TT Ls tl) I3 L (RR tl) := by
      intro I3 f3 h1 h2 h3
      have e18 : I3 139 18 = I 139 18 := by rw [f3 139 (by omega), kJ 18 (by omega)]
      obtain ⟨I4, hI4⟩ : ∃ I4 : sI, I4 = up2 (up2 (up2 (up2 I3 139 18 (I 139 18 + 1)) 173 0 0) 173 1 0) 139 23 0 := ⟨_, rfl⟩
      have g1 : ∀ a, a ≠ 139 → a ≠ 173 → I4 a = I3 a := fun a q1 q2 => by rw [hI4, up2_ne _ _ q1, up2_ne _ _ q2, up2_ne _ _ q2, up2_ne _ _ q1]
      have g2 : ∀ k, k ≠ 18 → k ≠ 23 → I4 139 k = I3 139 k := fun k q1 q2 => by rw [hI4, up2_nj _ _ q2, up2_ne _ _ (by decide), up2_ne _ _ (by decide), up2_nj _ _ q1]
      have g3 : I4 139 18 = I 139 18 + 1 := by rw [hI4, up2_nj _ _ (by decide), up2_ne _ _ (by decide), up2_ne _ _ (by decide), up2_at]
      have g4 : I4 139 23 = 0 := by rw [hI4, up2_at]
      have g5 : I4 173 0 = 0 := by rw [hI4, up2_ne _ _ (by decide), up2_nj _ _ (by decide), up2_at]
      have g6 : I4 173 1 = 0 := by rw [hI4, up2_ne _ _ (by decide), up2_at]
      have kk : ∀ k, (k = 17 ∨ k = 19 ∨ k = 25 ∨ k = 26 ∨ k = 27 ∨ k = 28) → I4 139 k = I 139 k := fun k hk => by rw [g2 k (by omega) (by omega), f3 139 (by omega), kJ k (by omega)]
      have aa : ∀ a, (a < 139 ∨ 186 ≤ a ∨ (154 ≤ a ∧ a ≤ 158)) → I4 a = I a := fun a ha => by rw [g1 a (by omega) (by omega), f3 a (by omega), fJ a ha]
      have hMS : MS (sgA D) ℓ nr nw ng tl ukd unn utr utw I4 := by
        refine ⟨⟨⟨v1, by omega, v4, v5, hV0.1.2.2.2.2⟩, v3, v6, v7⟩, v2, fun r hr => ⟨hIV.2.2 r (by omega), rfl⟩, hAR, ⟨?_, ?_, fun r hr k hk => ?_, fun w hw k hk => ?_, fun q hq k hk => ?_⟩, by rw [kk 17 (by omega)]; exact hl0, ?_, KNM_none g5 g6, ?_⟩
        · rw [g2 0 (by decide) (by decide), f3 139 (by omega)]; exact hc.1
        · rw [g2 12 (by decide) (by decide), f3 139 (by omega)]; exact hc.2.2
        · rw [g1 (140 + k) (by omega) (by omega)]; exact h1 r hr k hk
        · rw [g1 (147 + k) (by omega) (by omega)]; exact h2 w hw k hk
        · rw [g1 (150 + k) (by omega) (by omega)]; exact h3 q hq k hk
        · rw [g2 8 (by decide) (by decide), f3 139 (by omega)]; exact hc.2.1
        · obtain ⟨r1, r2, r3⟩ := hR0
          refine ⟨by rw [kk 19 (by omega)]; exact r1, r2, fun q hq => ?_⟩
          rw [aa 154 (by omega), aa 155 (by omega), aa 156 (by omega)]
          exact r3 q hq
      have e0 : I4 139 0 = (nr : Int) := hMS.2.2.2.2.1.1
      refine r_aload_n d_X8_house_249 rfl ?_
      refine r_dup d_X8_house_250 rfl ?_
      refine r_geti d_X8_house_251 f_X8_241 (tt_139 _ _) (by decide) (by decide) ?_
      rw [e18]
      refine r_iconst d_X8_house_254 ?_
      refine r_iadd d_X8_house_255 ?_
      refine r_puti d_X8_house_256 f_X8_241 (tt_139 _ _) (by decide) (Or.inl rfl) ?_
      refine r_aload_n d_X8_house_259 rfl ?_
      refine r_V0v d_X8_house_260 (w_X8_244 _ rfl) (tt_139 _ _) rfl rfl (x_change) (by decide) (Nat.le_of_ble_eq_true rfl) (fun T260 I260 L260 R260 h260 => ?_)
      obtain ⟨rfl, rfl, rfl, rfl⟩ := h260
      refine r_aload_n d_X8_house_263 rfl ?_
      refine r_iconst d_X8_house_264 ?_
      refine r_puti d_X8_house_265 f_X8_159 (tt_139 _ _) (by decide) (Or.inl rfl) ?_
      refine r_aload_n d_X8_house_268 rfl ?_
      refine r_geti d_X8_house_269 f_X8_232 (tt_139 _ _) (by decide) (by decide) ?_
      rw [← hI4]
      refine r_iret d_X8_house_272 rfl ?_
      rw [hQ]
      exact ⟨_, rfl, rfl, rfl, rfl, e0, hMS, g4, g3, aa, kk⟩
    have t187 : ∀ (k b : Nat) (I3 : sI), b + k = ng → (∀ a, (a < 140 ∨ 154 ≤ a) → I3 a = J a) → (∀ r, r < nr → ∀ k, k < 7 → I3 (140 + k) r = sgA D k r) → (∀ w, w < nw → ∀ k, k < 3 → I3 (147 + k) w = sgA D (7 + k) w) → (∀ q, q < b → ∀ k, k < 4 → I3 (150 + k) q = sgA D (10 + k) q) → Cp g 6 m_X8_house 0 0 Q 187 [(0, vr 139), (1, vi (b : Int))] [] (TT Ls tl) I3 L (RR tl) := by
      intro k
      induction k with
      | zero =>
        intro b I3 hbk f3 h1 h2 h3
        have e12 : I3 139 12 = (ng : Int) := by rw [f3 139 (by omega)]; exact hc.2.2
        refine r_iload_n d_X8_house_187 rfl ?_
        refine r_aload_n d_X8_house_188 rfl ?_
        refine r_geti d_X8_house_189 f_X8_238 (tt_139 _ _) (by decide) (by decide) ?_
        rw [e12]
        refine r_icmp_ge d_X8_house_192 (by omega) (by omega) (fun c192 => ?_) (fun c192 => absurd c192 (by omega))
        exact CpL (t249 I3 f3 h1 h2 (fun q hq => h3 q (by omega))) (by repeat (first | exact trivial | refine ⟨rfl, ?_⟩))
      | succ k ih =>
        intro b I3 hbk f3 h1 h2 h3
        have e12 : I3 139 12 = (ng : Int) := by rw [f3 139 (by omega)]; exact hc.2.2
        obtain ⟨x0, x1, x2, x3⟩ := rg b (by omega)
        rw [← f3 168 (by omega)] at x0
        rw [← f3 169 (by omega)] at x1
        rw [← f3 170 (by omega)] at x2
        rw [← f3 171 (by omega)] at x3
        have hz : D 12 b = 0 ∨ D 12 b = 1 := (v6 b (by omega)).2.2.1
        refine r_iload_n d_X8_house_187 rfl ?_
        refine r_aload_n d_X8_house_188 rfl ?_
        refine r_geti d_X8_house_189 f_X8_238 (tt_139 _ _) (by decide) (by decide) ?_
        rw [e12]
        refine r_icmp_ge d_X8_house_192 (by omega) (by omega) (fun c192 => absurd c192 (by omega)) (fun c192 => ?_)
        refine r_aload_n d_X8_house_195 rfl ?_
        refine r_getr d_X8_house_196 f_X8_40 (tt_139 _ _) (by decide) rfl (rr_139_13 _) ?_
        refine r_iload_n d_X8_house_199 rfl ?_
        refine r_aload_n d_X8_house_200 rfl ?_
        refine r_getr d_X8_house_201 f_X8_100 (tt_139 _ _) (by decide) rfl (rr_139_45 _) ?_
        refine r_iload_n d_X8_house_204 rfl ?_
        refine r_ialdJ d_X8_house_205 (tt_168 _ _) rfl (by omega) (kk := ?_)
        rw [x0]
        refine r_iastJ d_X8_house_206 (tt_150 _ _) (by omega) rfl (by omega) (kk := ?_)
        refine r_aload_n d_X8_house_207 rfl ?_
        refine r_getr d_X8_house_208 f_X8_43 (tt_139 _ _) (by decide) rfl (rr_139_14 _) ?_
        refine r_iload_n d_X8_house_211 rfl ?_
        refine r_aload_n d_X8_house_212 rfl ?_
        refine r_getr d_X8_house_213 f_X8_103 (tt_139 _ _) (by decide) rfl (rr_139_46 _) ?_
        refine r_iload_n d_X8_house_216 rfl ?_
        refine r_ialdJ d_X8_house_217 (tt_169 _ _) rfl (by omega) (kk := ?_)
        rw [up2_ne _ _ (by decide), x1]
        refine r_iastJ d_X8_house_218 (tt_151 _ _) (by omega) rfl (by omega) (kk := ?_)
        refine r_aload_n d_X8_house_219 rfl ?_
        refine r_getr d_X8_house_220 f_X8_46 (tt_139 _ _) (by decide) rfl (rr_139_15 _) ?_
        refine r_iload_n d_X8_house_223 rfl ?_
        refine r_aload_n d_X8_house_224 rfl ?_
        refine r_getr d_X8_house_225 f_X8_106 (tt_139 _ _) (by decide) rfl (rr_139_47 _) ?_
        refine r_iload_n d_X8_house_228 rfl ?_
        refine r_zaldJ d_X8_house_229 (tt_170 _ _) rfl (by omega) (kk := ?_)
        rw [up2_ne _ _ (by decide), up2_ne _ _ (by decide), x2]
        refine r_zastJ d_X8_house_230 (tt_152 _ _) (by omega) rfl (by omega) (by omega) (kk := ?_)
        refine r_aload_n d_X8_house_231 rfl ?_
        refine r_getr d_X8_house_232 f_X8_50 (tt_139 _ _) (by decide) rfl (rr_139_16 _) ?_
        refine r_iload_n d_X8_house_235 rfl ?_
        refine r_aload_n d_X8_house_236 rfl ?_
        refine r_getr d_X8_house_237 f_X8_109 (tt_139 _ _) (by decide) rfl (rr_139_48 _) ?_
        refine r_iload_n d_X8_house_240 rfl ?_
        refine r_ialdJ d_X8_house_241 (tt_171 _ _) rfl (by omega) (kk := ?_)
        rw [up2_ne _ _ (by decide), up2_ne _ _ (by decide), up2_ne _ _ (by decide), x3]
        refine r_iastJ d_X8_house_242 (tt_153 _ _) (by omega) rfl (by omega) (kk := ?_)
        refine r_iinc d_X8_house_243 rfl (by decide) ?_
        refine r_goto d_X8_house_246 ?_
        refine CpL (ih (b + 1) _ (by omega) (fun a ha => ?_) (fun r hr k hk => ?_) (fun w hw k hk => ?_) (fun q hq k hk => ?_)) (by repeat (first | exact trivial | refine ⟨rfl, ?_⟩))
        · rw [up2_ne _ _ (by omega), up2_ne _ _ (by omega), up2_ne _ _ (by omega), up2_ne _ _ (by omega)]; exact f3 a ha
        · rw [up2_ne _ _ (by omega), up2_ne _ _ (by omega), up2_ne _ _ (by omega), up2_ne _ _ (by omega)]; exact h1 r hr k hk
        · rw [up2_ne _ _ (by omega), up2_ne _ _ (by omega), up2_ne _ _ (by omega), up2_ne _ _ (by omega)]; exact h2 w hw k hk
        · have key : up2 (up2 (up2 (up2 I3 150 b (D 10 b)) 151 b (D 11 b)) 152 b (D 12 b)) 153 b (D 13 b) (150 + k) q = if q = b then sgA D (10 + k) b else I3 (150 + k) q := by
            rcases (show k = 0 ∨ k = 1 ∨ k = 2 ∨ k = 3 by omega) with rfl | rfl | rfl | rfl <;> rfl
          rw [key]
          split
          · next e => rw [e]
          · exact h3 q (by omega) k hk
    have t135 : ∀ (k b : Nat) (I3 : sI), b + k = nw → (∀ a, (a < 140 ∨ 154 ≤ a) → I3 a = J a) → (∀ r, r < nr → ∀ k, k < 7 → I3 (140 + k) r = sgA D k r) → (∀ w, w < b → ∀ k, k < 3 → I3 (147 + k) w = sgA D (7 + k) w) → Cp g 6 m_X8_house 0 0 Q 135 [(0, vr 139), (1, vi (b : Int))] [] (TT Ls tl) I3 L (RR tl) := by
      intro k
      induction k with
      | zero =>
        intro b I3 hbk f3 h1 h2
        have e8 : I3 139 8 = (nw : Int) := by rw [f3 139 (by omega)]; exact hc.2.1
        refine r_iload_n d_X8_house_135 rfl ?_
        refine r_aload_n d_X8_house_136 rfl ?_
        refine r_geti d_X8_house_137 f_X8_235 (tt_139 _ _) (by decide) (by decide) ?_
        rw [e8]
        refine r_icmp_ge d_X8_house_140 (by omega) (by omega) (fun c140 => ?_) (fun c140 => absurd c140 (by omega))
        refine r_iconst d_X8_house_185 ?_
        refine r_istore_n d_X8_house_186 (by decide) ?_
        exact CpL (t187 ng 0 I3 (by omega) f3 h1 (fun w hw => h2 w (by omega)) (fun q hq => absurd hq (by omega))) (by repeat (first | exact trivial | refine ⟨rfl, ?_⟩))
      | succ k ih =>
        intro b I3 hbk f3 h1 h2
        have e8 : I3 139 8 = (nw : Int) := by rw [f3 139 (by omega)]; exact hc.2.1
        obtain ⟨x0, x1, x2⟩ := rw_ b (by omega)
        rw [← f3 165 (by omega)] at x0
        rw [← f3 166 (by omega)] at x1
        rw [← f3 167 (by omega)] at x2
        refine r_iload_n d_X8_house_135 rfl ?_
        refine r_aload_n d_X8_house_136 rfl ?_
        refine r_geti d_X8_house_137 f_X8_235 (tt_139 _ _) (by decide) (by decide) ?_
        rw [e8]
        refine r_icmp_ge d_X8_house_140 (by omega) (by omega) (fun c140 => absurd c140 (by omega)) (fun c140 => ?_)
        refine r_aload_n d_X8_house_143 rfl ?_
        refine r_getr d_X8_house_144 f_X8_31 (tt_139 _ _) (by decide) rfl (rr_139_9 _) ?_
        refine r_iload_n d_X8_house_147 rfl ?_
        refine r_aload_n d_X8_house_148 rfl ?_
        refine r_getr d_X8_house_149 f_X8_91 (tt_139 _ _) (by decide) rfl (rr_139_42 _) ?_
        refine r_iload_n d_X8_house_152 rfl ?_
        refine r_ialdJ d_X8_house_153 (tt_165 _ _) rfl (by omega) (kk := ?_)
        rw [x0]
        refine r_iastJ d_X8_house_154 (tt_147 _ _) (by omega) rfl (by omega) (kk := ?_)
        refine r_aload_n d_X8_house_155 rfl ?_
        refine r_getr d_X8_house_156 f_X8_34 (tt_139 _ _) (by decide) rfl (rr_139_10 _) ?_
        refine r_iload_n d_X8_house_159 rfl ?_
        refine r_aload_n d_X8_house_160 rfl ?_
        refine r_getr d_X8_house_161 f_X8_94 (tt_139 _ _) (by decide) rfl (rr_139_43 _) ?_
        refine r_iload_n d_X8_house_164 rfl ?_
        refine r_ialdJ d_X8_house_165 (tt_166 _ _) rfl (by omega) (kk := ?_)
        rw [up2_ne _ _ (by decide), x1]
        refine r_iastJ d_X8_house_166 (tt_148 _ _) (by omega) rfl (by omega) (kk := ?_)
        refine r_aload_n d_X8_house_167 rfl ?_
        refine r_getr d_X8_house_168 f_X8_37 (tt_139 _ _) (by decide) rfl (rr_139_11 _) ?_
        refine r_iload_n d_X8_house_171 rfl ?_
        refine r_aload_n d_X8_house_172 rfl ?_
        refine r_getr d_X8_house_173 f_X8_97 (tt_139 _ _) (by decide) rfl (rr_139_44 _) ?_
        refine r_iload_n d_X8_house_176 rfl ?_
        refine r_ialdJ d_X8_house_177 (tt_167 _ _) rfl (by omega) (kk := ?_)
        rw [up2_ne _ _ (by decide), up2_ne _ _ (by decide), x2]
        refine r_iastJ d_X8_house_178 (tt_149 _ _) (by omega) rfl (by omega) (kk := ?_)
        refine r_iinc d_X8_house_179 rfl (by decide) ?_
        refine r_goto d_X8_house_182 ?_
        refine CpL (ih (b + 1) _ (by omega) (fun a ha => ?_) (fun r hr k hk => ?_) (fun w hw k hk => ?_)) (by repeat (first | exact trivial | refine ⟨rfl, ?_⟩))
        · rw [up2_ne _ _ (by omega), up2_ne _ _ (by omega), up2_ne _ _ (by omega)]; exact f3 a ha
        · rw [up2_ne _ _ (by omega), up2_ne _ _ (by omega), up2_ne _ _ (by omega)]; exact h1 r hr k hk
        · have key : up2 (up2 (up2 I3 147 b (D 7 b)) 148 b (D 8 b)) 149 b (D 9 b) (147 + k) w = if w = b then sgA D (7 + k) b else I3 (147 + k) w := by
            rcases (show k = 0 ∨ k = 1 ∨ k = 2 by omega) with rfl | rfl | rfl <;> rfl
          rw [key]
          split
          · next e => rw [e]
          · exact h2 w (by omega) k hk
    have t40 : ∀ (k b : Nat) (I3 : sI), b + k = nr → (∀ a, (a < 140 ∨ 154 ≤ a) → I3 a = J a) → (∀ r, r < b → ∀ k, k < 7 → I3 (140 + k) r = sgA D k r) → Cp g 6 m_X8_house 0 0 Q 40 [(0, vr 139), (1, vi (b : Int))] [] (TT Ls tl) I3 L (RR tl) := by
      intro k
      induction k with
      | zero =>
        intro b I3 hbk f3 h1
        have e8 : I3 139 0 = (nr : Int) := by rw [f3 139 (by omega)]; exact hc.1
        refine r_iload_n d_X8_house_40 rfl ?_
        refine r_aload_n d_X8_house_41 rfl ?_
        refine r_geti d_X8_house_42 f_X8_232 (tt_139 _ _) (by decide) (by decide) ?_
        rw [e8]
        refine r_icmp_ge d_X8_house_45 (by omega) (by omega) (fun c45 => ?_) (fun c45 => absurd c45 (by omega))
        refine r_iconst d_X8_house_133 ?_
        refine r_istore_n d_X8_house_134 (by decide) ?_
        exact CpL (t135 nw 0 I3 (by omega) f3 (fun r hr => h1 r (by omega)) (fun q hq => absurd hq (by omega))) (by repeat (first | exact trivial | refine ⟨rfl, ?_⟩))
      | succ k ih =>
        intro b I3 hbk f3 h1
        have e8 : I3 139 0 = (nr : Int) := by rw [f3 139 (by omega)]; exact hc.1
        obtain ⟨x0, x1, x2, x3, x4, x5⟩ := rr b (by omega)
        rw [← f3 159 (by omega)] at x0
        rw [← f3 160 (by omega)] at x1
        rw [← f3 161 (by omega)] at x2
        rw [← f3 162 (by omega)] at x3
        rw [← f3 163 (by omega)] at x4
        rw [← f3 164 (by omega)] at x5
        refine r_iload_n d_X8_house_40 rfl ?_
        refine r_aload_n d_X8_house_41 rfl ?_
        refine r_geti d_X8_house_42 f_X8_232 (tt_139 _ _) (by decide) (by decide) ?_
        rw [e8]
        refine r_icmp_ge d_X8_house_45 (by omega) (by omega) (fun c45 => absurd c45 (by omega)) (fun c45 => ?_)
        refine r_aload_n d_X8_house_48 rfl ?_
        refine r_getr d_X8_house_49 f_X8_7 (tt_139 _ _) (by decide) rfl (rr_139_1 _) ?_
        refine r_iload_n d_X8_house_52 rfl ?_
        refine r_aload_n d_X8_house_53 rfl ?_
        refine r_getr d_X8_house_54 f_X8_73 (tt_139 _ _) (by decide) rfl (rr_139_36 _) ?_
        refine r_iload_n d_X8_house_57 rfl ?_
        refine r_ialdJ d_X8_house_58 (tt_159 _ _) rfl (by omega) (kk := ?_)
        rw [x0]
        refine r_iastJ d_X8_house_59 (tt_140 _ _) (by omega) rfl (by omega) (kk := ?_)
        refine r_aload_n d_X8_house_60 rfl ?_
        refine r_getr d_X8_house_61 f_X8_13 (tt_139 _ _) (by decide) rfl (rr_139_2 _) ?_
        refine r_iload_n d_X8_house_64 rfl ?_
        refine r_aload_n d_X8_house_65 rfl ?_
        refine r_getr d_X8_house_66 f_X8_76 (tt_139 _ _) (by decide) rfl (rr_139_37 _) ?_
        refine r_iload_n d_X8_house_69 rfl ?_
        refine r_ialdJ d_X8_house_70 (tt_160 _ _) rfl (by omega) (kk := ?_)
        rw [up2_ne _ _ (by decide), x1]
        refine r_iastJ d_X8_house_71 (tt_141 _ _) (by omega) rfl (by omega) (kk := ?_)
        refine r_aload_n d_X8_house_72 rfl ?_
        refine r_getr d_X8_house_73 f_X8_16 (tt_139 _ _) (by decide) rfl (rr_139_3 _) ?_
        refine r_iload_n d_X8_house_76 rfl ?_
        refine r_aload_n d_X8_house_77 rfl ?_
        refine r_getr d_X8_house_78 f_X8_79 (tt_139 _ _) (by decide) rfl (rr_139_38 _) ?_
        refine r_iload_n d_X8_house_81 rfl ?_
        refine r_ialdJ d_X8_house_82 (tt_161 _ _) rfl (by omega) (kk := ?_)
        rw [up2_ne _ _ (by decide), up2_ne _ _ (by decide), x2]
        refine r_iastJ d_X8_house_83 (tt_142 _ _) (by omega) rfl (by omega) (kk := ?_)
        refine r_aload_n d_X8_house_84 rfl ?_
        refine r_getr d_X8_house_85 f_X8_19 (tt_139 _ _) (by decide) rfl (rr_139_4 _) ?_
        refine r_iload_n d_X8_house_88 rfl ?_
        refine r_aload_n d_X8_house_89 rfl ?_
        refine r_getr d_X8_house_90 f_X8_82 (tt_139 _ _) (by decide) rfl (rr_139_39 _) ?_
        refine r_iload_n d_X8_house_93 rfl ?_
        refine r_ialdJ d_X8_house_94 (tt_162 _ _) rfl (by omega) (kk := ?_)
        rw [up2_ne _ _ (by decide), up2_ne _ _ (by decide), up2_ne _ _ (by decide), x3]
        refine r_iastJ d_X8_house_95 (tt_143 _ _) (by omega) rfl (by omega) (kk := ?_)
        refine r_aload_n d_X8_house_96 rfl ?_
        refine r_getr d_X8_house_97 f_X8_22 (tt_139 _ _) (by decide) rfl (rr_139_5 _) ?_
        refine r_iload_n d_X8_house_100 rfl ?_
        refine r_aload_n d_X8_house_101 rfl ?_
        refine r_getr d_X8_house_102 f_X8_85 (tt_139 _ _) (by decide) rfl (rr_139_40 _) ?_
        refine r_iload_n d_X8_house_105 rfl ?_
        refine r_ialdJ d_X8_house_106 (tt_163 _ _) rfl (by omega) (kk := ?_)
        rw [up2_ne _ _ (by decide), up2_ne _ _ (by decide), up2_ne _ _ (by decide), up2_ne _ _ (by decide), x4]
        refine r_iastJ d_X8_house_107 (tt_144 _ _) (by omega) rfl (by omega) (kk := ?_)
        refine r_aload_n d_X8_house_108 rfl ?_
        refine r_getr d_X8_house_109 f_X8_25 (tt_139 _ _) (by decide) rfl (rr_139_6 _) ?_
        refine r_iload_n d_X8_house_112 rfl ?_
        refine r_aload_n d_X8_house_113 rfl ?_
        refine r_getr d_X8_house_114 f_X8_88 (tt_139 _ _) (by decide) rfl (rr_139_41 _) ?_
        refine r_iload_n d_X8_house_117 rfl ?_
        refine r_ialdJ d_X8_house_118 (tt_164 _ _) rfl (by omega) (kk := ?_)
        rw [up2_ne _ _ (by decide), up2_ne _ _ (by decide), up2_ne _ _ (by decide), up2_ne _ _ (by decide), up2_ne _ _ (by decide), x5]
        refine r_iastJ d_X8_house_119 (tt_145 _ _) (by omega) rfl (by omega) (kk := ?_)
        refine r_aload_n d_X8_house_120 rfl ?_
        refine r_getr d_X8_house_121 f_X8_28 (tt_139 _ _) (by decide) rfl (rr_139_7 _) ?_
        refine r_iload_n d_X8_house_124 rfl ?_
        refine r_iconst d_X8_house_125 ?_
        refine r_iastJ d_X8_house_126 (tt_146 _ _) (by omega) rfl (by omega) (kk := ?_)
        refine r_iinc d_X8_house_127 rfl (by decide) ?_
        refine r_goto d_X8_house_130 ?_
        refine CpL (ih (b + 1) _ (by omega) (fun a ha => ?_) (fun r hr k hk => ?_)) (by repeat (first | exact trivial | refine ⟨rfl, ?_⟩))
        · rw [up2_ne _ _ (by omega), up2_ne _ _ (by omega), up2_ne _ _ (by omega), up2_ne _ _ (by omega), up2_ne _ _ (by omega), up2_ne _ _ (by omega), up2_ne _ _ (by omega)]; exact f3 a ha
        · have key : up2 (up2 (up2 (up2 (up2 (up2 (up2 I3 140 b (D 0 b)) 141 b (D 1 b)) 142 b (D 2 b)) 143 b (D 3 b)) 144 b (D 4 b)) 145 b (D 5 b)) 146 b (-1) (140 + k) r = if r = b then sgA D k b else I3 (140 + k) r := by
            rcases (show k = 0 ∨ k = 1 ∨ k = 2 ∨ k = 3 ∨ k = 4 ∨ k = 5 ∨ k = 6 by omega) with rfl | rfl | rfl | rfl | rfl | rfl | rfl <;> rfl
          rw [key]
          split
          · next e => rw [e]
          · exact h1 r (by omega) k hk
    exact CpL (t40 nr 0 J (by omega) (fun _ _ => rfl) (fun r hr => absurd hr (by omega))) (by repeat (first | exact trivial | refine ⟨rfl, ?_⟩))
  refine r_aload_n d_X8_house_0 rfl ?_
  refine r_V0v d_X8_house_1 (w_X8_226 _ rfl) (tt_139 _ _) rfl rfl (x_readHouse hP h0 h4 hrow) (by decide) (Nat.le_of_ble_eq_true rfl) (fun T1 I1 L1 R1 h1 => ?_)
  obtain ⟨rfl, rfl, rfl, f, p', D', y1, y2, y3, y4⟩ := h1
  obtain ⟨ep, eD⟩ := stp_uq y1 hst
  subst ep
  subst eD
  rw [if_pos hy] at y3
  obtain ⟨hAM, hIV⟩ := y4 hy.1
  obtain ⟨⟨⟨a0, a1, a2, a3, a5, a7, a8, a9, a10, a11, a12, a13⟩, b4, m0, m1, m2, m3⟩, -⟩ := hAM
  rw [d0] at m0
  rw [d1] at m1
  rw [d2] at m2
  refine r_aload_n d_X8_house_4 rfl ?_
  refine r_geti d_X8_house_5 f_X8_222 (tt_139 _ _) (by decide) (by decide) ?_
  rw [y3]
  refine r_if_ne d_X8_house_8 (by omega) (fun c8 => ?_) (fun c8 => absurd c8 (by decide))
  refine r_aload_n d_X8_house_14 rfl ?_
  refine r_aload_n d_X8_house_15 rfl ?_
  refine r_geti d_X8_house_16 f_X8_179 (tt_139 _ _) (by decide) (by decide) ?_
  rw [m0]
  refine r_puti d_X8_house_19 f_X8_232 (tt_139 _ _) (by decide) (Or.inl rfl) ?_
  refine r_aload_n d_X8_house_22 rfl ?_
  refine r_aload_n d_X8_house_23 rfl ?_
  refine r_geti d_X8_house_24 f_X8_204 (tt_139 _ _) (by decide) (by decide) ?_
  rw [up2_nj _ _ (by decide), m1]
  refine r_puti d_X8_house_27 f_X8_235 (tt_139 _ _) (by decide) (Or.inl rfl) ?_
  refine r_aload_n d_X8_house_30 rfl ?_
  refine r_aload_n d_X8_house_31 rfl ?_
  refine r_geti d_X8_house_32 f_X8_207 (tt_139 _ _) (by decide) (by decide) ?_
  rw [up2_nj _ _ (by decide), up2_nj _ _ (by decide), m2]
  refine r_puti d_X8_house_35 f_X8_238 (tt_139 _ _) (by decide) (Or.inl rfl) ?_
  refine r_iconst d_X8_house_38 ?_
  refine r_istore_n d_X8_house_39 (by decide) ?_
  refine CpL (main _ ⟨?_, ?_, ?_⟩ (fun a ha => ?_) (fun k hk => ?_) hIV (fun r hr => ⟨?_, ?_, ?_, ?_, ?_, ?_⟩) (fun w hw => ⟨?_, ?_, ?_⟩) (fun q hq => ⟨?_, ?_, ?_, ?_⟩)) (by repeat (first | exact trivial | refine ⟨rfl, ?_⟩))
  · rw [up2_nj _ _ (by decide), up2_nj _ _ (by decide), up2_at]
  · rw [up2_nj _ _ (by decide), up2_at]
  · rw [up2_at]
  · rw [up2_ne _ _ (by omega), up2_ne _ _ (by omega), up2_ne _ _ (by omega)]; exact f.1 a (by omega) (by omega)
  · rw [up2_nj _ _ (by omega), up2_nj _ _ (by omega), up2_nj _ _ (by omega)]; exact f.2 k (by omega)
  · rw [up2_ne _ _ (by decide), up2_ne _ _ (by decide), up2_ne _ _ (by decide), a0]
  · rw [up2_ne _ _ (by decide), up2_ne _ _ (by decide), up2_ne _ _ (by decide), a1]
  · rw [up2_ne _ _ (by decide), up2_ne _ _ (by decide), up2_ne _ _ (by decide), a2]
  · rw [up2_ne _ _ (by decide), up2_ne _ _ (by decide), up2_ne _ _ (by decide), a3]
  · rw [up2_ne _ _ (by decide), up2_ne _ _ (by decide), up2_ne _ _ (by decide)]; exact b4 r (by omega)
  · rw [up2_ne _ _ (by decide), up2_ne _ _ (by decide), up2_ne _ _ (by decide), a5]
  · rw [up2_ne _ _ (by decide), up2_ne _ _ (by decide), up2_ne _ _ (by decide), a7]
  · rw [up2_ne _ _ (by decide), up2_ne _ _ (by decide), up2_ne _ _ (by decide), a8]
  · rw [up2_ne _ _ (by decide), up2_ne _ _ (by decide), up2_ne _ _ (by decide), a9]
  · rw [up2_ne _ _ (by decide), up2_ne _ _ (by decide), up2_ne _ _ (by decide), a10]
  · rw [up2_ne _ _ (by decide), up2_ne _ _ (by decide), up2_ne _ _ (by decide), a11]
  · rw [up2_ne _ _ (by decide), up2_ne _ _ (by decide), up2_ne _ _ (by decide), a12]
  · rw [up2_ne _ _ (by decide), up2_ne _ _ (by decide), up2_ne _ _ (by decide), a13]
end X9v
