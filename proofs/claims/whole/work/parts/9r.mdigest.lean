/-! the reference: a digest -/
section X9r
variable {g : sG} {Ls : Nat} {I L : sI} {σ : Sg} {ℓ : Int} {nr nw ng : Nat} {tl : List Nat} {ukd unn : Nat → Int} {utr utw : Nat → Nat → Nat}
theorem x_mix {h v : Int} : Mc g 0 m_X8_mix 0 0 [vr 139, vl v] (TT Ls tl) I (up2 L 139 73 h) (RR tl) (qV fun T' I' L' R' => TT Ls tl = T' ∧ RR tl = R' ∧ I = I' ∧ L' = up2 L 139 73 (31 * h + v)) := by
  refine Mc_of rfl (Nat.le_of_ble_eq_true rfl) ?_
  have e : up2 L 139 73 h 139 73 = h := up2_at _ _ _ _
  refine r_aload_n d_X8_mix_0 rfl ?_
  refine r_ldc2 d_X8_mix_1 (k_X8_468 _ rfl) ?_
  refine r_aload_n d_X8_mix_4 rfl ?_
  refine r_getl d_X8_mix_5 f_X8_470 (tt_139 _ _) (by decide) rfl ?_
  rw [e]
  refine r_lmul d_X8_mix_8 ?_
  refine r_lload_n d_X8_mix_9 rfl ?_
  refine r_ladd d_X8_mix_10 ?_
  refine r_putl d_X8_mix_11 f_X8_470 (tt_139 _ _) (by decide) rfl ?_
  refine r_vret d_X8_mix_14 rfl ?_
  exact ⟨rfl, rfl, rfl, rfl, by rw [up2_up2]⟩
theorem x_digest (hM : MS σ ℓ nr nw ng tl ukd unn utr utw I) {pg : Nat → Int} {pl : Nat} {q : Int} (hP : PGM pg pl I) (hq : I 139 25 = q) (hq2 : 0 ≤ q ∧ q ≤ 16) : Mc g 11 m_X8_digest 0 0 [vr 139] (TT Ls tl) I L (RR tl) (qL fun z T' I' L' R' => T' = TT Ls tl ∧ R' = RR tl ∧ (∀ a, a ≠ 139 → L' a = L a) ∧ FP I I' ∧ MS σ ℓ nr nw ng tl ukd unn utr utw I' ∧ aDigest σ ℓ nr nw ng tl ukd unn utr utw pg pl q z) := by
  refine Mc_of rfl (Nat.le_of_ble_eq_true rfl) ?_
  obtain ⟨hV, h3, hcan, hA0, hX, hl, hwm, hN, hR⟩ := id hM
  obtain ⟨⟨s1, s2, s3, s4, s5⟩, v2, v3, v4⟩ := id hV
  obtain ⟨hpl, hp2, hpg⟩ := hP
  have hl8 := hR.2.1
  have hHV : HV σ nr nw ng := ⟨s1, h3, v2, s3, s4, v3, v4⟩
  obtain ⟨m1, m2⟩ := MS_all hM
  obtain ⟨I0, hI0⟩ : ∃ I0 : sI, I0 = up2 (up2 I 139 56 (I 139 8)) 139 55 (-1) := ⟨_, rfl⟩
  rw [← hI0] at m1 m2
  obtain ⟨A, hA⟩ : ∃ A : Int → Prop, A = aDigest σ ℓ nr nw ng tl ukd unn utr utw pg pl q := ⟨_, rfl⟩
  obtain ⟨Q, hQ⟩ : ∃ Q : sQ, Q = (qL fun z T' I' L' R' => T' = TT Ls tl ∧ R' = RR tl ∧ (∀ a, a ≠ 139 → L' a = L a) ∧ FP I I' ∧ MS σ ℓ nr nw ng tl ukd unn utr utw I' ∧ A z) := ⟨_, rfl⟩
  have hQ2 : (qL fun z T' I' L' R' => T' = TT Ls tl ∧ R' = RR tl ∧ (∀ a, a ≠ 139 → L' a = L a) ∧ FP I I' ∧ MS σ ℓ nr nw ng tl ukd unn utr utw I' ∧ aDigest σ ℓ nr nw ng tl ukd unn utr utw pg pl q z) = Q := by rw [hQ, hA]
  rw [hQ2]
  have t250 : ∀ (I1 : sI) (h0 : Int), FP I I1 → MS σ ℓ nr nw ng tl ukd unn utr utw I1 → A (mixS (fun w => cntS σ nr nw ng tl.length (pl : Int) q (w : Int)) 8 h0) → ∀ k b : Nat, b + k = 8 → Cp g 11 m_X8_digest 0 0 Q 250 [(0, vr 139), (1, vi (b : Int))] [] (TT Ls tl) I1 (up2 L 139 73 (mixS (fun w => cntS σ nr nw ng tl.length (pl : Int) q (w : Int)) b h0)) (RR tl) := by
    intro I1 h0 f1 hM1 hAz k
    induction k with
    | zero =>
      intro b hbk
      have hb : b = 8 := by omega
      refine r_iload_n d_X8_digest_250 rfl ?_
      refine r_bipush d_X8_digest_251 (by decide) ?_
      refine r_icmp_ge d_X8_digest_253 (by omega) (by omega) (fun c253 => ?_) (fun c253 => absurd c253 (by omega))
      refine r_aload_n d_X8_digest_272 rfl ?_
      refine r_getl d_X8_digest_273 f_X8_470 (tt_139 _ _) (by decide) rfl ?_
      refine r_lret d_X8_digest_276 rfl ?_
      rw [hQ]
      exact ⟨_, rfl, rfl, rfl, fun a ha => up2_ne _ _ ha, f1, hM1, by rw [up2_at, hb]; exact hAz⟩
    | succ k ih =>
      intro b hbk
      have hct := x_howMany (g := g) (Ls := Ls) (L := up2 L 139 73 (mixS (fun w => cntS σ nr nw ng tl.length (pl : Int) q (w : Int)) b h0)) hM1 (what := (b : Int)) (by unfold i32; omega)
      rw [f1.2 23 (by omega), f1.2 25 (by omega), hpl, hq] at hct
      have hbd := cnt_bd (what := (b : Int)) hHV hl8 hp2 hq2
      refine r_iload_n d_X8_digest_250 rfl ?_
      refine r_bipush d_X8_digest_251 (by decide) ?_
      refine r_icmp_ge d_X8_digest_253 (by omega) (by omega) (fun c253 => absurd c253 (by omega)) (fun c253 => ?_)
      refine r_aload_n d_X8_digest_256 rfl ?_
      refine r_aload_n d_X8_digest_257 rfl ?_
      refine r_iload_n d_X8_digest_258 rfl ?_
      refine r_V1i d_X8_digest_259 (w_X8_465 _ rfl) (tt_139 _ _) rfl rfl (hct) (by decide) (Nat.le_of_ble_eq_true rfl) (fun z259 T259 I259 L259 R259 h259 => ?_)
      obtain ⟨rfl, rfl, rfl, rfl, rfl⟩ := h259
      refine r_i2l d_X8_digest_262 (by omega) ?_
      refine r_V1v d_X8_digest_263 (w_X8_476 _ rfl) (tt_139 _ _) rfl rfl (x_mix) (by decide) (Nat.le_of_ble_eq_true rfl) (fun T263 I263 L263 R263 h263 => ?_)
      obtain ⟨rfl, rfl, rfl, rfl⟩ := h263
      refine r_iinc d_X8_digest_266 rfl (by decide) ?_
      refine r_goto d_X8_digest_269 ?_
      exact CpL (ih (b + 1) (by omega)) (by repeat (first | exact trivial | refine ⟨rfl, ?_⟩))
  have t223 : ∀ (I1 : sI) (h0 : Int), FP I I1 → MS σ ℓ nr nw ng tl ukd unn utr utw I1 → A (mixS (fun w => cntS σ nr nw ng tl.length (pl : Int) q (w : Int)) 8 (mixS pg pl h0)) → ∀ k b : Nat, b + k = pl → Cp g 11 m_X8_digest 0 0 Q 223 [(0, vr 139), (1, vi (b : Int))] [] (TT Ls tl) I1 (up2 L 139 73 (mixS pg b h0)) (RR tl) := by
    intro I1 h0 f1 hM1 hAz k
    have e4 : I1 139 23 = (pl : Int) := by rw [f1.2 23 (by omega)]; exact hpl
    induction k with
    | zero =>
      intro b hbk
      have hb : b = pl := by omega
      refine r_iload_n d_X8_digest_223 rfl ?_
      refine r_aload_n d_X8_digest_224 rfl ?_
      refine r_geti d_X8_digest_225 f_X8_159 (tt_139 _ _) (by decide) (by decide) ?_
      refine r_icmp_ge d_X8_digest_228 (by omega) (by omega) (fun c228 => ?_) (fun c228 => absurd c228 (by omega))
      refine r_iconst d_X8_digest_248 ?_
      refine r_istore_n d_X8_digest_249 (by decide) ?_
      exact CpL (t250 I1 (mixS pg b h0) f1 hM1 (by rw [hb]; exact hAz) 8 0 (by omega)) (by repeat (first | exact trivial | refine ⟨rfl, ?_⟩))
    | succ k ih =>
      intro b hbk
      obtain ⟨p1, p2⟩ := hpg b (by omega)
      have e5 : I1 157 b = pg b := by rw [f1.1 157 (by decide) (by omega)]; exact p1
      refine r_iload_n d_X8_digest_223 rfl ?_
      refine r_aload_n d_X8_digest_224 rfl ?_
      refine r_geti d_X8_digest_225 f_X8_159 (tt_139 _ _) (by decide) (by decide) ?_
      refine r_icmp_ge d_X8_digest_228 (by omega) (by omega) (fun c228 => absurd c228 (by omega)) (fun c228 => ?_)
      refine r_aload_n d_X8_digest_231 rfl ?_
      refine r_aload_n d_X8_digest_232 rfl ?_
      refine r_getr d_X8_digest_233 f_X8_66 (tt_139 _ _) (by decide) rfl (rr_139_24 _) ?_
      refine r_iload_n d_X8_digest_236 rfl ?_
      refine r_baldJ d_X8_digest_237 (tt_157 _ _) rfl (by omega) (kk := ?_)
      rw [e5]
      refine r_i2l d_X8_digest_238 (by omega) ?_
      refine r_V1v d_X8_digest_239 (w_X8_476 _ rfl) (tt_139 _ _) rfl rfl (x_mix) (by decide) (Nat.le_of_ble_eq_true rfl) (fun T239 I239 L239 R239 h239 => ?_)
      obtain ⟨rfl, rfl, rfl, rfl⟩ := h239
      refine r_iinc d_X8_digest_242 rfl (by decide) ?_
      refine r_goto d_X8_digest_245 ?_
      exact CpL (ih (b + 1) (by omega)) (by repeat (first | exact trivial | refine ⟨rfl, ?_⟩))
  have t143 : ∀ (h0 : Int), (∀ c0 c1 : Nat → Int, (∀ i, i < tl.length → ukd i ≠ 5 → 0 < nr → (∃ ro, DC σ ℓ (-1) nr nw ng (ukd i) (fun k => k) (utr i) (utw i) (tl.getD i 0) 0 0 (c0 i) ro) ∧ (∃ ro, DC σ ℓ (-1) nr nw ng (ukd i) (fun k => k) (utr i) (utw i) (tl.getD i 0) 0 1 (c1 i) ro)) → A (mixS (fun w => cntS σ nr nw ng tl.length (pl : Int) q (w : Int)) 8 (mixS pg pl (mixR (fun i => ruM nr (ukd i) (unn i) (c0 i) (c1 i)) tl.length h0)))) → ∀ (k b : Nat) (c0 c1 : Nat → Int) (I1 : sI), b + k = tl.length → FM I0 I1 → KNM σ ℓ (-1) nr nw ng I1 → (∀ i, i < b → ukd i ≠ 5 → 0 < nr → (∃ ro, DC σ ℓ (-1) nr nw ng (ukd i) (fun k => k) (utr i) (utw i) (tl.getD i 0) 0 0 (c0 i) ro) ∧ (∃ ro, DC σ ℓ (-1) nr nw ng (ukd i) (fun k => k) (utr i) (utw i) (tl.getD i 0) 0 1 (c1 i) ro)) → Cp g 11 m_X8_digest 0 0 Q 143 [(0, vr 139), (1, vi (b : Int))] [] (TT Ls tl) I1 (up2 L 139 73 (mixR (fun i => ruM nr (ukd i) (unn i) (c0 i) (c1 i)) b h0)) (RR tl) := by
    intro h0 hA0 k
    induction k with
    | zero =>
      intro b c0 c1 I1 hbk f hN1 hc
      have hb : b = tl.length := by omega
      have e4 : I1 139 19 = (tl.length : Int) := by rw [f.2 19 (by omega), m2.2 19 (by omega)]; exact hR.1
      refine r_iload_n d_X8_digest_143 rfl ?_
      refine r_aload_n d_X8_digest_144 rfl ?_
      refine r_geti d_X8_digest_145 f_X8_247 (tt_139 _ _) (by decide) (by decide) ?_
      refine r_icmp_ge d_X8_digest_148 (by omega) (by omega) (fun c148 => ?_) (fun c148 => absurd c148 (by omega))
      refine r_iconst d_X8_digest_221 ?_
      refine r_istore_n d_X8_digest_222 (by decide) ?_
      exact CpL (t223 I1 (mixR (fun i => ruM nr (ukd i) (unn i) (c0 i) (c1 i)) b h0) (FP_tr m2 (FM_FP f)) (MS_fp hM (FP_tr m2 (FM_FP f)) hN1) (by rw [hb]; exact hA0 c0 c1 (by rw [← hb]; exact hc)) pl 0 (by omega)) (by repeat (first | exact trivial | refine ⟨rfl, ?_⟩))
    | succ k ih =>
      intro b c0 c1 I1 hbk f hN1 hc
      have hb : b < tl.length := by omega
      have e4 : I1 139 19 = (tl.length : Int) := by rw [f.2 19 (by omega), m2.2 19 (by omega)]; exact hR.1
      have hU := hR.2.2 b hb
      have gk : ∀ {J : sI}, FM I0 J → J 154 b = ukd b := fun fJ => by rw [fJ.1 154 (by decide) (by omega), m2.1 154 (by decide) (by omega)]; exact hU.1
      have ek : I1 154 b = ukd b := gk f
      have en : I1 155 b = unn b := by rw [f.1 155 (by decide) (by omega), m2.1 155 (by decide) (by omega)]; exact hU.2.1
      have g0 : ∀ {J : sI}, FM I0 J → J 139 0 = (nr : Int) := fun fJ => by rw [fJ.2 0 (by omega), m2.2 0 (by omega)]; exact hX.1
      have e3 := g0 f
      have hkd := hU.2.2.1
      have hnn := hU.2.2.2.1
      obtain ⟨h, hh⟩ : ∃ h, h = mixR (fun i => ruM nr (ukd i) (unn i) (c0 i) (c1 i)) b h0 := ⟨_, rfl⟩
      by_cases k1 : ukd b ≠ 5 ∧ 0 < nr
      · rw [← hh]
        have odid : ∀ od, ODS σ ℓ (-1) nr nw ng (ukd b) (unn b) od → od = fun k => k := fun od ho => ho.elim (fun h => h.2) (fun h => absurd h.1.1 k1.1)
        have a2 : ∀ (I2 : sI) (z0 z1 : Int), FM I0 I2 → KNM σ ℓ (-1) nr nw ng I2 → (∃ ro, DC σ ℓ (-1) nr nw ng (ukd b) (fun k => k) (utr b) (utw b) (tl.getD b 0) 0 0 z0 ro) → (∃ ro, DC σ ℓ (-1) nr nw ng (ukd b) (fun k => k) (utr b) (utw b) (tl.getD b 0) 0 1 z1 ro) → Cp g 11 m_X8_digest 0 0 Q 175 [(0, vr 139), (1, vi (b : Int)), (2, vi 2)] [] (TT Ls tl) I2 (up2 L 139 73 (31 * (31 * (31 * (31 * h + ukd b) + unn b) + z0) + z1)) (RR tl) := by
          intro I2 z0 z1 f2 hN2 d0z d1z
          obtain ⟨d0, d0b, d0n⟩ : ∃ S' : Nat → Int, S' b = z0 ∧ ∀ i, i ≠ b → S' i = c0 i := ⟨fun i => if i = b then z0 else c0 i, if_pos rfl, fun i hi => if_neg hi⟩
          obtain ⟨d1, d1b, d1n⟩ : ∃ S' : Nat → Int, S' b = z1 ∧ ∀ i, i ≠ b → S' i = c1 i := ⟨fun i => if i = b then z1 else c1 i, if_pos rfl, fun i hi => if_neg hi⟩
          have es : mixR (fun i => ruM nr (ukd i) (unn i) (d0 i) (d1 i)) (b + 1) h0 = 31 * (31 * (31 * (31 * h + ukd b) + unn b) + z0) + z1 := by
            have e0 : mixR (fun i => ruM nr (ukd i) (unn i) (d0 i) (d1 i)) b h0 = h := by
              rw [hh]; exact mixR_congr b (fun i hi => by rw [d0n i (by omega), d1n i (by omega)])
            show ruM nr (ukd b) (unn b) (d0 b) (d1 b) (mixR (fun i => ruM nr (ukd i) (unn i) (d0 i) (d1 i)) b h0) = _
            rw [e0, d0b, d1b]
            unfold ruM
            rw [if_pos k1]
          rw [← es]
          refine r_iload_n d_X8_digest_175 rfl ?_
          refine r_iconst d_X8_digest_176 ?_
          refine r_icmp_ge d_X8_digest_177 (by omega) (by omega) (fun c177 => ?_) (fun c177 => absurd c177 (by decide))
          refine r_iinc d_X8_digest_215 rfl (by decide) ?_
          refine r_goto d_X8_digest_218 ?_
          refine CpL (ih (b + 1) d0 d1 I2 (by omega) f2 hN2 (fun i hi h5 hn => ?_)) (by repeat (first | exact trivial | refine ⟨rfl, ?_⟩))
          by_cases e2 : i = b
          · subst e2
            rw [d0b, d1b]
            exact ⟨d0z, d1z⟩
          · rw [d0n i e2, d1n i e2]
            exact hc i (by omega) h5 hn
        have a1 : ∀ (I2 : sI) (z0 : Int), FM I0 I2 → KNM σ ℓ (-1) nr nw ng I2 → (∃ ro, DC σ ℓ (-1) nr nw ng (ukd b) (fun k => k) (utr b) (utw b) (tl.getD b 0) 0 0 z0 ro) → Cp g 11 m_X8_digest 0 0 Q 175 [(0, vr 139), (1, vi (b : Int)), (2, vi 1)] [] (TT Ls tl) I2 (up2 L 139 73 (31 * (31 * (31 * h + ukd b) + unn b) + z0)) (RR tl) := by
          intro I2 z0 f2 hN2 d0z
          have ek2 := gk f2
          have e32 := g0 f2
          have hcb := x_costBy (g := g) (Ls := Ls) (L := up2 L 139 73 (31 * (31 * (31 * h + ukd b) + unn b) + z0)) (MB_fm m1 f2 hN2) (q := b) (way := 0) (by omega) (by omega) k1.2 (how := 1) (Or.inr rfl)
          refine r_iload_n d_X8_digest_175 rfl ?_
          refine r_iconst d_X8_digest_176 ?_
          refine r_icmp_ge d_X8_digest_177 (by omega) (by omega) (fun c177 => absurd c177 (by decide)) (fun c177 => ?_)
          refine r_aload_n d_X8_digest_180 rfl ?_
          refine r_getr d_X8_digest_181 f_X8_57 (tt_139 _ _) (by decide) rfl (rr_139_20 _) ?_
          refine r_iload_n d_X8_digest_184 rfl ?_
          refine r_ialdJ d_X8_digest_185 (tt_154 _ _) rfl (by omega) (kk := ?_)
          rw [ek2]
          refine r_iconst d_X8_digest_186 ?_
          refine r_icmp_eq d_X8_digest_187 (by omega) (by omega) (fun c187 => absurd c187 (by exact k1.1)) (fun c187 => ?_)
          refine r_aload_n d_X8_digest_190 rfl ?_
          refine r_geti d_X8_digest_191 f_X8_232 (tt_139 _ _) (by decide) (by decide) ?_
          refine r_if_le d_X8_digest_194 (by omega) (fun c194 => absurd c194 (by omega)) (fun c194 => ?_)
          refine r_aload_n d_X8_digest_197 rfl ?_
          refine r_aload_n d_X8_digest_198 rfl ?_
          refine r_iload_n d_X8_digest_199 rfl ?_
          refine r_iconst d_X8_digest_200 ?_
          refine r_iload_n d_X8_digest_201 rfl ?_
          refine r_V3i d_X8_digest_202 (w_X8_406 _ rfl) (tt_139 _ _) rfl rfl (hcb) (by decide) (Nat.le_of_ble_eq_true rfl) (fun z202 T202 I202 L202 R202 h202 => ?_)
          obtain ⟨rfl, rfl, rfl, y1, y2, y3, y4, od, y5, y6, y7⟩ := h202
          have eod := odid od y5
          rw [eod] at y6
          refine r_i2l d_X8_digest_205 (by omega) ?_
          refine r_V1v d_X8_digest_206 (w_X8_476 _ rfl) (tt_139 _ _) rfl rfl (x_mix) (by decide) (Nat.le_of_ble_eq_true rfl) (fun T206 I206 L206 R206 h206 => ?_)
          obtain ⟨rfl, rfl, rfl, rfl⟩ := h206
          refine r_iinc d_X8_digest_209 rfl (by decide) ?_
          refine r_goto d_X8_digest_212 ?_
          exact CpL (a2 I202 z0 z202 (FM_tr f2 y1) y2 d0z ⟨_, y6⟩) (by repeat (first | exact trivial | refine ⟨rfl, ?_⟩))
        have a0 : Cp g 11 m_X8_digest 0 0 Q 175 [(0, vr 139), (1, vi (b : Int)), (2, vi 0)] [] (TT Ls tl) I1 (up2 L 139 73 (31 * (31 * h + ukd b) + unn b)) (RR tl) := by
          have hcb := x_costBy (g := g) (Ls := Ls) (L := up2 L 139 73 (31 * (31 * h + ukd b) + unn b)) (MB_fm m1 f hN1) (q := b) (way := 0) (by omega) (by omega) k1.2 (how := 0) (Or.inl rfl)
          refine r_iload_n d_X8_digest_175 rfl ?_
          refine r_iconst d_X8_digest_176 ?_
          refine r_icmp_ge d_X8_digest_177 (by omega) (by omega) (fun c177 => absurd c177 (by decide)) (fun c177 => ?_)
          refine r_aload_n d_X8_digest_180 rfl ?_
          refine r_getr d_X8_digest_181 f_X8_57 (tt_139 _ _) (by decide) rfl (rr_139_20 _) ?_
          refine r_iload_n d_X8_digest_184 rfl ?_
          refine r_ialdJ d_X8_digest_185 (tt_154 _ _) rfl (by omega) (kk := ?_)
          rw [ek]
          refine r_iconst d_X8_digest_186 ?_
          refine r_icmp_eq d_X8_digest_187 (by omega) (by omega) (fun c187 => absurd c187 (by exact k1.1)) (fun c187 => ?_)
          refine r_aload_n d_X8_digest_190 rfl ?_
          refine r_geti d_X8_digest_191 f_X8_232 (tt_139 _ _) (by decide) (by decide) ?_
          refine r_if_le d_X8_digest_194 (by omega) (fun c194 => absurd c194 (by omega)) (fun c194 => ?_)
          refine r_aload_n d_X8_digest_197 rfl ?_
          refine r_aload_n d_X8_digest_198 rfl ?_
          refine r_iload_n d_X8_digest_199 rfl ?_
          refine r_iconst d_X8_digest_200 ?_
          refine r_iload_n d_X8_digest_201 rfl ?_
          refine r_V3i d_X8_digest_202 (w_X8_406 _ rfl) (tt_139 _ _) rfl rfl (hcb) (by decide) (Nat.le_of_ble_eq_true rfl) (fun z202 T202 I202 L202 R202 h202 => ?_)
          obtain ⟨rfl, rfl, rfl, y1, y2, y3, y4, od, y5, y6, y7⟩ := h202
          have eod := odid od y5
          rw [eod] at y6
          refine r_i2l d_X8_digest_205 (by omega) ?_
          refine r_V1v d_X8_digest_206 (w_X8_476 _ rfl) (tt_139 _ _) rfl rfl (x_mix) (by decide) (Nat.le_of_ble_eq_true rfl) (fun T206 I206 L206 R206 h206 => ?_)
          obtain ⟨rfl, rfl, rfl, rfl⟩ := h206
          refine r_iinc d_X8_digest_209 rfl (by decide) ?_
          refine r_goto d_X8_digest_212 ?_
          exact CpL (a1 I202 z202 (FM_tr f y1) y2 ⟨_, y6⟩) (by repeat (first | exact trivial | refine ⟨rfl, ?_⟩))
        refine r_iload_n d_X8_digest_143 rfl ?_
        refine r_aload_n d_X8_digest_144 rfl ?_
        refine r_geti d_X8_digest_145 f_X8_247 (tt_139 _ _) (by decide) (by decide) ?_
        refine r_icmp_ge d_X8_digest_148 (by omega) (by omega) (fun c148 => absurd c148 (by omega)) (fun c148 => ?_)
        refine r_aload_n d_X8_digest_151 rfl ?_
        refine r_aload_n d_X8_digest_152 rfl ?_
        refine r_getr d_X8_digest_153 f_X8_57 (tt_139 _ _) (by decide) rfl (rr_139_20 _) ?_
        refine r_iload_n d_X8_digest_156 rfl ?_
        refine r_ialdJ d_X8_digest_157 (tt_154 _ _) rfl (by omega) (kk := ?_)
        rw [ek]
        refine r_i2l d_X8_digest_158 (by omega) ?_
        refine r_V1v d_X8_digest_159 (w_X8_476 _ rfl) (tt_139 _ _) rfl rfl (x_mix) (by decide) (Nat.le_of_ble_eq_true rfl) (fun T159 I159 L159 R159 h159 => ?_)
        obtain ⟨rfl, rfl, rfl, rfl⟩ := h159
        refine r_aload_n d_X8_digest_162 rfl ?_
        refine r_aload_n d_X8_digest_163 rfl ?_
        refine r_getr d_X8_digest_164 f_X8_60 (tt_139 _ _) (by decide) rfl (rr_139_21 _) ?_
        refine r_iload_n d_X8_digest_167 rfl ?_
        refine r_ialdJ d_X8_digest_168 (tt_155 _ _) rfl (by omega) (kk := ?_)
        rw [en]
        refine r_i2l d_X8_digest_169 (by omega) ?_
        refine r_V1v d_X8_digest_170 (w_X8_476 _ rfl) (tt_139 _ _) rfl rfl (x_mix) (by decide) (Nat.le_of_ble_eq_true rfl) (fun T170 I170 L170 R170 h170 => ?_)
        obtain ⟨rfl, rfl, rfl, rfl⟩ := h170
        refine r_iconst d_X8_digest_173 ?_
        refine r_istore_n d_X8_digest_174 (by decide) ?_
        exact CpL a0 (by repeat (first | exact trivial | refine ⟨rfl, ?_⟩))
      · have es : mixR (fun i => ruM nr (ukd i) (unn i) (c0 i) (c1 i)) (b + 1) h0 = 31 * (31 * h + ukd b) + unn b := by
          show ruM nr (ukd b) (unn b) (c0 b) (c1 b) (mixR (fun i => ruM nr (ukd i) (unn i) (c0 i) (c1 i)) b h0) = _
          rw [← hh]
          unfold ruM
          rw [if_neg k1]
        have hc3 : ∀ i, i < b + 1 → ukd i ≠ 5 → 0 < nr → (∃ ro, DC σ ℓ (-1) nr nw ng (ukd i) (fun k => k) (utr i) (utw i) (tl.getD i 0) 0 0 (c0 i) ro) ∧ (∃ ro, DC σ ℓ (-1) nr nw ng (ukd i) (fun k => k) (utr i) (utw i) (tl.getD i 0) 0 1 (c1 i) ro) := fun i hi h5 hn => hc i (by have : i ≠ b := fun e => k1 ⟨by rw [← e]; exact h5, hn⟩; omega) h5 hn
        rw [← hh]
        have t215 : Cp g 11 m_X8_digest 0 0 Q 215 [(0, vr 139), (1, vi (b : Int))] [] (TT Ls tl) I1 (up2 L 139 73 (31 * (31 * h + ukd b) + unn b)) (RR tl) := by
          rw [← es]
          refine r_iinc d_X8_digest_215 rfl (by decide) ?_
          refine r_goto d_X8_digest_218 ?_
          exact CpL (ih (b + 1) c0 c1 I1 (by omega) f hN1 hc3) (by repeat (first | exact trivial | refine ⟨rfl, ?_⟩))
        by_cases k5 : ukd b = 5
        · skip
          refine r_iload_n d_X8_digest_143 rfl ?_
          refine r_aload_n d_X8_digest_144 rfl ?_
          refine r_geti d_X8_digest_145 f_X8_247 (tt_139 _ _) (by decide) (by decide) ?_
          refine r_icmp_ge d_X8_digest_148 (by omega) (by omega) (fun c148 => absurd c148 (by omega)) (fun c148 => ?_)
          refine r_aload_n d_X8_digest_151 rfl ?_
          refine r_aload_n d_X8_digest_152 rfl ?_
          refine r_getr d_X8_digest_153 f_X8_57 (tt_139 _ _) (by decide) rfl (rr_139_20 _) ?_
          refine r_iload_n d_X8_digest_156 rfl ?_
          refine r_ialdJ d_X8_digest_157 (tt_154 _ _) rfl (by omega) (kk := ?_)
          rw [ek]
          refine r_i2l d_X8_digest_158 (by omega) ?_
          refine r_V1v d_X8_digest_159 (w_X8_476 _ rfl) (tt_139 _ _) rfl rfl (x_mix) (by decide) (Nat.le_of_ble_eq_true rfl) (fun T159 I159 L159 R159 h159 => ?_)
          obtain ⟨rfl, rfl, rfl, rfl⟩ := h159
          refine r_aload_n d_X8_digest_162 rfl ?_
          refine r_aload_n d_X8_digest_163 rfl ?_
          refine r_getr d_X8_digest_164 f_X8_60 (tt_139 _ _) (by decide) rfl (rr_139_21 _) ?_
          refine r_iload_n d_X8_digest_167 rfl ?_
          refine r_ialdJ d_X8_digest_168 (tt_155 _ _) rfl (by omega) (kk := ?_)
          rw [en]
          refine r_i2l d_X8_digest_169 (by omega) ?_
          refine r_V1v d_X8_digest_170 (w_X8_476 _ rfl) (tt_139 _ _) rfl rfl (x_mix) (by decide) (Nat.le_of_ble_eq_true rfl) (fun T170 I170 L170 R170 h170 => ?_)
          obtain ⟨rfl, rfl, rfl, rfl⟩ := h170
          refine r_iconst d_X8_digest_173 ?_
          refine r_istore_n d_X8_digest_174 (by decide) ?_
          refine r_iload_n d_X8_digest_175 rfl ?_
          refine r_iconst d_X8_digest_176 ?_
          refine r_icmp_ge d_X8_digest_177 (by omega) (by omega) (fun c177 => absurd c177 (by decide)) (fun c177 => ?_)
          refine r_aload_n d_X8_digest_180 rfl ?_
          refine r_getr d_X8_digest_181 f_X8_57 (tt_139 _ _) (by decide) rfl (rr_139_20 _) ?_
          refine r_iload_n d_X8_digest_184 rfl ?_
          refine r_ialdJ d_X8_digest_185 (tt_154 _ _) rfl (by omega) (kk := ?_)
          rw [ek]
          refine r_iconst d_X8_digest_186 ?_
          refine r_icmp_eq d_X8_digest_187 (by omega) (by omega) (fun c187 => ?_) (fun c187 => absurd c187 (by exact fun q => q k5))
          exact CpL t215 (by repeat (first | exact trivial | refine ⟨rfl, ?_⟩))
        · skip
          refine r_iload_n d_X8_digest_143 rfl ?_
          refine r_aload_n d_X8_digest_144 rfl ?_
          refine r_geti d_X8_digest_145 f_X8_247 (tt_139 _ _) (by decide) (by decide) ?_
          refine r_icmp_ge d_X8_digest_148 (by omega) (by omega) (fun c148 => absurd c148 (by omega)) (fun c148 => ?_)
          refine r_aload_n d_X8_digest_151 rfl ?_
          refine r_aload_n d_X8_digest_152 rfl ?_
          refine r_getr d_X8_digest_153 f_X8_57 (tt_139 _ _) (by decide) rfl (rr_139_20 _) ?_
          refine r_iload_n d_X8_digest_156 rfl ?_
          refine r_ialdJ d_X8_digest_157 (tt_154 _ _) rfl (by omega) (kk := ?_)
          rw [ek]
          refine r_i2l d_X8_digest_158 (by omega) ?_
          refine r_V1v d_X8_digest_159 (w_X8_476 _ rfl) (tt_139 _ _) rfl rfl (x_mix) (by decide) (Nat.le_of_ble_eq_true rfl) (fun T159 I159 L159 R159 h159 => ?_)
          obtain ⟨rfl, rfl, rfl, rfl⟩ := h159
          refine r_aload_n d_X8_digest_162 rfl ?_
          refine r_aload_n d_X8_digest_163 rfl ?_
          refine r_getr d_X8_digest_164 f_X8_60 (tt_139 _ _) (by decide) rfl (rr_139_21 _) ?_
          refine r_iload_n d_X8_digest_167 rfl ?_
          refine r_ialdJ d_X8_digest_168 (tt_155 _ _) rfl (by omega) (kk := ?_)
          rw [en]
          refine r_i2l d_X8_digest_169 (by omega) ?_
          refine r_V1v d_X8_digest_170 (w_X8_476 _ rfl) (tt_139 _ _) rfl rfl (x_mix) (by decide) (Nat.le_of_ble_eq_true rfl) (fun T170 I170 L170 R170 h170 => ?_)
          obtain ⟨rfl, rfl, rfl, rfl⟩ := h170
          refine r_iconst d_X8_digest_173 ?_
          refine r_istore_n d_X8_digest_174 (by decide) ?_
          refine r_iload_n d_X8_digest_175 rfl ?_
          refine r_iconst d_X8_digest_176 ?_
          refine r_icmp_ge d_X8_digest_177 (by omega) (by omega) (fun c177 => absurd c177 (by decide)) (fun c177 => ?_)
          refine r_aload_n d_X8_digest_180 rfl ?_
          refine r_getr d_X8_digest_181 f_X8_57 (tt_139 _ _) (by decide) rfl (rr_139_20 _) ?_
          refine r_iload_n d_X8_digest_184 rfl ?_
          refine r_ialdJ d_X8_digest_185 (tt_154 _ _) rfl (by omega) (kk := ?_)
          rw [ek]
          refine r_iconst d_X8_digest_186 ?_
          refine r_icmp_eq d_X8_digest_187 (by omega) (by omega) (fun c187 => absurd c187 (by exact k5)) (fun c187 => ?_)
          refine r_aload_n d_X8_digest_190 rfl ?_
          refine r_geti d_X8_digest_191 f_X8_232 (tt_139 _ _) (by decide) (by decide) ?_
          refine r_if_le d_X8_digest_194 (by omega) (fun c194 => ?_) (fun c194 => absurd c194 (by omega))
          exact CpL t215 (by repeat (first | exact trivial | refine ⟨rfl, ?_⟩))
  have t90 : ∀ (h0 : Int), aDigest σ ℓ nr nw ng tl ukd unn utr utw pg pl q = A → h0 = mixR (fun u => mixS (fun k => σ (7 + k) u) 3) nw (mixR (fun u => mixS (fun k => σ k u) 7) nr 419) → ∀ k b : Nat, b + k = ng → Cp g 11 m_X8_digest 0 0 Q 90 [(0, vr 139), (1, vi (b : Int))] [] (TT Ls tl) I (up2 L 139 73 (mixR (fun u => mixS (fun k => σ (10 + k) u) 4) b h0)) (RR tl) := by
    intro h0 hA2 hh0 k
    have e5 : I 139 12 = (ng : Int) := hX.2.1
    induction k with
    | zero =>
      intro b hbk
      have hb : b = ng := by omega
      refine r_iload_n d_X8_digest_90 rfl ?_
      refine r_aload_n d_X8_digest_91 rfl ?_
      refine r_geti d_X8_digest_92 f_X8_238 (tt_139 _ _) (by decide) (by decide) ?_
      refine r_icmp_ge d_X8_digest_95 (by omega) (by omega) (fun c95 => ?_) (fun c95 => absurd c95 (by omega))
      refine r_aload_n d_X8_digest_128 rfl ?_
      refine r_aload_n d_X8_digest_129 rfl ?_
      refine r_geti d_X8_digest_130 f_X8_53 (tt_139 _ _) (by decide) (by decide) ?_
      rw [hl]
      refine r_i2l d_X8_digest_133 (by omega) ?_
      refine r_V1v d_X8_digest_134 (w_X8_476 _ rfl) (tt_139 _ _) rfl rfl (x_mix) (by decide) (Nat.le_of_ble_eq_true rfl) (fun T134 I134 L134 R134 h134 => ?_)
      obtain ⟨rfl, rfl, rfl, rfl⟩ := h134
      refine r_aload_n d_X8_digest_137 rfl ?_
      refine r_V0v d_X8_digest_138 (w_X8_400 _ rfl) (tt_139 _ _) rfl rfl (x_allWomen) (by decide) (Nat.le_of_ble_eq_true rfl) (fun T138 I138 L138 R138 h138 => ?_)
      obtain ⟨rfl, rfl, rfl, rfl⟩ := h138
      refine r_iconst d_X8_digest_141 ?_
      refine r_istore_n d_X8_digest_142 (by decide) ?_
      rw [← hI0]
      refine CpL (t143 (31 * mixR (fun u => mixS (fun k => σ (10 + k) u) 4) b h0 + ℓ) (fun c0 c1 hc => ?_) tl.length 0 (fun _ => 0) (fun _ => 0) I0 (by omega) FM_rf m1.2.2.2.2.2.2.1 (fun i h => absurd h (by omega))) (by repeat (first | exact trivial | refine ⟨rfl, ?_⟩))
      rw [← hA2, hb, hh0]
      exact ⟨c0, c1, hc, rfl⟩
    | succ k ih =>
      intro b hbk
      have hb : b < ng := by omega
      have inn : ∀ j i : Nat, i + j = 4 → Cp g 11 m_X8_digest 0 0 Q 100 [(0, vr 139), (1, vi (b : Int)), (2, vi (i : Int))] [] (TT Ls tl) I (up2 L 139 73 (mixS (fun k => σ (10 + k) b) i (mixR (fun u => mixS (fun k => σ (10 + k) u) 4) b h0))) (RR tl) := by
        intro j
        induction j with
        | zero =>
          intro i hij
          have hi : i = 4 := by omega
          subst hi
          refine r_iload_n d_X8_digest_100 rfl ?_
          refine r_iconst d_X8_digest_101 ?_
          refine r_icmp_ge d_X8_digest_102 (by omega) (by omega) (fun c102 => ?_) (fun c102 => absurd c102 (by omega))
          refine r_iinc d_X8_digest_122 rfl (by decide) ?_
          refine r_goto d_X8_digest_125 ?_
          exact CpL (ih (b + 1) (by omega)) (by repeat (first | exact trivial | refine ⟨rfl, ?_⟩))
        | succ j ihj =>
          intro i hij
          have hrg := GV_k (v3 b hb) (k := i) (by omega)
          refine r_iload_n d_X8_digest_100 rfl ?_
          refine r_iconst d_X8_digest_101 ?_
          refine r_icmp_ge d_X8_digest_102 (by omega) (by omega) (fun c102 => absurd c102 (by omega)) (fun c102 => ?_)
          refine r_aload_n d_X8_digest_105 rfl ?_
          refine r_aload_n d_X8_digest_106 rfl ?_
          refine r_iload_n d_X8_digest_107 rfl ?_
          refine r_iload_n d_X8_digest_108 rfl ?_
          refine r_V2i d_X8_digest_109 (w_X8_265 _ rfl) (tt_139 _ _) rfl rfl (x_guestTold hV hX (by omega) (by omega)) (by decide) (Nat.le_of_ble_eq_true rfl) (fun z109 T109 I109 L109 R109 h109 => ?_)
          obtain ⟨rfl, rfl, rfl, rfl, rfl⟩ := h109
          refine r_i2l d_X8_digest_112 (by omega) ?_
          refine r_V1v d_X8_digest_113 (w_X8_476 _ rfl) (tt_139 _ _) rfl rfl (x_mix) (by decide) (Nat.le_of_ble_eq_true rfl) (fun T113 I113 L113 R113 h113 => ?_)
          obtain ⟨rfl, rfl, rfl, rfl⟩ := h113
          refine r_iinc d_X8_digest_116 rfl (by decide) ?_
          refine r_goto d_X8_digest_119 ?_
          exact CpL (ihj (i + 1) (by omega)) (by repeat (first | exact trivial | refine ⟨rfl, ?_⟩))
      refine r_iload_n d_X8_digest_90 rfl ?_
      refine r_aload_n d_X8_digest_91 rfl ?_
      refine r_geti d_X8_digest_92 f_X8_238 (tt_139 _ _) (by decide) (by decide) ?_
      refine r_icmp_ge d_X8_digest_95 (by omega) (by omega) (fun c95 => absurd c95 (by omega)) (fun c95 => ?_)
      refine r_iconst d_X8_digest_98 ?_
      refine r_istore_n d_X8_digest_99 (by decide) ?_
      exact CpL (inn 4 0 (by omega)) (by repeat (first | exact trivial | refine ⟨rfl, ?_⟩))
  have t50 : ∀ (h0 : Int), aDigest σ ℓ nr nw ng tl ukd unn utr utw pg pl q = A → h0 = mixR (fun u => mixS (fun k => σ k u) 7) nr 419 → ∀ k b : Nat, b + k = nw → Cp g 11 m_X8_digest 0 0 Q 50 [(0, vr 139), (1, vi (b : Int))] [] (TT Ls tl) I (up2 L 139 73 (mixR (fun u => mixS (fun k => σ (7 + k) u) 3) b h0)) (RR tl) := by
    intro h0 hA2 hh0 k
    have e5 : I 139 8 = (nw : Int) := hwm
    induction k with
    | zero =>
      intro b hbk
      have hb : b = nw := by omega
      refine r_iload_n d_X8_digest_50 rfl ?_
      refine r_aload_n d_X8_digest_51 rfl ?_
      refine r_geti d_X8_digest_52 f_X8_235 (tt_139 _ _) (by decide) (by decide) ?_
      refine r_icmp_ge d_X8_digest_55 (by omega) (by omega) (fun c55 => ?_) (fun c55 => absurd c55 (by omega))
      refine r_iconst d_X8_digest_88 ?_
      refine r_istore_n d_X8_digest_89 (by decide) ?_
      exact CpL (t90 (mixR (fun u => mixS (fun k => σ (7 + k) u) 3) b h0) hA2 (by rw [hb, hh0]) ng 0 (by omega)) (by repeat (first | exact trivial | refine ⟨rfl, ?_⟩))
    | succ k ih =>
      intro b hbk
      have hb : b < nw := by omega
      have inn : ∀ j i : Nat, i + j = 3 → Cp g 11 m_X8_digest 0 0 Q 60 [(0, vr 139), (1, vi (b : Int)), (2, vi (i : Int))] [] (TT Ls tl) I (up2 L 139 73 (mixS (fun k => σ (7 + k) b) i (mixR (fun u => mixS (fun k => σ (7 + k) u) 3) b h0))) (RR tl) := by
        intro j
        induction j with
        | zero =>
          intro i hij
          have hi : i = 3 := by omega
          subst hi
          refine r_iload_n d_X8_digest_60 rfl ?_
          refine r_iconst d_X8_digest_61 ?_
          refine r_icmp_ge d_X8_digest_62 (by omega) (by omega) (fun c62 => ?_) (fun c62 => absurd c62 (by omega))
          refine r_iinc d_X8_digest_82 rfl (by decide) ?_
          refine r_goto d_X8_digest_85 ?_
          exact CpL (ih (b + 1) (by omega)) (by repeat (first | exact trivial | refine ⟨rfl, ?_⟩))
        | succ j ihj =>
          intro i hij
          have hrg := WV_k (s4 b hb) (k := i) (by omega)
          refine r_iload_n d_X8_digest_60 rfl ?_
          refine r_iconst d_X8_digest_61 ?_
          refine r_icmp_ge d_X8_digest_62 (by omega) (by omega) (fun c62 => absurd c62 (by omega)) (fun c62 => ?_)
          refine r_aload_n d_X8_digest_65 rfl ?_
          refine r_aload_n d_X8_digest_66 rfl ?_
          refine r_iload_n d_X8_digest_67 rfl ?_
          refine r_iload_n d_X8_digest_68 rfl ?_
          refine r_V2i d_X8_digest_69 (w_X8_259 _ rfl) (tt_139 _ _) rfl rfl (x_womanTold hX (by omega) (by omega) (by omega)) (by decide) (Nat.le_of_ble_eq_true rfl) (fun z69 T69 I69 L69 R69 h69 => ?_)
          obtain ⟨rfl, rfl, rfl, rfl, rfl⟩ := h69
          refine r_i2l d_X8_digest_72 (by omega) ?_
          refine r_V1v d_X8_digest_73 (w_X8_476 _ rfl) (tt_139 _ _) rfl rfl (x_mix) (by decide) (Nat.le_of_ble_eq_true rfl) (fun T73 I73 L73 R73 h73 => ?_)
          obtain ⟨rfl, rfl, rfl, rfl⟩ := h73
          refine r_iinc d_X8_digest_76 rfl (by decide) ?_
          refine r_goto d_X8_digest_79 ?_
          exact CpL (ihj (i + 1) (by omega)) (by repeat (first | exact trivial | refine ⟨rfl, ?_⟩))
      refine r_iload_n d_X8_digest_50 rfl ?_
      refine r_aload_n d_X8_digest_51 rfl ?_
      refine r_geti d_X8_digest_52 f_X8_235 (tt_139 _ _) (by decide) (by decide) ?_
      refine r_icmp_ge d_X8_digest_55 (by omega) (by omega) (fun c55 => absurd c55 (by omega)) (fun c55 => ?_)
      refine r_iconst d_X8_digest_58 ?_
      refine r_istore_n d_X8_digest_59 (by decide) ?_
      exact CpL (inn 3 0 (by omega)) (by repeat (first | exact trivial | refine ⟨rfl, ?_⟩))
  have t9 : ∀ (h0 : Int), aDigest σ ℓ nr nw ng tl ukd unn utr utw pg pl q = A → h0 = 419 → ∀ k b : Nat, b + k = nr → Cp g 11 m_X8_digest 0 0 Q 9 [(0, vr 139), (1, vi (b : Int))] [] (TT Ls tl) I (up2 L 139 73 (mixR (fun u => mixS (fun k => σ k u) 7) b h0)) (RR tl) := by
    intro h0 hA2 hh0 k
    have e5 : I 139 0 = (nr : Int) := hX.1
    induction k with
    | zero =>
      intro b hbk
      have hb : b = nr := by omega
      refine r_iload_n d_X8_digest_9 rfl ?_
      refine r_aload_n d_X8_digest_10 rfl ?_
      refine r_geti d_X8_digest_11 f_X8_232 (tt_139 _ _) (by decide) (by decide) ?_
      refine r_icmp_ge d_X8_digest_14 (by omega) (by omega) (fun c14 => ?_) (fun c14 => absurd c14 (by omega))
      refine r_iconst d_X8_digest_48 ?_
      refine r_istore_n d_X8_digest_49 (by decide) ?_
      exact CpL (t50 (mixR (fun u => mixS (fun k => σ k u) 7) b h0) hA2 (by rw [hb, hh0]) nw 0 (by omega)) (by repeat (first | exact trivial | refine ⟨rfl, ?_⟩))
    | succ k ih =>
      intro b hbk
      have hb : b < nr := by omega
      have inn : ∀ j i : Nat, i + j = 7 → Cp g 11 m_X8_digest 0 0 Q 19 [(0, vr 139), (1, vi (b : Int)), (2, vi (i : Int))] [] (TT Ls tl) I (up2 L 139 73 (mixS (fun k => σ k b) i (mixR (fun u => mixS (fun k => σ k u) 7) b h0))) (RR tl) := by
        intro j
        induction j with
        | zero =>
          intro i hij
          have hi : i = 7 := by omega
          subst hi
          refine r_iload_n d_X8_digest_19 rfl ?_
          refine r_bipush d_X8_digest_20 (by decide) ?_
          refine r_icmp_ge d_X8_digest_22 (by omega) (by omega) (fun c22 => ?_) (fun c22 => absurd c22 (by omega))
          refine r_iinc d_X8_digest_42 rfl (by decide) ?_
          refine r_goto d_X8_digest_45 ?_
          exact CpL (ih (b + 1) (by omega)) (by repeat (first | exact trivial | refine ⟨rfl, ?_⟩))
        | succ j ihj =>
          intro i hij
          have hrg := RV_k (s3 b hb) (k := i) (by omega)
          refine r_iload_n d_X8_digest_19 rfl ?_
          refine r_bipush d_X8_digest_20 (by decide) ?_
          refine r_icmp_ge d_X8_digest_22 (by omega) (by omega) (fun c22 => absurd c22 (by omega)) (fun c22 => ?_)
          refine r_aload_n d_X8_digest_25 rfl ?_
          refine r_aload_n d_X8_digest_26 rfl ?_
          refine r_iload_n d_X8_digest_27 rfl ?_
          refine r_iload_n d_X8_digest_28 rfl ?_
          refine r_V2i d_X8_digest_29 (w_X8_256 _ rfl) (tt_139 _ _) rfl rfl (x_roomTold hX s1 (by omega) (by omega)) (by decide) (Nat.le_of_ble_eq_true rfl) (fun z29 T29 I29 L29 R29 h29 => ?_)
          obtain ⟨rfl, rfl, rfl, rfl, rfl⟩ := h29
          refine r_i2l d_X8_digest_32 (by omega) ?_
          refine r_V1v d_X8_digest_33 (w_X8_476 _ rfl) (tt_139 _ _) rfl rfl (x_mix) (by decide) (Nat.le_of_ble_eq_true rfl) (fun T33 I33 L33 R33 h33 => ?_)
          obtain ⟨rfl, rfl, rfl, rfl⟩ := h33
          refine r_iinc d_X8_digest_36 rfl (by decide) ?_
          refine r_goto d_X8_digest_39 ?_
          exact CpL (ihj (i + 1) (by omega)) (by repeat (first | exact trivial | refine ⟨rfl, ?_⟩))
      refine r_iload_n d_X8_digest_9 rfl ?_
      refine r_aload_n d_X8_digest_10 rfl ?_
      refine r_geti d_X8_digest_11 f_X8_232 (tt_139 _ _) (by decide) (by decide) ?_
      refine r_icmp_ge d_X8_digest_14 (by omega) (by omega) (fun c14 => absurd c14 (by omega)) (fun c14 => ?_)
      refine r_iconst d_X8_digest_17 ?_
      refine r_istore_n d_X8_digest_18 (by decide) ?_
      exact CpL (inn 7 0 (by omega)) (by repeat (first | exact trivial | refine ⟨rfl, ?_⟩))
  refine r_aload_n d_X8_digest_0 rfl ?_
  refine r_ldc2 d_X8_digest_1 (k_X8_474 _ rfl) ?_
  refine r_putl d_X8_digest_4 f_X8_470 (tt_139 _ _) (by decide) rfl ?_
  refine r_iconst d_X8_digest_7 ?_
  refine r_istore_n d_X8_digest_8 (by decide) ?_
  exact CpL (t9 419 hA.symm rfl nr 0 (by omega)) (by repeat (first | exact trivial | refine ⟨rfl, ?_⟩))
end X9r
