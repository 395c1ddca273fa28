/-- a digest of n numbers, of n rows -/
def mixS (f : Nat → Int) : Nat → Int → Int
  | 0, h => h
  | n + 1, h => 31 * mixS f n h + f n
def mixR (F : Nat → Int → Int) : Nat → Int → Int
  | 0, h => h
  | n + 1, h => F n (mixR F n h)
theorem mixR_congr {F F' : Nat → Int → Int} {h : Int} : ∀ n, (∀ i, i < n → F i = F' i) → mixR F n h = mixR F' n h
  | 0, _ => rfl
  | n + 1, hh => by
    unfold mixR
    rw [mixR_congr n (fun i hi => hh i (by omega)), hh n (by omega)]
def ruM (nr : Nat) (kd nn c0 c1 : Int) (h : Int) : Int := if kd ≠ 5 ∧ 0 < nr then 31 * (31 * (31 * (31 * h + kd) + nn) + c0) + c1 else 31 * (31 * h + kd) + nn
def aDigest (σ : Sg) (ℓ : Int) (nr nw ng : Nat) (tl : List Nat) (ukd unn : Nat → Int) (utr utw : Nat → Nat → Nat) (pg : Nat → Int) (pl : Nat) (q z : Int) : Prop := ∃ c0 c1 : Nat → Int, (∀ i, i < tl.length → ukd i ≠ 5 → 0 < nr → (∃ ro, DC σ ℓ (-1) nr nw ng (ukd i) (fun k => k) (utr i) (utw i) (tl.getD i 0) 0 0 (c0 i) ro) ∧ (∃ ro, DC σ ℓ (-1) nr nw ng (ukd i) (fun k => k) (utr i) (utw i) (tl.getD i 0) 0 1 (c1 i) ro)) ∧ z = mixS (fun w => cntS σ nr nw ng tl.length (pl : Int) q (w : Int)) 8 (mixS pg pl (mixR (fun i => ruM nr (ukd i) (unn i) (c0 i) (c1 i)) tl.length (31 * mixR (fun u => mixS (fun k => σ (10 + k) u) 4) ng (mixR (fun w => mixS (fun k => σ (7 + k) w) 3) nw (mixR (fun r => mixS (fun k => σ k r) 7) nr 419)) + ℓ)))
theorem RV_k {σ : Sg} {r k : Nat} (h : RV σ r) (hk : k < 7) : -2147483648 ≤ σ k r ∧ σ k r ≤ 2147483647 := by
  obtain ⟨h0, h1, h2, h3, h4, h6⟩ := h
  rcases (show k = 0 ∨ k = 1 ∨ k = 2 ∨ k = 3 ∨ k = 4 ∨ k = 5 ∨ k = 6 by omega) with rfl | rfl | rfl | rfl | rfl | rfl | rfl <;> omega
theorem WV_k {σ : Sg} {r k : Nat} (h : WV σ r) (hk : k < 3) : -2147483648 ≤ σ (7 + k) r ∧ σ (7 + k) r ≤ 2147483647 := by
  obtain ⟨h0, h1, h2⟩ := h
  rcases (show k = 0 ∨ k = 1 ∨ k = 2 by omega) with rfl | rfl | rfl <;> (simp only [Nat.reduceAdd]; omega)
theorem GV_k {σ : Sg} {r k : Nat} (h : GV σ r) (hk : k < 4) : -2147483648 ≤ σ (10 + k) r ∧ σ (10 + k) r ≤ 2147483647 := by
  obtain ⟨h0, h1, h2, h3⟩ := h
  rcases (show k = 0 ∨ k = 1 ∨ k = 2 ∨ k = 3 by omega) with rfl | rfl | rfl | rfl <;> (simp only [Nat.reduceAdd]; omega)
theorem cnt_bd {σ : Sg} {nr nw ng nu pl : Nat} {q what : Int} (hV : HV σ nr nw ng) (h1 : nu ≤ 8) (h2 : pl ≤ 160) (h3 : 0 ≤ q ∧ q ≤ 16) : -200 ≤ cntS σ nr nw ng nu (pl : Int) q what ∧ cntS σ nr nw ng nu (pl : Int) q what ≤ 200 := by
  obtain ⟨v1, v2, v3, v4, v5, v6, v7⟩ := hV
  have := ltn_le σ nr
  unfold cntS
  repeat' split
  all_goals omega
section C61
variable {g : sG} {Ls : Nat} {tl : List Nat} {I L : sI} {σ : Sg} {ℓ : Int} {nr nw ng : Nat} {ukd unn : Nat → Int} {utr utw : Nat → Nat → Nat}
theorem c_digest (hX : XS σ ℓ nr nw ng tl ukd unn utr utw I L) {pg : Nat → Int} {pl : Nat} {q : Int} (hpl : I 4 1 = (pl : Int)) (hp2 : pl ≤ 160) (hpg : ∀ j, j < pl → I 5 j = pg j ∧ 0 ≤ pg j ∧ pg j ≤ 126) (hq : I 3 12 = q) (hq2 : 0 ≤ q ∧ q ≤ 16) : Mc g 6 m_X7_digest 0 0 [vr 3] (TT Ls tl) I L (RR tl) (qL fun z T' I' L' R' => T' = TT Ls tl ∧ R' = RR tl ∧ frb 70 138 I I' ∧ frb 81 120 L L' ∧ XS σ ℓ nr nw ng tl ukd unn utr utw I' L' ∧ aDigest σ ℓ nr nw ng tl ukd unn utr utw pg pl q z) := by
  refine Mc_of rfl (Nat.le_of_ble_eq_true rfl) ?_
  obtain ⟨hB, hR⟩ := id hX
  obtain ⟨b1, b2, b3, b4, b5, b6, b7, b8⟩ := id hB
  obtain ⟨v1, v2, v3, v4, v5, v6, v7⟩ := id b1
  have hl8 := hR.2.1
  obtain ⟨A, hA⟩ : ∃ A : Int → Prop, A = aDigest σ ℓ nr nw ng tl ukd unn utr utw pg pl q := ⟨_, rfl⟩
  obtain ⟨Q, hQ⟩ : ∃ Q : sQ, Q = (qL fun z T' I' L' R' => T' = TT Ls tl ∧ R' = RR tl ∧ frb 70 138 I I' ∧ frb 81 120 L L' ∧ XS σ ℓ nr nw ng tl ukd unn utr utw I' L' ∧ A z) := ⟨_, rfl⟩
  have hQ2 : (qL fun z T' I' L' R' => T' = TT Ls tl ∧ R' = RR tl ∧ frb 70 138 I I' ∧ frb 81 120 L L' ∧ XS σ ℓ nr nw ng tl ukd unn utr utw I' L' ∧ aDigest σ ℓ nr nw ng tl ukd unn utr utw pg pl q z) = Q := by rw [hQ, hA]
  rw [hQ2]
  have e41 : ∀ {I1 : sI}, frb 70 138 I I1 → I1 4 1 = (pl : Int) := fun f => by rw [f 4 (by omega)]; exact hpl
  have e312 : ∀ {I1 : sI}, frb 70 138 I I1 → I1 3 12 = q := fun f => by rw [f 3 (by omega)]; exact hq
  have t272 : ∀ (I1 L1 : sI) (h0 : Int), frb 70 138 I I1 → frb 81 120 L L1 → XS σ ℓ nr nw ng tl ukd unn utr utw I1 L1 → A (mixS (fun w => cntS σ nr nw ng tl.length (pl : Int) q (w : Int)) 8 h0) → ∀ k b : Nat, b + k = 8 → Cp g 6 m_X7_digest 0 0 Q 272 [(0, vr 3), (1, vl (mixS (fun w => cntS σ nr nw ng tl.length (pl : Int) q (w : Int)) b h0)), (3, vi (b : Int))] [] (TT Ls tl) I1 L1 (RR tl) := by
    intro I1 L1 h0 f1 f2 hX1 hAz k
    induction k with
    | zero =>
      intro b hbk
      have hb : b = 8 := by omega
      refine r_iload_n d_X7_digest_272 rfl ?_
      refine r_bipush d_X7_digest_273 (by decide) ?_
      refine r_icmp_ge d_X7_digest_275 (by omega) (by omega) (fun c275 => ?_) (fun c275 => absurd c275 (by omega))
      refine r_lload_n d_X7_digest_297 rfl ?_
      refine r_lret d_X7_digest_298 rfl ?_
      rw [hQ]
      exact ⟨_, rfl, rfl, rfl, f1, f2, hX1, by rw [hb]; exact hAz⟩
    | succ k ih =>
      intro b hbk
      have hct := c_count (g := g) (Ls := Ls) hX1 (what := (b : Int)) (by unfold i32; omega)
      rw [e41 f1, e312 f1] at hct
      have hbd := cnt_bd (what := (b : Int)) b1 hl8 hp2 hq2
      refine r_iload_n d_X7_digest_272 rfl ?_
      refine r_bipush d_X7_digest_273 (by decide) ?_
      refine r_icmp_ge d_X7_digest_275 (by omega) (by omega) (fun c275 => absurd c275 (by omega)) (fun c275 => ?_)
      refine r_ldc2 d_X7_digest_278 (k_X7_285 _ rfl) ?_
      refine r_lload_n d_X7_digest_281 rfl ?_
      refine r_lmul d_X7_digest_282 ?_
      refine r_aload_n d_X7_digest_283 rfl ?_
      refine r_iload_n d_X7_digest_284 rfl ?_
      refine r_V1i d_X7_digest_285 (w_X7_294 _ rfl) (tt_3 _ _) rfl rfl (hct) (by decide) (Nat.le_of_ble_eq_true rfl) (fun z285 T285 I285 L285 R285 h285 => ?_)
      obtain ⟨rfl, rfl, rfl, rfl, rfl⟩ := h285
      refine r_i2l d_X7_digest_288 (by omega) ?_
      refine r_ladd d_X7_digest_289 ?_
      refine r_lstore_n d_X7_digest_290 (by decide) ?_
      refine r_iinc d_X7_digest_291 rfl (by decide) ?_
      refine r_goto d_X7_digest_294 ?_
      exact CpL (ih (b + 1) (by omega)) (by repeat (first | exact trivial | refine ⟨rfl, ?_⟩))
  have t236 : ∀ (I1 L1 : sI) (h0 : Int), frb 70 138 I I1 → frb 81 120 L L1 → XS σ ℓ nr nw ng tl ukd unn utr utw I1 L1 → A (mixS (fun w => cntS σ nr nw ng tl.length (pl : Int) q (w : Int)) 8 (mixS pg pl h0)) → ∀ k b : Nat, b + k = pl → Cp g 6 m_X7_digest 0 0 Q 236 [(0, vr 3), (1, vl (mixS pg b h0)), (3, vi (b : Int))] [] (TT Ls tl) I1 L1 (RR tl) := by
    intro I1 L1 h0 f1 f2 hX1 hAz k
    induction k with
    | zero =>
      intro b hbk
      have hb : b = pl := by omega
      have e4 := e41 f1
      refine r_iload_n d_X7_digest_236 rfl ?_
      refine r_aload_n d_X7_digest_237 rfl ?_
      refine r_getr d_X7_digest_238 f_X7_10 (tt_3 _ _) (by decide) rfl (rr_3_0 _) ?_
      refine r_geti d_X7_digest_241 f_X7_68 (tt_4 _ _) (by decide) (by decide) ?_
      refine r_icmp_ge d_X7_digest_244 (by omega) (by omega) (fun c244 => ?_) (fun c244 => absurd c244 (by omega))
      refine r_iconst d_X7_digest_270 ?_
      refine r_istore_n d_X7_digest_271 (by decide) ?_
      exact CpL (t272 I1 L1 (mixS pg b h0) f1 f2 hX1 (by rw [hb]; exact hAz) 8 0 (by omega)) (by repeat (first | exact trivial | refine ⟨rfl, ?_⟩))
    | succ k ih =>
      intro b hbk
      have e4 := e41 f1
      obtain ⟨p1, p2⟩ := hpg b (by omega)
      have e5 : I1 5 b = pg b := by rw [f1 5 (by omega)]; exact p1
      refine r_iload_n d_X7_digest_236 rfl ?_
      refine r_aload_n d_X7_digest_237 rfl ?_
      refine r_getr d_X7_digest_238 f_X7_10 (tt_3 _ _) (by decide) rfl (rr_3_0 _) ?_
      refine r_geti d_X7_digest_241 f_X7_68 (tt_4 _ _) (by decide) (by decide) ?_
      refine r_icmp_ge d_X7_digest_244 (by omega) (by omega) (fun c244 => absurd c244 (by omega)) (fun c244 => ?_)
      refine r_ldc2 d_X7_digest_247 (k_X7_285 _ rfl) ?_
      refine r_lload_n d_X7_digest_250 rfl ?_
      refine r_lmul d_X7_digest_251 ?_
      refine r_aload_n d_X7_digest_252 rfl ?_
      refine r_getr d_X7_digest_253 f_X7_10 (tt_3 _ _) (by decide) rfl (rr_3_0 _) ?_
      refine r_getr d_X7_digest_256 f_X7_290 (tt_4 _ _) (by decide) rfl (rr_4_0 _) ?_
      refine r_iload_n d_X7_digest_259 rfl ?_
      refine r_caldJ d_X7_digest_260 (tt_5 _ _) rfl (by omega) (kk := ?_)
      rw [e5]
      refine r_i2l d_X7_digest_261 (by omega) ?_
      refine r_ladd d_X7_digest_262 ?_
      refine r_lstore_n d_X7_digest_263 (by decide) ?_
      refine r_iinc d_X7_digest_264 rfl (by decide) ?_
      refine r_goto d_X7_digest_267 ?_
      exact CpL (ih (b + 1) (by omega)) (by repeat (first | exact trivial | refine ⟨rfl, ?_⟩))
  have t120 : ∀ (h0 : Int), (∀ c0 c1 : Nat → Int, (∀ i, i < tl.length → ukd i ≠ 5 → 0 < nr → (∃ ro, DC σ ℓ (-1) nr nw ng (ukd i) (fun k => k) (utr i) (utw i) (tl.getD i 0) 0 0 (c0 i) ro) ∧ (∃ ro, DC σ ℓ (-1) nr nw ng (ukd i) (fun k => k) (utr i) (utw i) (tl.getD i 0) 0 1 (c1 i) ro)) → A (mixS (fun w => cntS σ nr nw ng tl.length (pl : Int) q (w : Int)) 8 (mixS pg pl (mixR (fun i => ruM nr (ukd i) (unn i) (c0 i) (c1 i)) tl.length h0)))) → ∀ (k b : Nat) (c0 c1 : Nat → Int) (I1 L1 : sI), b + k = tl.length → frb 70 138 I I1 → frb 81 120 L L1 → XS σ ℓ nr nw ng tl ukd unn utr utw I1 L1 → (∀ i, i < b → ukd i ≠ 5 → 0 < nr → (∃ ro, DC σ ℓ (-1) nr nw ng (ukd i) (fun k => k) (utr i) (utw i) (tl.getD i 0) 0 0 (c0 i) ro) ∧ (∃ ro, DC σ ℓ (-1) nr nw ng (ukd i) (fun k => k) (utr i) (utw i) (tl.getD i 0) 0 1 (c1 i) ro)) → Cp g 6 m_X7_digest 0 0 Q 120 [(0, vr 3), (1, vl (mixR (fun i => ruM nr (ukd i) (unn i) (c0 i) (c1 i)) b h0)), (3, vi (b : Int))] [] (TT Ls tl) I1 L1 (RR tl) := by
    intro h0 hA0 k
    induction k with
    | zero =>
      intro b c0 c1 I1 L1 hbk f1 f2 hX1 hc
      have hb : b = tl.length := by omega
      have e4 := hX1.2.1
      refine r_iload_n d_X7_digest_120 rfl ?_
      refine r_aload_n d_X7_digest_121 rfl ?_
      refine r_geti d_X7_digest_122 f_X7_97 (tt_3 _ _) (by decide) (by decide) ?_
      refine r_icmp_ge d_X7_digest_125 (by omega) (by omega) (fun c125 => ?_) (fun c125 => absurd c125 (by omega))
      refine r_iconst d_X7_digest_234 ?_
      refine r_istore_n d_X7_digest_235 (by decide) ?_
      exact CpL (t236 I1 L1 (mixR (fun i => ruM nr (ukd i) (unn i) (c0 i) (c1 i)) b h0) f1 f2 hX1 (by rw [hb]; exact hA0 c0 c1 (by rw [← hb]; exact hc)) pl 0 (by omega)) (by repeat (first | exact trivial | refine ⟨rfl, ?_⟩))
    | succ k ih =>
      intro b c0 c1 I1 L1 hbk f1 f2 hX1 hc
      have hb : b < tl.length := by omega
      have e4 := hX1.2.1
      have hU := hX1.2.2.2 b hb
      have hql := hU.1
      have ek : I1 (186 + 3 * b) 0 = ukd b := hU.2.2.1
      have en : I1 (186 + 3 * b) 1 = unn b := hU.2.2.2.1
      have hkd := hU.2.2.2.2.1
      have hnn := hU.2.2.2.2.2.1
      have e3 : I1 8 3 = (nr : Int) := hX1.1.2.2.1.1
      have hc2 := c_isHoused (g := g) (Ls := Ls) (tl := tl) (I := I1) (L := L1) (by omega)
      rw [e3] at hc2
      obtain ⟨h, hh⟩ : ∃ h, h = mixR (fun i => ruM nr (ukd i) (unn i) (c0 i) (c1 i)) b h0 := ⟨_, rfl⟩
      by_cases k1 : ukd b ≠ 5 ∧ 0 < nr
      · rw [if_pos (by omega)] at hc2
        have hO1 : OX Ls tl nr 1 (fun k => k) I1 := ⟨⟨8, tt_1 Ls tl, by omega, by omega⟩, by omega, fun k hk => ⟨hk, hX1.1.2.2.2.2.2.2.2 k (by omega)⟩⟩
        have hDV := DV_plan (ab := -1) (pm := fun r => pmS σ r ng) (kd := ukd b) (tr := utr b) (tw := utw b) (tn := tl.getD b 0) (way := 0) b2 (od := fun k => k) (fun k hk => hk)
        rw [← hh]
        refine r_iload_n d_X7_digest_120 rfl ?_
        refine r_aload_n d_X7_digest_121 rfl ?_
        refine r_geti d_X7_digest_122 f_X7_97 (tt_3 _ _) (by decide) (by decide) ?_
        refine r_icmp_ge d_X7_digest_125 (by omega) (by omega) (fun c125 => absurd c125 (by omega)) (fun c125 => ?_)
        refine r_ldc2 d_X7_digest_128 (k_X7_285 _ rfl) ?_
        refine r_lload_n d_X7_digest_131 rfl ?_
        refine r_lmul d_X7_digest_132 ?_
        refine r_aload_n d_X7_digest_133 rfl ?_
        refine r_getr d_X7_digest_134 f_X7_28 (tt_3 _ _) (by decide) rfl (rr_3_3 _) ?_
        refine r_iload_n d_X7_digest_137 rfl ?_
        refine r_aaldJ d_X7_digest_138 (tt_62 _ _) (by decide) rfl (by omega) (rrr_62 (by exact hb)) (kk := ?_)
        refine r_geti d_X7_digest_139 f_X7_160 (ttr_0 hql) (by decide) (by decide) ?_
        rw [ek]
        refine r_i2l d_X7_digest_142 (by omega) ?_
        refine r_ladd d_X7_digest_143 ?_
        refine r_lstore_n d_X7_digest_144 (by decide) ?_
        refine r_ldc2 d_X7_digest_145 (k_X7_285 _ rfl) ?_
        refine r_lload_n d_X7_digest_148 rfl ?_
        refine r_lmul d_X7_digest_149 ?_
        refine r_aload_n d_X7_digest_150 rfl ?_
        refine r_getr d_X7_digest_151 f_X7_28 (tt_3 _ _) (by decide) rfl (rr_3_3 _) ?_
        refine r_iload_n d_X7_digest_154 rfl ?_
        refine r_aaldJ d_X7_digest_155 (tt_62 _ _) (by decide) rfl (by omega) (rrr_62 (by exact hb)) (kk := ?_)
        refine r_geti d_X7_digest_156 f_X7_163 (ttr_0 hql) (by decide) (by decide) ?_
        rw [en]
        refine r_i2l d_X7_digest_159 (by omega) ?_
        refine r_ladd d_X7_digest_160 ?_
        refine r_lstore_n d_X7_digest_161 (by decide) ?_
        refine r_aload_n d_X7_digest_162 rfl ?_
        refine r_getr d_X7_digest_163 f_X7_28 (tt_3 _ _) (by decide) rfl (rr_3_3 _) ?_
        refine r_iload_n d_X7_digest_166 rfl ?_
        refine r_aaldJ d_X7_digest_167 (tt_62 _ _) (by decide) rfl (by omega) (rrr_62 (by exact hb)) (kk := ?_)
        refine r_geti d_X7_digest_168 f_X7_160 (ttr_0 hql) (by decide) (by decide) ?_
        rw [ek]
        refine r_iconst d_X7_digest_171 ?_
        refine r_icmp_eq d_X7_digest_172 (by omega) (by omega) (fun c172 => absurd c172 (by exact k1.1)) (fun c172 => ?_)
        refine r_aload_n d_X7_digest_175 rfl ?_
        refine r_V0i d_X7_digest_176 (w_X7_157 _ rfl) (tt_3 _ _) rfl rfl (hc2) (by decide) (Nat.le_of_ble_eq_true rfl) (fun z176 T176 I176 L176 R176 h176 => ?_)
        obtain ⟨rfl, rfl, rfl, rfl, rfl⟩ := h176
        refine r_if_eq d_X7_digest_179 (by omega) (fun c179 => absurd c179 (by decide)) (fun c179 => ?_)
        refine r_ldc2 d_X7_digest_182 (k_X7_285 _ rfl) ?_
        refine r_lload_n d_X7_digest_185 rfl ?_
        refine r_lmul d_X7_digest_186 ?_
        refine r_aload_n d_X7_digest_187 rfl ?_
        refine r_aload_n d_X7_digest_188 rfl ?_
        refine r_getr d_X7_digest_189 f_X7_28 (tt_3 _ _) (by decide) rfl (rr_3_3 _) ?_
        refine r_iload_n d_X7_digest_192 rfl ?_
        refine r_aaldJ d_X7_digest_193 (tt_62 _ _) (by decide) rfl (by omega) (rrr_62 (by exact hb)) (kk := ?_)
        refine r_getsA d_X7_digest_194 (s_X7_287 _ rfl) ?_
        refine r_iconst d_X7_digest_197 ?_
        refine r_iconst d_X7_digest_198 ?_
        refine r_V4i d_X7_digest_199 (w_X7_186 _ rfl) (tt_3 _ _) rfl rfl (c_dayCost (way := 0) (how := 0) hX1.1 k1.2 hU hO1 (by omega) (Or.inl rfl)) (by decide) (Nat.le_of_ble_eq_true rfl) (fun z199 T199 I199 L199 R199 h199 => ?_)
        obtain ⟨rfl, rfl, y1, y2, y3, y4⟩ := h199
        have hB2 := XB_day hX1.1 (fun a ha => y1 a (by omega)) (KNX_frb hX1.1.2.2.2.2.2.1 (fun a ha => y1 a (by omega))) y2
        have hU2 := UX_frb hU y1 (by omega)
        have hz1 := GVX_bd v6 ⟨v1, v3⟩ (fun r hr => (hDV.1 r hr).2.2.2) y4
        refine r_i2l d_X7_digest_202 (by omega) ?_
        refine r_ladd d_X7_digest_203 ?_
        refine r_lstore_n d_X7_digest_204 (by decide) ?_
        refine r_ldc2 d_X7_digest_205 (k_X7_285 _ rfl) ?_
        refine r_lload_n d_X7_digest_208 rfl ?_
        refine r_lmul d_X7_digest_209 ?_
        refine r_aload_n d_X7_digest_210 rfl ?_
        refine r_aload_n d_X7_digest_211 rfl ?_
        refine r_getr d_X7_digest_212 f_X7_28 (tt_3 _ _) (by decide) rfl (rr_3_3 _) ?_
        refine r_iload_n d_X7_digest_215 rfl ?_
        refine r_aaldJ d_X7_digest_216 (tt_62 _ _) (by decide) rfl (by omega) (rrr_62 (by exact hb)) (kk := ?_)
        refine r_getsA d_X7_digest_217 (s_X7_287 _ rfl) ?_
        refine r_iconst d_X7_digest_220 ?_
        refine r_iconst d_X7_digest_221 ?_
        refine r_V4i d_X7_digest_222 (w_X7_186 _ rfl) (tt_3 _ _) rfl rfl (c_dayCost (way := 0) (how := 1) hB2 k1.2 hU2 (OX_frb hO1 y1) (by omega) (Or.inr rfl)) (by decide) (Nat.le_of_ble_eq_true rfl) (fun z222 T222 I222 L222 R222 h222 => ?_)
        obtain ⟨rfl, rfl, w1, w2, w3, w4⟩ := h222
        have hz2 := GVX_bd v6 ⟨v1, v3⟩ (fun r hr => (hDV.1 r hr).2.2.2) w4
        have hB3 := XB_day hB2 (fun a ha => w1 a (by omega)) (KNX_frb hB2.2.2.2.2.2.1 (fun a ha => w1 a (by omega))) w2
        obtain ⟨d0, d0b, d0n⟩ : ∃ S' : Nat → Int, S' b = z199 ∧ ∀ i, i ≠ b → S' i = c0 i := ⟨fun i => if i = b then z199 else c0 i, if_pos rfl, fun i hi => if_neg hi⟩
        obtain ⟨d1, d1b, d1n⟩ : ∃ S' : Nat → Int, S' b = z222 ∧ ∀ i, i ≠ b → S' i = c1 i := ⟨fun i => if i = b then z222 else c1 i, if_pos rfl, fun i hi => if_neg hi⟩
        have es : mixR (fun i => ruM nr (ukd i) (unn i) (d0 i) (d1 i)) (b + 1) h0 = 31 * (31 * (31 * (31 * h + ukd b) + unn b) + z199) + z222 := by
          have e0 : mixR (fun i => ruM nr (ukd i) (unn i) (d0 i) (d1 i)) b h0 = h := by
            rw [hh]; exact mixR_congr b (fun i hi => by rw [d0n i (by omega), d1n i (by omega)])
          show ruM nr (ukd b) (unn b) (d0 b) (d1 b) (mixR (fun i => ruM nr (ukd i) (unn i) (d0 i) (d1 i)) b h0) = _
          rw [e0, d0b, d1b]
          unfold ruM
          rw [if_pos k1]
        have f3 : frb 70 138 I I222 := frb_tr f1 (frb_tr (frb_wd y1 (by omega) (by omega)) (frb_wd w1 (by omega) (by omega)))
        refine r_i2l d_X7_digest_225 (by omega) ?_
        refine r_ladd d_X7_digest_226 ?_
        refine r_lstore_n d_X7_digest_227 (by decide) ?_
        refine r_iinc d_X7_digest_228 rfl (by decide) ?_
        refine r_goto d_X7_digest_231 ?_
        refine CpL (ih (b + 1) d0 d1 I222 L222 (by omega) f3 (frb_tr f2 (frb_tr y2 w2)) ⟨hB3, RX_frb hR f3 (by omega) (by omega)⟩ (fun i hi h5 hn => ?_)) (by repeat (first | exact trivial | refine ⟨rfl, ?_⟩ | refine ⟨by rw [es]; rfl, ?_⟩))
        by_cases e2 : i = b
        · subst e2
          rw [d0b, d1b]
          exact ⟨⟨_, y4⟩, ⟨_, w4⟩⟩
        · rw [d0n i e2, d1n i e2]
          exact hc i (by omega) h5 hn
      · have es : mixR (fun i => ruM nr (ukd i) (unn i) (c0 i) (c1 i)) (b + 1) h0 = 31 * (31 * h + ukd b) + unn b := by
          show ruM nr (ukd b) (unn b) (c0 b) (c1 b) (mixR (fun i => ruM nr (ukd i) (unn i) (c0 i) (c1 i)) b h0) = _
          rw [← hh]
          unfold ruM
          rw [if_neg k1]
        have hc3 : ∀ i, i < b + 1 → ukd i ≠ 5 → 0 < nr → (∃ ro, DC σ ℓ (-1) nr nw ng (ukd i) (fun k => k) (utr i) (utw i) (tl.getD i 0) 0 0 (c0 i) ro) ∧ (∃ ro, DC σ ℓ (-1) nr nw ng (ukd i) (fun k => k) (utr i) (utw i) (tl.getD i 0) 0 1 (c1 i) ro) := fun i hi h5 hn => hc i (by have : i ≠ b := fun e => k1 ⟨by rw [← e]; exact h5, hn⟩; omega) h5 hn
        rw [← hh]
        refine r_iload_n d_X7_digest_120 rfl ?_
        refine r_aload_n d_X7_digest_121 rfl ?_
        refine r_geti d_X7_digest_122 f_X7_97 (tt_3 _ _) (by decide) (by decide) ?_
        refine r_icmp_ge d_X7_digest_125 (by omega) (by omega) (fun c125 => absurd c125 (by omega)) (fun c125 => ?_)
        refine r_ldc2 d_X7_digest_128 (k_X7_285 _ rfl) ?_
        refine r_lload_n d_X7_digest_131 rfl ?_
        refine r_lmul d_X7_digest_132 ?_
        refine r_aload_n d_X7_digest_133 rfl ?_
        refine r_getr d_X7_digest_134 f_X7_28 (tt_3 _ _) (by decide) rfl (rr_3_3 _) ?_
        refine r_iload_n d_X7_digest_137 rfl ?_
        refine r_aaldJ d_X7_digest_138 (tt_62 _ _) (by decide) rfl (by omega) (rrr_62 (by exact hb)) (kk := ?_)
        refine r_geti d_X7_digest_139 f_X7_160 (ttr_0 hql) (by decide) (by decide) ?_
        rw [ek]
        refine r_i2l d_X7_digest_142 (by omega) ?_
        refine r_ladd d_X7_digest_143 ?_
        refine r_lstore_n d_X7_digest_144 (by decide) ?_
        refine r_ldc2 d_X7_digest_145 (k_X7_285 _ rfl) ?_
        refine r_lload_n d_X7_digest_148 rfl ?_
        refine r_lmul d_X7_digest_149 ?_
        refine r_aload_n d_X7_digest_150 rfl ?_
        refine r_getr d_X7_digest_151 f_X7_28 (tt_3 _ _) (by decide) rfl (rr_3_3 _) ?_
        refine r_iload_n d_X7_digest_154 rfl ?_
        refine r_aaldJ d_X7_digest_155 (tt_62 _ _) (by decide) rfl (by omega) (rrr_62 (by exact hb)) (kk := ?_)
        refine r_geti d_X7_digest_156 f_X7_163 (ttr_0 hql) (by decide) (by decide) ?_
        rw [en]
        refine r_i2l d_X7_digest_159 (by omega) ?_
        refine r_ladd d_X7_digest_160 ?_
        refine r_lstore_n d_X7_digest_161 (by decide) ?_
        refine r_aload_n d_X7_digest_162 rfl ?_
        refine r_getr d_X7_digest_163 f_X7_28 (tt_3 _ _) (by decide) rfl (rr_3_3 _) ?_
        refine r_iload_n d_X7_digest_166 rfl ?_
        refine r_aaldJ d_X7_digest_167 (tt_62 _ _) (by decide) rfl (by omega) (rrr_62 (by exact hb)) (kk := ?_)
        refine r_geti d_X7_digest_168 f_X7_160 (ttr_0 hql) (by decide) (by decide) ?_
        rw [ek]
        refine r_iconst d_X7_digest_171 ?_
        refine r_icmp_eq d_X7_digest_172 (by omega) (by omega) (fun c172 => ?_) (fun c172 => ?_)
        · refine r_iinc d_X7_digest_228 rfl (by decide) ?_
          refine r_goto d_X7_digest_231 ?_
          exact CpL (ih (b + 1) c0 c1 I1 L1 (by omega) f1 f2 hX1 hc3) (by repeat (first | exact trivial | refine ⟨rfl, ?_⟩ | refine ⟨by rw [es]; rfl, ?_⟩))
        · refine r_aload_n d_X7_digest_175 rfl ?_
          refine r_V0i d_X7_digest_176 (w_X7_157 _ rfl) (tt_3 _ _) rfl rfl (hc2) (by decide) (Nat.le_of_ble_eq_true rfl) (fun z176 T176 I176 L176 R176 h176 => ?_)
          obtain ⟨rfl, rfl, rfl, rfl, rfl⟩ := h176
          refine r_if_eq d_X7_digest_179 (by split <;> omega) (fun c179 => ?_) (fun c179 => absurd c179 (by rw [if_neg (by omega)]; decide))
          refine r_iinc d_X7_digest_228 rfl (by decide) ?_
          refine r_goto d_X7_digest_231 ?_
          exact CpL (ih (b + 1) c0 c1 I1 L1 (by omega) f1 f2 hX1 hc3) (by repeat (first | exact trivial | refine ⟨rfl, ?_⟩ | refine ⟨by rw [es]; rfl, ?_⟩))
  have t72 : ∀ (h0 : Int), aDigest σ ℓ nr nw ng tl ukd unn utr utw pg pl q = A → h0 = mixR (fun w => mixS (fun k => σ (7 + k) w) 3) nw (mixR (fun r => mixS (fun k => σ k r) 7) nr 419) → ∀ k b : Nat, b + k = ng → Cp g 6 m_X7_digest 0 0 Q 72 [(0, vr 3), (1, vl (mixR (fun u => mixS (fun k => σ (10 + k) u) 4) b h0)), (3, vi (b : Int))] [] (TT Ls tl) I L (RR tl) := by
    intro h0 hA2 hh0 k
    have e5 : I 8 5 = (ng : Int) := b3.2.2.1
    induction k with
    | zero =>
      intro b hbk
      have hb : b = ng := by omega
      have e63 : I 63 0 = ℓ := b5.2.2.1
      have hl := b2.2.2.2.2
      refine r_iload_n d_X7_digest_72 rfl ?_
      refine r_aload_n d_X7_digest_73 rfl ?_
      refine r_getr d_X7_digest_74 f_X7_19 (tt_3 _ _) (by decide) rfl (rr_3_1 _) ?_
      refine r_geti d_X7_digest_77 f_X7_276 (tt_8 _ _) (by decide) (by decide) ?_
      refine r_icmp_ge d_X7_digest_80 (by omega) (by omega) (fun c80 => ?_) (fun c80 => absurd c80 (by omega))
      refine r_ldc2 d_X7_digest_103 (k_X7_285 _ rfl) ?_
      refine r_lload_n d_X7_digest_106 rfl ?_
      refine r_lmul d_X7_digest_107 ?_
      refine r_aload_n d_X7_digest_108 rfl ?_
      refine r_getr d_X7_digest_109 f_X7_37 (tt_3 _ _) (by decide) rfl (rr_3_5 _) ?_
      refine r_geti d_X7_digest_112 f_X7_147 (tt_63 _ _) (by decide) (by decide) ?_
      rw [e63]
      refine r_i2l d_X7_digest_115 (by omega) ?_
      refine r_ladd d_X7_digest_116 ?_
      refine r_lstore_n d_X7_digest_117 (by decide) ?_
      refine r_iconst d_X7_digest_118 ?_
      refine r_istore_n d_X7_digest_119 (by decide) ?_
      refine CpL (t120 (31 * mixR (fun u => mixS (fun k => σ (10 + k) u) 4) b h0 + ℓ) (fun c0 c1 hc => ?_) tl.length 0 (fun _ => 0) (fun _ => 0) I L (by omega) frb_rf frb_rf hX (fun i h => absurd h (by omega))) (by repeat (first | exact trivial | refine ⟨rfl, ?_⟩))
      rw [← hA2, hb, hh0]
      exact ⟨c0, c1, hc, rfl⟩
    | succ k ih =>
      intro b hbk
      have hb : b < ng := by omega
      refine r_iload_n d_X7_digest_72 rfl ?_
      refine r_aload_n d_X7_digest_73 rfl ?_
      refine r_getr d_X7_digest_74 f_X7_19 (tt_3 _ _) (by decide) rfl (rr_3_1 _) ?_
      refine r_geti d_X7_digest_77 f_X7_276 (tt_8 _ _) (by decide) (by decide) ?_
      refine r_icmp_ge d_X7_digest_80 (by omega) (by omega) (fun c80 => absurd c80 (by omega)) (fun c80 => ?_)
      refine r_lload_n d_X7_digest_83 rfl ?_
      refine r_aload_n d_X7_digest_84 rfl ?_
      refine r_getr d_X7_digest_85 f_X7_19 (tt_3 _ _) (by decide) rfl (rr_3_1 _) ?_
      refine r_getr d_X7_digest_88 f_X7_141 (tt_8 _ _) (by decide) rfl (rr_8_2 _) ?_
      refine r_iload_n d_X7_digest_91 rfl ?_
      refine r_aaldJ d_X7_digest_92 (tt_22 _ _) (by decide) rfl (by omega) (rr2_22 _ (by omega)) (kk := ?_)
      refine r_S2l d_X7_digest_93 (w_X7_281 _ rfl) (c_addAll (f := fun k => σ (10 + k) b) (F := fun j => mixS (fun k => σ (10 + k) b) j (mixR (fun u => mixS (fun k => σ (10 + k) u) 4) b h0)) (tt2_22 Ls tl (i := b) (by omega)) (by omega) (fun j hj => ⟨HXg b3 hb hj, GV_k (v6 b hb) hj⟩) rfl (fun j hj => rfl)) (by decide) (Nat.le_of_ble_eq_true rfl) (fun z93 T93 I93 L93 R93 h93 => ?_)
      obtain ⟨rfl, rfl, rfl, rfl, rfl⟩ := h93
      refine r_lstore_n d_X7_digest_96 (by decide) ?_
      refine r_iinc d_X7_digest_97 rfl (by decide) ?_
      refine r_goto d_X7_digest_100 ?_
      exact CpL (ih (b + 1) (by omega)) (by repeat (first | exact trivial | refine ⟨rfl, ?_⟩))
  have t39 : ∀ (h0 : Int), aDigest σ ℓ nr nw ng tl ukd unn utr utw pg pl q = A → h0 = mixR (fun r => mixS (fun k => σ k r) 7) nr 419 → ∀ k b : Nat, b + k = nw → Cp g 6 m_X7_digest 0 0 Q 39 [(0, vr 3), (1, vl (mixR (fun w => mixS (fun k => σ (7 + k) w) 3) b h0)), (3, vi (b : Int))] [] (TT Ls tl) I L (RR tl) := by
    intro h0 hA2 hh0 k
    have e5 : I 8 4 = (nw : Int) := b3.2.1
    induction k with
    | zero =>
      intro b hbk
      have hb : b = nw := by omega
      refine r_iload_n d_X7_digest_39 rfl ?_
      refine r_aload_n d_X7_digest_40 rfl ?_
      refine r_getr d_X7_digest_41 f_X7_19 (tt_3 _ _) (by decide) rfl (rr_3_1 _) ?_
      refine r_geti d_X7_digest_44 f_X7_132 (tt_8 _ _) (by decide) (by decide) ?_
      refine r_icmp_ge d_X7_digest_47 (by omega) (by omega) (fun c47 => ?_) (fun c47 => absurd c47 (by omega))
      refine r_iconst d_X7_digest_70 ?_
      refine r_istore_n d_X7_digest_71 (by decide) ?_
      exact CpL (t72 (mixR (fun w => mixS (fun k => σ (7 + k) w) 3) b h0) hA2 (by rw [hb, hh0]) ng 0 (by omega)) (by repeat (first | exact trivial | refine ⟨rfl, ?_⟩))
    | succ k ih =>
      intro b hbk
      have hb : b < nw := by omega
      refine r_iload_n d_X7_digest_39 rfl ?_
      refine r_aload_n d_X7_digest_40 rfl ?_
      refine r_getr d_X7_digest_41 f_X7_19 (tt_3 _ _) (by decide) rfl (rr_3_1 _) ?_
      refine r_geti d_X7_digest_44 f_X7_132 (tt_8 _ _) (by decide) (by decide) ?_
      refine r_icmp_ge d_X7_digest_47 (by omega) (by omega) (fun c47 => absurd c47 (by omega)) (fun c47 => ?_)
      refine r_lload_n d_X7_digest_50 rfl ?_
      refine r_aload_n d_X7_digest_51 rfl ?_
      refine r_getr d_X7_digest_52 f_X7_19 (tt_3 _ _) (by decide) rfl (rr_3_1 _) ?_
      refine r_getr d_X7_digest_55 f_X7_135 (tt_8 _ _) (by decide) rfl (rr_8_1 _) ?_
      refine r_iload_n d_X7_digest_58 rfl ?_
      refine r_aaldJ d_X7_digest_59 (tt_18 _ _) (by decide) rfl (by omega) (rr2_18 _ (by omega)) (kk := ?_)
      refine r_S2l d_X7_digest_60 (w_X7_281 _ rfl) (c_addAll (f := fun k => σ (7 + k) b) (F := fun j => mixS (fun k => σ (7 + k) b) j (mixR (fun w => mixS (fun k => σ (7 + k) w) 3) b h0)) (tt2_18 Ls tl (i := b) (by omega)) (by omega) (fun j hj => ⟨HXw b3 hb hj, WV_k (v5 b hb) hj⟩) rfl (fun j hj => rfl)) (by decide) (Nat.le_of_ble_eq_true rfl) (fun z60 T60 I60 L60 R60 h60 => ?_)
      obtain ⟨rfl, rfl, rfl, rfl, rfl⟩ := h60
      refine r_lstore_n d_X7_digest_63 (by decide) ?_
      refine r_iinc d_X7_digest_64 rfl (by decide) ?_
      refine r_goto d_X7_digest_67 ?_
      exact CpL (ih (b + 1) (by omega)) (by repeat (first | exact trivial | refine ⟨rfl, ?_⟩))
  have t6 : aDigest σ ℓ nr nw ng tl ukd unn utr utw pg pl q = A → ∀ k b : Nat, b + k = nr → Cp g 6 m_X7_digest 0 0 Q 6 [(0, vr 3), (1, vl (mixR (fun r => mixS (fun k => σ k r) 7) b 419)), (3, vi (b : Int))] [] (TT Ls tl) I L (RR tl) := by
    intro hA2 k
    have e5 : I 8 3 = (nr : Int) := b3.1
    induction k with
    | zero =>
      intro b hbk
      have hb : b = nr := by omega
      refine r_iload_n d_X7_digest_6 rfl ?_
      refine r_aload_n d_X7_digest_7 rfl ?_
      refine r_getr d_X7_digest_8 f_X7_19 (tt_3 _ _) (by decide) rfl (rr_3_1 _) ?_
      refine r_geti d_X7_digest_11 f_X7_94 (tt_8 _ _) (by decide) (by decide) ?_
      refine r_icmp_ge d_X7_digest_14 (by omega) (by omega) (fun c14 => ?_) (fun c14 => absurd c14 (by omega))
      refine r_iconst d_X7_digest_37 ?_
      refine r_istore_n d_X7_digest_38 (by decide) ?_
      exact CpL (t39 (mixR (fun r => mixS (fun k => σ k r) 7) b 419) hA2 (by rw [hb]) nw 0 (by omega)) (by repeat (first | exact trivial | refine ⟨rfl, ?_⟩))
    | succ k ih =>
      intro b hbk
      have hb : b < nr := by omega
      refine r_iload_n d_X7_digest_6 rfl ?_
      refine r_aload_n d_X7_digest_7 rfl ?_
      refine r_getr d_X7_digest_8 f_X7_19 (tt_3 _ _) (by decide) rfl (rr_3_1 _) ?_
      refine r_geti d_X7_digest_11 f_X7_94 (tt_8 _ _) (by decide) (by decide) ?_
      refine r_icmp_ge d_X7_digest_14 (by omega) (by omega) (fun c14 => absurd c14 (by omega)) (fun c14 => ?_)
      refine r_lload_n d_X7_digest_17 rfl ?_
      refine r_aload_n d_X7_digest_18 rfl ?_
      refine r_getr d_X7_digest_19 f_X7_19 (tt_3 _ _) (by decide) rfl (rr_3_1 _) ?_
      refine r_getr d_X7_digest_22 f_X7_128 (tt_8 _ _) (by decide) rfl (rr_8_0 _) ?_
      refine r_iload_n d_X7_digest_25 rfl ?_
      refine r_aaldJ d_X7_digest_26 (tt_9 _ _) (by decide) rfl (by omega) (rr2_9 _ (by omega)) (kk := ?_)
      refine r_S2l d_X7_digest_27 (w_X7_281 _ rfl) (c_addAll (f := fun k => σ k b) (F := fun j => mixS (fun k => σ k b) j (mixR (fun r => mixS (fun k => σ k r) 7) b 419)) (tt2_9 Ls tl (i := b) (by omega)) (by omega) (fun j hj => ⟨HXr b3 hb hj, RV_k (v4 b hb) hj⟩) rfl (fun j hj => rfl)) (by decide) (Nat.le_of_ble_eq_true rfl) (fun z27 T27 I27 L27 R27 h27 => ?_)
      obtain ⟨rfl, rfl, rfl, rfl, rfl⟩ := h27
      refine r_lstore_n d_X7_digest_30 (by decide) ?_
      refine r_iinc d_X7_digest_31 rfl (by decide) ?_
      refine r_goto d_X7_digest_34 ?_
      exact CpL (ih (b + 1) (by omega)) (by repeat (first | exact trivial | refine ⟨rfl, ?_⟩))
  refine r_ldc2 d_X7_digest_0 (k_X7_279 _ rfl) ?_
  refine r_lstore_n d_X7_digest_3 (by decide) ?_
  refine r_iconst d_X7_digest_4 ?_
  refine r_istore_n d_X7_digest_5 (by decide) ?_
  exact CpL (t6 hA.symm nr 0 (by omega)) (by repeat (first | exact trivial | refine ⟨rfl, ?_⟩))
end C61
