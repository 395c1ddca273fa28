/-! the law: calls that change what is told -/
abbrev lwd (A0 : Nat → Int) (i : Nat) : Int := slor (slshl (A0 (i + 1)) 32) (sland (A0 (i + 2)) 4294967295)
def letA (pg : Nat → Int) (len : Nat) (w : Int) : (Nat → Int) × Nat := match ltS (bytS w) 8 with
  | none => (pg, len)
  | some q => if len + q.1 ≤ 160 then (pgS pg len (bytS w), len + q.1) else (pg, len)
theorem PGL_fr {pg : Nat → Int} {len : Nat} {I I' : sI} (h : PGL pg len I) (f4 : I' 4 1 = I 4 1) (f5 : I' 5 = I 5) : PGL pg len I' := ⟨by rw [f4]; exact h.1, h.2.1, fun j hj => by rw [f5]; exact h.2.2 j hj⟩
theorem PGM_fr {pg : Nat → Int} {len : Nat} {I I' : sI} (h : PGM pg len I) (f4 : I' 139 23 = I 139 23) (f5 : I' 157 = I 157) : PGM pg len I' := ⟨by rw [f4]; exact h.1, h.2.1, fun j hj => by rw [f5]; exact h.2.2 j hj⟩
theorem PGL_0 {pg : Nat → Int} {I : sI} (h : I 4 1 = 0) : PGL pg 0 I := ⟨h, by decide, fun j hj => absurd hj (by omega)⟩
theorem PGM_0 {pg : Nat → Int} {I : sI} (h : I 139 23 = 0) : PGM pg 0 I := ⟨h, by decide, fun j hj => absurd hj (by omega)⟩
/-- what a reading begins with: the reference's own rows -/
def dfo (I : sI) : Sg := fun k i => if k = 20 then 0 else if k = 4 then -1 else if k < 6 then I (159 + k) i else I (158 + k) i
theorem dfo_i {I : sI} : iniA (dfo I) := ⟨rfl, rfl, rfl, rfl, rfl⟩
theorem dfo_4 {I : sI} : ∀ i, dfo I 4 i = -1 := fun _ => rfl
theorem dfo_r {I I' : sI} (f : ∀ a, 159 ≤ a → a < 172 → I' a = I a) : ROW (dfo I) I' := ⟨f 159 (by decide) (by decide), f 160 (by decide) (by decide), f 161 (by decide) (by decide), f 162 (by decide) (by decide), f 164 (by decide) (by decide), f 165 (by decide) (by decide), f 166 (by decide) (by decide), f 167 (by decide) (by decide), f 168 (by decide) (by decide), f 169 (by decide) (by decide), f 170 (by decide) (by decide), f 171 (by decide) (by decide)⟩
section L9za
variable {g : sG} {Ls i u mc ms len nr nw ng : Nat} {A0 pg xi : Nat → Int} {Q : sQ} {q kept ℓi ℓ : Int} {σ : Sg} {tl : List Nat} {ukd unn : Nat → Int} {utr utw : Nat → Nat → Nat} {I L : sI}
theorem law_0 (hi : i + 6 ≤ Ls) (hLs : Ls ≤ 3072) (hA0 : ∀ j, i32 (A0 j)) (hu : tl.length = u) (h : LW A0 pg len q kept ℓi xi i σ ℓ nr nw ng tl ukd unn utr utw I L) (hK : KON g Ls A0 Q i u (letA pg len (lwd A0 i)).1 (letA pg len (lwd A0 i)).2 mc ms) : Cp g 14 m_L_law mc ms Q 172 [(0, vr 0), (1, vr 3), (2, vr 139), (3, vi (i : Int))] [] (TT Ls tl) I L (RR tl) := by
  obtain ⟨hX, hM, h0w, hT⟩ := id h
  obtain ⟨hI0, hPL, hPM, ⟨hq1, hq2, hq3⟩, hIm⟩ := id hT
  have hV := hM.1
  refine r_aload_n d_L_law_172 rfl ?_
  refine r_aload_n d_L_law_173 rfl ?_
  refine r_iload_n d_L_law_174 rfl ?_
  refine r_iconst d_L_law_175 ?_
  refine r_iadd d_L_law_176 ?_
  refine r_ialdJ (j := i + 1) d_L_law_177 (tt_0 _ _) (by omega) (by omega) (hn := (by omega)) (kk := ?_)
  rw [hI0]
  refine r_i2l d_L_law_178 (by exact hA0 _) ?_
  refine r_bipush d_L_law_179 (by decide) ?_
  refine r_lshl d_L_law_181 ?_
  refine r_aload_n d_L_law_182 rfl ?_
  refine r_iload_n d_L_law_183 rfl ?_
  refine r_iconst d_L_law_184 ?_
  refine r_iadd d_L_law_185 ?_
  refine r_ialdJ (j := i + 2) d_L_law_186 (tt_0 _ _) (by omega) (by omega) (hn := (by omega)) (kk := ?_)
  rw [hI0]
  refine r_i2l d_L_law_187 (by exact hA0 _) ?_
  refine r_ldc2 d_L_law_188 (k_L_13 _ rfl) ?_
  refine r_land d_L_law_191 ?_
  refine r_lor d_L_law_192 ?_
  refine r_V1i d_L_law_193 (w_L_15 _ rfl) (tt_3 _ _) rfl rfl (c_letters (w := lwd A0 i) hPL) (by decide) (Nat.le_of_ble_eq_true rfl) (fun z193 T193 I193 L193 R193 h193 => ?_)
  obtain ⟨rfl, rfl, rfl, f1, f1b, n1, s1⟩ := h193
  have e0 : I193 0 = A0 := by rw [f1 0 (by omega) (by omega)]; exact hI0
  have hPM1 : PGM pg len I193 := PGM_fr hPM (by rw [f1 139 (by omega) (by omega)]) (f1 157 (by omega) (by omega))
  refine r_aload_n d_L_law_196 rfl ?_
  refine r_aload_n d_L_law_197 rfl ?_
  refine r_iload_n d_L_law_198 rfl ?_
  refine r_iconst d_L_law_199 ?_
  refine r_iadd d_L_law_200 ?_
  refine r_ialdJ (j := i + 1) d_L_law_201 (tt_0 _ _) (by omega) (by omega) (hn := (by omega)) (kk := ?_)
  rw [e0]
  refine r_i2l d_L_law_202 (by exact hA0 _) ?_
  refine r_bipush d_L_law_203 (by decide) ?_
  refine r_lshl d_L_law_205 ?_
  refine r_aload_n d_L_law_206 rfl ?_
  refine r_iload_n d_L_law_207 rfl ?_
  refine r_iconst d_L_law_208 ?_
  refine r_iadd d_L_law_209 ?_
  refine r_ialdJ (j := i + 2) d_L_law_210 (tt_0 _ _) (by omega) (by omega) (hn := (by omega)) (kk := ?_)
  rw [e0]
  refine r_i2l d_L_law_211 (by exact hA0 _) ?_
  refine r_ldc2 d_L_law_212 (k_L_13 _ rfl) ?_
  refine r_land d_L_law_215 ?_
  refine r_lor d_L_law_216 ?_
  refine r_V1i d_L_law_217 (w_L_19 _ rfl) (tt_139 _ _) rfl rfl (x_letters (w := lwd A0 i) hPM1) (by decide) (Nat.le_of_ble_eq_true rfl) (fun z217 T217 I217 L217 R217 h217 => ?_)
  obtain ⟨rfl, rfl, rfl, f3, f3b, n2, s2⟩ := h217
  have hX2 := XS_off hX (I' := I217) (L' := L217) (fun a ha => by rw [f3 a (by omega) (by omega), f1 a (by omega) (by omega)]) (by rw [f3 3 (by omega) (by omega), f1 3 (by omega) (by omega)]) rfl
  have hM2 := MS_off hM (I' := I217) (fun a h1 h2 h3 => by rw [f3 a (by omega) (by omega), f1 a (by omega) (by omega)]) (fun k hk => by rw [f3b k (by omega), f1 139 (by omega) (by omega)])
  have fin : z193 = z217 → ∀ (pg' : Nat → Int) (len' : Nat), letA pg len (lwd A0 i) = (pg', len') → PGL pg' len' I217 → PGM pg' len' I217 → Cp g 14 m_L_law mc ms Q 220 [(0, vr 0), (1, vr 3), (2, vr 139), (3, vi (i : Int))] [vi z217, vi z193] (TT Ls tl) I217 L217 (RR tl) := by
    intro ez pg' len' el hL' hM'
    rw [el] at hK
    subst ez
    refine r_icmp_same d_L_law_220 ?_
    exact hK _ _ _ _ _ _ _ _ _ _ _ _ _ _ _ _ hu ⟨hX2, hM2, h0w, RST_pg hT hL' hM' (by rw [f3 0 (by omega) (by omega), f1 0 (by omega) (by omega)]) (fun k hk => by rw [f3 3 (by omega) (by omega), f1 3 (by omega) (by omega)]) (by rw [f3 138 (by omega) (by omega), f1 138 (by omega) (by omega)]) (fun k hk => by rw [f3b k (by omega), f1 139 (by omega) (by omega)]) (by rw [f3 158 (by omega) (by omega), f1 158 (by omega) (by omega)]) (by omega)⟩
  cases hq : ltS (bytS (lwd A0 i)) 8 with
  | none =>
    obtain ⟨z1, i1⟩ := n1 hq
    obtain ⟨z2, i2⟩ := n2 hq
    refine fin (by rw [z1, z2]) pg len (by unfold letA; rw [hq]) ?_ ?_
    · rw [i2, i1]; exact hPL
    · rw [i2, i1]; exact hPM
  | some p =>
    obtain ⟨a1, a2⟩ := s1 p hq
    obtain ⟨b1, b2⟩ := s2 p hq
    by_cases c : len + p.1 ≤ 160
    · obtain ⟨z1, p1⟩ := a2 c
      obtain ⟨z2, p2⟩ := b2 c
      refine fin (by rw [z1, z2]) _ _ (by unfold letA; rw [hq]; exact if_pos c) ?_ p2
      exact PGL_fr p1 (by rw [f3 4 (by omega) (by omega)]) (f3 5 (by omega) (by omega))
    · obtain ⟨z1, i1⟩ := a1 (by omega)
      obtain ⟨z2, i2⟩ := b1 (by omega)
      refine fin (by rw [z1, z2]) pg len (by unfold letA; rw [hq]; exact if_neg c) ?_ ?_
      · rw [i2, i1]; exact hPL
      · rw [i2, i1]; exact hPM
theorem law_1 (hi : i + 6 ≤ Ls) (hLs : Ls ≤ 3072) (hA0 : ∀ j, i32 (A0 j)) (hu : tl.length = u) (h : LW A0 pg len q kept ℓi xi i σ ℓ nr nw ng tl ukd unn utr utw I L) (hK : KON g Ls A0 Q i u pg 0 mc ms) : Cp g 14 m_L_law mc ms Q 225 [(0, vr 0), (1, vr 3), (2, vr 139), (3, vi (i : Int))] [] (TT Ls tl) I L (RR tl) := by
  obtain ⟨hX, hM, h0w, hT⟩ := id h
  obtain ⟨hI0, hPL, hPM, ⟨hq1, hq2, hq3⟩, hIm⟩ := id hT
  refine r_aload_n d_L_law_225 rfl ?_
  refine r_V0i d_L_law_226 (w_L_20 _ rfl) (tt_3 _ _) rfl rfl (c_blank) (by decide) (Nat.le_of_ble_eq_true rfl) (fun z226 T226 I226 L226 R226 h226 => ?_)
  obtain ⟨z1, rfl, i1, rfl, rfl⟩ := h226
  refine r_aload_n d_L_law_229 rfl ?_
  refine r_V0i d_L_law_230 (w_L_24 _ rfl) (tt_139 _ _) rfl rfl (x_blank) (by decide) (Nat.le_of_ble_eq_true rfl) (fun z230 T230 I230 L230 R230 h230 => ?_)
  obtain ⟨z2, rfl, rfl, rfl, i2⟩ := h230
  have f1 : ∀ a, a ≠ 4 → I226 a = I a := fun a ha => by rw [i1, up2_ne _ _ ha]
  have f3 : ∀ a, a ≠ 139 → I230 a = I226 a := fun a ha => by rw [i2, up2_ne _ _ ha]
  have f3b : ∀ k, k ≠ 23 → I230 139 k = I226 139 k := fun k hk => by rw [i2, up2_nj _ _ hk]
  have ez : z226 = z230 := by rw [z1, z2, f1 139 (by decide), hPL.1, hPM.1]
  subst ez
  refine r_icmp_same d_L_law_233 ?_
  refine hK _ _ _ _ _ _ _ _ _ _ _ _ _ _ _ _ hu ⟨XS_off hX (fun a ha => by rw [f3 a (by omega), f1 a (by omega)]) (by rw [f3 3 (by omega), f1 3 (by omega)]) rfl, MS_off hM (fun a h1 h2 h3 => by rw [f3 a (by omega), f1 a (by omega)]) (fun k hk => by rw [f3b k (by omega), f1 139 (by omega)]), h0w, RST_pg hT (PGL_0 ?_) (PGM_0 ?_) (by rw [f3 0 (by omega), f1 0 (by omega)]) (fun k hk => by rw [f3 3 (by omega), f1 3 (by omega)]) (by rw [f3 138 (by omega), f1 138 (by omega)]) (fun k hk => by rw [f3b k (by omega), f1 139 (by omega)]) (by rw [f3 158 (by omega), f1 158 (by omega)]) (by omega)⟩
  · rw [f3 4 (by omega), i1, up2_at]
  · rw [i2, up2_at]
theorem law_2 (hi : i + 6 ≤ Ls) (hLs : Ls ≤ 3072) (hA0 : ∀ j, i32 (A0 j)) (hu : tl.length = u) (h : LW A0 pg len q kept ℓi xi i σ ℓ nr nw ng tl ukd unn utr utw I L) (hK : KON g Ls A0 Q i u pg len mc ms) : Cp g 14 m_L_law mc ms Q 238 [(0, vr 0), (1, vr 3), (2, vr 139), (3, vi (i : Int))] [] (TT Ls tl) I L (RR tl) := by
  obtain ⟨hX, hM, h0w, hT⟩ := id h
  obtain ⟨hI0, hPL, hPM, ⟨hq1, hq2, hq3⟩, hIm⟩ := id hT
  refine r_aload_n d_L_law_238 rfl ?_
  refine r_aload_n d_L_law_239 rfl ?_
  refine r_iload_n d_L_law_240 rfl ?_
  refine r_iconst d_L_law_241 ?_
  refine r_iadd d_L_law_242 ?_
  refine r_ialdJ (j := i + 1) d_L_law_243 (tt_0 _ _) (by omega) (by omega) (hn := (by omega)) (kk := ?_)
  rw [hI0]
  refine r_V1i d_L_law_244 (w_L_25 _ rfl) (tt_3 _ _) rfl rfl (c_fault (D0 := dfo I) hPL dfo_i (hA0 _)) (by decide) (Nat.le_of_ble_eq_true rfl) (fun z244 T244 I244 L244 R244 h244 => ?_)
  obtain ⟨rfl, rfl, rfl, f1, f1b, ha1⟩ := h244
  have e0 : I244 0 = A0 := by rw [f1 0 (by omega)]; exact hI0
  have hPM1 : PGM pg len I244 := PGM_fr hPM (by rw [f1 139 (by omega)]) (f1 157 (by omega))
  refine r_aload_n d_L_law_247 rfl ?_
  refine r_aload_n d_L_law_248 rfl ?_
  refine r_iload_n d_L_law_249 rfl ?_
  refine r_iconst d_L_law_250 ?_
  refine r_iadd d_L_law_251 ?_
  refine r_ialdJ (j := i + 1) d_L_law_252 (tt_0 _ _) (by omega) (by omega) (hn := (by omega)) (kk := ?_)
  rw [e0]
  refine r_V1i d_L_law_253 (w_L_29 _ rfl) (tt_139 _ _) rfl rfl (x_fault (D0 := dfo I) hPM1 dfo_i dfo_4 (dfo_r (fun a h1 h2 => f1 a (by omega))) (hA0 _)) (by decide) (Nat.le_of_ble_eq_true rfl) (fun z253 T253 I253 L253 R253 h253 => ?_)
  obtain ⟨rfl, rfl, rfl, f3, f3b, ha2⟩ := h253
  have ez := uFault ha1 ha2
  subst ez
  refine r_icmp_same d_L_law_256 ?_
  exact hK _ _ _ _ _ _ _ _ _ _ _ _ _ _ _ _ hu ⟨XS_off hX (fun a ha => by rw [f3 a (by omega) (by omega), f1 a (by omega)]) (by rw [f3 3 (by omega) (by omega), f1 3 (by omega)]) rfl, MS_off hM (fun a h1 h2 h3 => by rw [f3 a (by omega) (by omega), f1 a (by omega)]) (fun k hk => by rw [f3b k (by omega), f1 139 (by omega)]), h0w, RST_fr hT (by rw [f3 0 (by omega) (by omega), f1 0 (by omega)]) (fun k hk => by rw [f3 3 (by omega) (by omega), f1 3 (by omega)]) (by rw [f3 4 (by omega) (by omega), f1b 1 (by omega) (by omega) (by omega)]) (by rw [f3 5 (by omega) (by omega), f1 5 (by omega)]) (by rw [f3 138 (by omega) (by omega), f1 138 (by omega)]) (fun k hk => by rw [f3b k (by omega), f1 139 (by omega)]) (by rw [f3 157 (by omega) (by omega), f1 157 (by omega)]) (by rw [f3 158 (by omega) (by omega), f1 158 (by omega)]) ⟨by rw [f3 3 (by omega) (by omega), f1 3 (by omega)]; exact hq1, by rw [f3b 25 (by omega), f1 139 (by omega)]; exact hq2, hq3⟩ (by omega)⟩
theorem law_3_no (hi : i + 6 ≤ Ls) (hLs : Ls ≤ 3072) (hA0 : ∀ j, i32 (A0 j)) (hu : tl.length = u) (h : LW A0 pg len q kept ℓi xi i σ ℓ nr nw ng tl ukd unn utr utw I L) (hno : ¬ hOK pg len) (hK : KON g Ls A0 Q i u pg len mc ms) : Cp g 14 m_L_law mc ms Q 261 [(0, vr 0), (1, vr 3), (2, vr 139), (3, vi (i : Int))] [] (TT Ls tl) I L (RR tl) := by
  obtain ⟨hX, hM, h0w, hT⟩ := id h
  obtain ⟨hI0, hPL, hPM, ⟨hq1, hq2, hq3⟩, hIm⟩ := id hT
  refine r_aload_n d_L_law_261 rfl ?_
  refine r_V0i d_L_law_262 (w_L_30 _ rfl) (tt_3 _ _) rfl rfl (c_house (D0 := dfo I) hX hPL dfo_i) (by decide) (Nat.le_of_ble_eq_true rfl) (fun z262 T262 I262 L262 R262 h262 => ?_)
  obtain ⟨rfl, rfl, rfl, p, D, hst, hn1, hy1⟩ := h262
  have hno2 := (not_congr (hOK_of dfo_i hst)).mpr hno
  obtain ⟨z1, f1, f1b⟩ := hn1 hno2
  have hPM1 : PGM pg len I262 := PGM_fr hPM (by rw [f1 139 (by omega)]) (f1 157 (by omega))
  refine r_aload_n d_L_law_265 rfl ?_
  refine r_V0i d_L_law_266 (w_L_33 _ rfl) (tt_139 _ _) rfl rfl (x_house_no hPM1 dfo_i dfo_4 (dfo_r (fun a h1 h2 => f1 a (by omega))) hst hno2) (by decide) (Nat.le_of_ble_eq_true rfl) (fun z266 T266 I266 L266 R266 h266 => ?_)
  obtain ⟨rfl, rfl, rfl, f3, z2⟩ := h266
  have ez : z262 = z266 := by rw [z1, z2]
  subst ez
  refine r_icmp_same d_L_law_269 ?_
  exact hK _ _ _ _ _ _ _ _ _ _ _ _ _ _ _ _ hu ⟨XS_off hX (fun a ha => by rw [f3.1 a (by omega) (by omega), f1 a (by omega)]) (by rw [f3.1 3 (by omega) (by omega), f1 3 (by omega)]) rfl, MS_off hM (fun a h1 h2 h3 => by rw [f3.1 a (by omega) (by omega), f1 a (by omega)]) (fun k hk => by rw [f3.2 k (by omega), f1 139 (by omega)]), h0w, RST_fr hT (by rw [f3.1 0 (by omega) (by omega), f1 0 (by omega)]) (fun k hk => by rw [f3.1 3 (by omega) (by omega), f1 3 (by omega)]) (by rw [f3.1 4 (by omega) (by omega), f1b 1 (by omega) (by omega)]) (by rw [f3.1 5 (by omega) (by omega), f1 5 (by omega)]) (by rw [f3.1 138 (by omega) (by omega), f1 138 (by omega)]) (fun k hk => by rw [f3.2 k (by omega), f1 139 (by omega)]) (by rw [f3.1 157 (by omega) (by omega), f1 157 (by omega)]) (by rw [f3.1 158 (by omega) (by omega), f1 158 (by omega)]) ⟨by rw [f3.1 3 (by omega) (by omega), f1 3 (by omega)]; exact hq1, by rw [f3.2 25 (by omega), f1 139 (by omega)]; exact hq2, hq3⟩ (by omega)⟩
theorem law_3_yes (hi : i + 6 ≤ Ls) (hLs : Ls ≤ 3072) (hA0 : ∀ j, i32 (A0 j)) (hu : tl.length = u) (h : LW A0 pg len q kept ℓi xi i σ ℓ nr nw ng tl ukd unn utr utw I L) (hy : hOK pg len) (hK : KON g Ls A0 Q i u pg 0 mc ms) : Cp g 14 m_L_law mc ms Q 261 [(0, vr 0), (1, vr 3), (2, vr 139), (3, vi (i : Int))] [] (TT Ls tl) I L (RR tl) := by
  obtain ⟨hX, hM, h0w, hT⟩ := id h
  obtain ⟨hI0, hPL, hPM, ⟨hq1, hq2, hq3⟩, hIm⟩ := id hT
  obtain ⟨k1, k2, k3, k4, k5, k6, k7⟩ := hIm
  refine r_aload_n d_L_law_261 rfl ?_
  refine r_V0i d_L_law_262 (w_L_30 _ rfl) (tt_3 _ _) rfl rfl (c_house (D0 := dfo I) hX hPL dfo_i) (by decide) (Nat.le_of_ble_eq_true rfl) (fun z262 T262 I262 L262 R262 h262 => ?_)
  obtain ⟨rfl, rfl, rfl, p, D, hst, hn1, hy1⟩ := h262
  have hy2 := (hOK_of dfo_i hst).mpr hy
  obtain ⟨nr', nw', ng', z1, d0, d1, d2, n1, n2, n3, hX1, e41, e311, f3k, f137, f3lt⟩ := hy1 hy2
  have hPM1 : PGM pg len I262 := PGM_fr hPM (by rw [f137 139 (by omega)]) (f137 157 (by omega))
  have hM1 := MS_off hM (I' := I262) (fun a h1 h2 h3 => f137 a (by omega)) (fun k hk => by rw [f137 139 (by omega)])
  refine r_aload_n d_L_law_265 rfl ?_
  refine r_V0i d_L_law_266 (w_L_33 _ rfl) (tt_139 _ _) rfl rfl (x_house_yes hM1 (by rw [f137 139 (by omega)]; omega) hPM1 dfo_i dfo_4 (dfo_r (fun a h1 h2 => f137 a (by omega))) hst hy2 hX1.1.1 (ARV_S hX1.1.2.2.2.1.2.1) d0 d1 d2) (by decide) (Nat.le_of_ble_eq_true rfl) (fun z266 T266 I266 L266 R266 h266 => ?_)
  obtain ⟨rfl, rfl, rfl, z2, hM2, e23, e18, g1, g2⟩ := h266
  have ez : z262 = z266 := by rw [z1, z2]
  subst ez
  rw [f137 139 (by omega)] at e18
  have g3 : ∀ k, (k = 25 ∨ k = 26 ∨ k = 27 ∨ k = 28) → I266 139 k = I 139 k := fun k hk => by rw [g2 k (by omega), f137 139 (by omega)]
  refine r_icmp_same d_L_law_269 ?_
  refine hK q 0 ℓi xi _ _ _ _ _ _ _ _ _ _ _ _ hu ⟨XS_off hX1 (fun a ha => g1 a (by omega)) (by rw [g1 3 (by omega)]) rfl, hM2, fun _ => n2, ?_⟩
  refine ⟨by rw [g1 0 (by omega), f3lt 0 (by omega)]; exact hI0, PGL_0 (by rw [g1 4 (by omega)]; exact e41), PGM_0 e23, ⟨by rw [g1 3 (by omega), f3k 12 (by omega)]; exact hq1, by rw [g3 25 (by omega)]; exact hq2, hq3⟩, by rw [g1 3 (by omega)]; exact e311, Or.inl rfl, by rw [g3 26 (by omega)]; exact k3, by rw [g3 27 (by omega), e18]; omega, by rw [e18]; omega, ⟨fun _ hq => ?_, fun _ => rfl⟩, fun hk => absurd rfl hk⟩
  rw [g3 27 (by omega), e18] at hq
  omega
theorem law_4_no (hi : i + 6 ≤ Ls) (hLs : Ls ≤ 3072) (hA0 : ∀ j, i32 (A0 j)) (hu : tl.length = u) (h : LW A0 pg len q kept ℓi xi i σ ℓ nr nw ng tl ukd unn utr utw I L) (hno : ¬ (0 < len ∧ (∃ s, stpT pg len len s) ∧ u < 8)) (hK : KON g Ls A0 Q i u pg len mc ms) : Cp g 14 m_L_law mc ms Q 274 [(0, vr 0), (1, vr 3), (2, vr 139), (3, vi (i : Int))] [] (TT Ls tl) I L (RR tl) := by
  obtain ⟨hX, hM, h0w, hT⟩ := id h
  obtain ⟨hI0, hPL, hPM, ⟨hq1, hq2, hq3⟩, hIm⟩ := id hT
  obtain ⟨p, s, hst⟩ := stpT_ex (pg := pg) len
  have hno2 : ¬ (0 < len ∧ p = len ∧ tl.length < 8) := fun ⟨a, b, c⟩ => hno ⟨a, ⟨s, by rw [b] at hst; exact hst⟩, by omega⟩
  refine r_aload_n d_L_law_274 rfl ?_
  refine r_V0i d_L_law_275 (w_L_34 _ rfl) (tt_3 _ _) rfl rfl (c_tell_no hX hPL hst hno2) (by decide) (Nat.le_of_ble_eq_true rfl) (fun z275 T275 I275 L275 R275 h275 => ?_)
  obtain ⟨rfl, rfl, rfl, f1, f1b, z1⟩ := h275
  have hPM1 : PGM pg len I275 := PGM_fr hPM (by rw [f1 139 (by omega) (by omega) (by omega)]) (f1 157 (by omega) (by omega) (by omega))
  have hM1 := MS_off hM (I' := I275) (fun a h1 h2 h3 => f1 a (by omega) (by omega) (by omega)) (fun k hk => by rw [f1 139 (by omega) (by omega) (by omega)])
  refine r_aload_n d_L_law_278 rfl ?_
  refine r_V0i d_L_law_279 (w_L_37 _ rfl) (tt_139 _ _) rfl rfl (x_tell_no hM1 hPM1 hst hno2) (by decide) (Nat.le_of_ble_eq_true rfl) (fun z279 T279 I279 L279 R279 h279 => ?_)
  obtain ⟨rfl, rfl, rfl, f3, z2⟩ := h279
  have ez : z275 = z279 := by rw [z1, z2]
  subst ez
  refine r_icmp_same d_L_law_282 ?_
  exact hK _ _ _ _ _ _ _ _ _ _ _ _ _ _ _ _ hu ⟨XS_off hX (fun a ha => by rw [f3.1 a (by omega) (by omega), f1 a (by omega) (by omega) (by omega)]) (by rw [f3.1 3 (by omega) (by omega), f1 3 (by omega) (by omega) (by omega)]) rfl, MS_off hM1 (fun a h1 h2 h3 => f3.1 a (by omega) (by omega)) (fun k hk => f3.2 k (by omega) (by omega)), h0w, RST_fr hT (by rw [f3.1 0 (by omega) (by omega), f1 0 (by omega) (by omega) (by omega)]) (fun k hk => by rw [f3.1 3 (by omega) (by omega), f1 3 (by omega) (by omega) (by omega)]) (by rw [f3.1 4 (by omega) (by omega), f1b 1 (by omega) (by omega)]) (by rw [f3.1 5 (by omega) (by omega), f1 5 (by omega) (by omega) (by omega)]) (by rw [f3.1 138 (by omega) (by omega), f1 138 (by omega) (by omega) (by omega)]) (fun k hk => by rw [f3.2 k (by omega) (by omega), f1 139 (by omega) (by omega) (by omega)]) (by rw [f3.1 157 (by omega) (by omega), f1 157 (by omega) (by omega) (by omega)]) (by rw [f3.1 158 (by omega) (by omega), f1 158 (by omega) (by omega) (by omega)]) ⟨by rw [f3.1 3 (by omega) (by omega), f1 3 (by omega) (by omega) (by omega)]; exact hq1, by rw [f3.2 25 (by omega) (by omega), f1 139 (by omega) (by omega) (by omega)]; exact hq2, hq3⟩ (by omega)⟩
theorem law_4_yes {s : tSt} {n : Nat} (hi : i + 6 ≤ Ls) (hLs : Ls ≤ 3072) (hA0 : ∀ j, i32 (A0 j)) (hu : tl.length = u) (h : LW A0 pg len q kept ℓi xi i σ ℓ nr nw ng tl ukd unn utr utw I L) (h0 : 0 < len) (hst : stpT pg len len s) (c8 : u < 8) (hn : n = s.2.2.length) (hK : KON g Ls A0 Q i (u + 1) pg 0 mc ms) : Cp g 14 m_L_law (mc + 3) (ms + (0 + n + n + 4)) Q 274 [(0, vr 0), (1, vr 3), (2, vr 139), (3, vi (i : Int))] [] (TT Ls tl) I L (RR tl) := by
  obtain ⟨hX, hM, h0w, hT⟩ := id h
  obtain ⟨hI0, hPL, hPM, ⟨hq1, hq2, hq3⟩, hIm⟩ := id hT
  have c8' : tl.length < 8 := by omega
  refine r_aload_n d_L_law_274 rfl ?_
  refine r_V0i d_L_law_275 (w_L_34 _ rfl) (tt_3 _ _) rfl rfl (c_tell hX hPL hst h0 c8' hn) (by decide) (Nat.le_of_ble_eq_true rfl) (fun z275 T275 I275 L275 R275 h275 => ?_)
  obtain ⟨z1, ⟨rfl, hR1, hL1, hX1⟩, f1, f1b, e41⟩ := h275
  refine Cp_mem (I := I275) (L := L275) (R := RR (tl ++ [n])) (by rw [TT_len]; omega) (fun a ha => ⟨rfl, rfl, hR1 a (by rw [TT_len] at ha; exact ha)⟩) ?_
  have hPM1 : PGM pg len I275 := PGM_fr hPM (by rw [f1 139 (by omega) (by omega)]) (f1 157 (by omega) (by omega))
  have hM1 := MS_off hM (I' := I275) (fun a h1 h2 h3 => f1 a (by omega) (by omega)) (fun k hk => by rw [f1 139 (by omega) (by omega)])
  refine r_aload_n d_L_law_278 rfl ?_
  refine r_V0i d_L_law_279 (w_L_37 _ rfl) (tt_139 _ _) rfl rfl (x_tell (tl' := tl ++ [n]) hM1 hPM1 hst h0 c8' hn) (by decide) (Nat.le_of_ble_eq_true rfl) (fun z279 T279 I279 L279 R279 h279 => ?_)
  obtain ⟨rfl, rfl, rfl, z2, hM2, e23, f3, f3b⟩ := h279
  have ez : z275 = z279 := by rw [z1, z2]
  subst ez
  refine r_icmp_same d_L_law_282 ?_
  have c3 : ∀ k, (k = 10 ∨ k = 11 ∨ k = 12) → I279 3 k = I 3 k := fun k hk => by rw [f3 3 (by omega) (by omega) (by omega) (by omega) (by omega), f1b k (by omega)]
  refine hK _ _ _ _ _ _ _ _ _ _ _ _ _ _ _ _ (by rw [List.length_append, hu]; rfl) ⟨XS_off hX1 (fun a ha => f3 a (by omega) (by omega) (by omega) (by omega) (by omega)) (by rw [f3 3 (by omega) (by omega) (by omega) (by omega) (by omega)]) rfl, hM2, h0w, RST_pg hT (PGL_0 ?_) (PGM_0 e23) (by rw [f3 0 (by omega) (by omega) (by omega) (by omega) (by omega), f1 0 (by omega) (by omega)]) c3 (by rw [f3 138 (by omega) (by omega) (by omega) (by omega) (by omega), f1 138 (by omega) (by omega)]) (fun k hk => by rw [f3b k (by omega), f1 139 (by omega) (by omega)]) (by rw [f3 158 (by omega) (by omega) (by omega) (by omega) (by omega), f1 158 (by omega) (by omega)]) (by omega)⟩
  rw [f3 4 (by omega) (by omega) (by omega) (by omega) (by omega)]; exact e41
theorem law_5_no (hi : i + 6 ≤ Ls) (hLs : Ls ≤ 3072) (hA0 : ∀ j, i32 (A0 j)) (hu : tl.length = u) (h : LW A0 pg len q kept ℓi xi i σ ℓ nr nw ng tl ukd unn utr utw I L) (hno : rlF (A0 (i + 1)) (A0 (i + 2)) u ≠ 0) (hK : KON g Ls A0 Q i u pg len mc ms) : Cp g 14 m_L_law mc ms Q 287 [(0, vr 0), (1, vr 3), (2, vr 139), (3, vi (i : Int))] [] (TT Ls tl) I L (RR tl) := by
  obtain ⟨hX, hM, h0w, hT⟩ := id h
  obtain ⟨hI0, hPL, hPM, ⟨hq1, hq2, hq3⟩, hIm⟩ := id hT
  have hno2 : rlF (A0 (i + 1)) (A0 (i + 2)) tl.length ≠ 0 := by rw [hu]; exact hno
  have hm := x_rule_no (g := g) (Ls := Ls) (tl' := tl) (L := L) hM (hA0 (i + 1)) (hA0 (i + 2)) hno2
  have hc := c_rule_no (g := g) (Ls := Ls) hX (hA0 (i + 1)) (hA0 (i + 2)) hno2
  refine r_aload_n d_L_law_287 rfl ?_
  refine r_aload_n d_L_law_288 rfl ?_
  refine r_iload_n d_L_law_289 rfl ?_
  refine r_iconst d_L_law_290 ?_
  refine r_iadd d_L_law_291 ?_
  refine r_ialdJ (j := i + 1) d_L_law_292 (tt_0 _ _) (by omega) (by omega) (hn := (by omega)) (kk := ?_)
  refine r_aload_n d_L_law_293 rfl ?_
  refine r_iload_n d_L_law_294 rfl ?_
  refine r_iconst d_L_law_295 ?_
  refine r_iadd d_L_law_296 ?_
  refine r_ialdJ (j := i + 2) d_L_law_297 (tt_0 _ _) (by omega) (by omega) (hn := (by omega)) (kk := ?_)
  rw [hI0]
  refine r_V2i d_L_law_298 (w_L_38 _ rfl) (tt_3 _ _) rfl rfl (hc) (by decide) (Nat.le_of_ble_eq_true rfl) (fun z298 T298 I298 L298 R298 h298 => ?_)
  obtain ⟨z1, rfl, rfl, rfl, rfl⟩ := h298
  refine r_aload_n d_L_law_301 rfl ?_
  refine r_aload_n d_L_law_302 rfl ?_
  refine r_iload_n d_L_law_303 rfl ?_
  refine r_iconst d_L_law_304 ?_
  refine r_iadd d_L_law_305 ?_
  refine r_ialdJ (j := i + 1) d_L_law_306 (tt_0 _ _) (by omega) (by omega) (hn := (by omega)) (kk := ?_)
  refine r_aload_n d_L_law_307 rfl ?_
  refine r_iload_n d_L_law_308 rfl ?_
  refine r_iconst d_L_law_309 ?_
  refine r_iadd d_L_law_310 ?_
  refine r_ialdJ (j := i + 2) d_L_law_311 (tt_0 _ _) (by omega) (by omega) (hn := (by omega)) (kk := ?_)
  rw [hI0]
  refine r_V2i d_L_law_312 (w_L_42 _ rfl) (tt_139 _ _) rfl rfl (hm) (by decide) (Nat.le_of_ble_eq_true rfl) (fun z312 T312 I312 L312 R312 h312 => ?_)
  obtain ⟨z2, rfl, rfl, rfl, rfl⟩ := h312
  have ez : z298 = z312 := by rw [z1, z2]
  subst ez
  refine r_icmp_same d_L_law_315 ?_
  exact hK _ _ _ _ _ _ _ _ _ _ _ _ _ _ _ _ hu ⟨hX, hM, h0w, RST_fr hT rfl (fun _ _ => rfl) rfl rfl rfl (fun _ _ => rfl) rfl rfl ⟨hq1, hq2, hq3⟩ (by omega)⟩
theorem law_5_yes (hi : i + 6 ≤ Ls) (hLs : Ls ≤ 3072) (hA0 : ∀ j, i32 (A0 j)) (hu : tl.length = u) (h : LW A0 pg len q kept ℓi xi i σ ℓ nr nw ng tl ukd unn utr utw I L) (hy : rlF (A0 (i + 1)) (A0 (i + 2)) u = 0) (hK : KON g Ls A0 Q i (u + 1) pg len mc ms) : Cp g 14 m_L_law (mc + 3) (ms + 4) Q 287 [(0, vr 0), (1, vr 3), (2, vr 139), (3, vi (i : Int))] [] (TT Ls tl) I L (RR tl) := by
  obtain ⟨hX, hM, h0w, hT⟩ := id h
  obtain ⟨hI0, hPL, hPM, ⟨hq1, hq2, hq3⟩, hIm⟩ := id hT
  have hy2 : rlF (A0 (i + 1)) (A0 (i + 2)) tl.length = 0 := by rw [hu]; exact hy
  have hc := c_rule (g := g) (Ls := Ls) hX (hA0 (i + 1)) (hA0 (i + 2)) hy2
  refine r_aload_n d_L_law_287 rfl ?_
  refine r_aload_n d_L_law_288 rfl ?_
  refine r_iload_n d_L_law_289 rfl ?_
  refine r_iconst d_L_law_290 ?_
  refine r_iadd d_L_law_291 ?_
  refine r_ialdJ (j := i + 1) d_L_law_292 (tt_0 _ _) (by omega) (by omega) (hn := (by omega)) (kk := ?_)
  refine r_aload_n d_L_law_293 rfl ?_
  refine r_iload_n d_L_law_294 rfl ?_
  refine r_iconst d_L_law_295 ?_
  refine r_iadd d_L_law_296 ?_
  refine r_ialdJ (j := i + 2) d_L_law_297 (tt_0 _ _) (by omega) (by omega) (hn := (by omega)) (kk := ?_)
  rw [hI0]
  refine r_V2i d_L_law_298 (w_L_38 _ rfl) (tt_3 _ _) rfl rfl (hc) (by decide) (Nat.le_of_ble_eq_true rfl) (fun z298 T298 I298 L298 R298 h298 => ?_)
  obtain ⟨z1, ⟨rfl, hR1, hL1, hX1⟩, f1, f1b⟩ := h298
  refine Cp_mem (I := I298) (L := L298) (R := RR (tl ++ [0])) (by rw [TT_len]; omega) (fun a ha => ⟨rfl, rfl, hR1 a (by rw [TT_len] at ha; exact ha)⟩) ?_
  have e0 : I298 0 = A0 := by rw [f1 0 (by omega) (by omega)]; exact hI0
  have hM1 := MS_off hM (I' := I298) (fun a h1 h2 h3 => f1 a (by omega) (by omega)) (fun k hk => by rw [f1 139 (by omega) (by omega)])
  refine r_aload_n d_L_law_301 rfl ?_
  refine r_aload_n d_L_law_302 rfl ?_
  refine r_iload_n d_L_law_303 rfl ?_
  refine r_iconst d_L_law_304 ?_
  refine r_iadd d_L_law_305 ?_
  refine r_ialdJ (j := i + 1) d_L_law_306 (tt_0 _ _) (by omega) (by omega) (hn := (by omega)) (kk := ?_)
  refine r_aload_n d_L_law_307 rfl ?_
  refine r_iload_n d_L_law_308 rfl ?_
  refine r_iconst d_L_law_309 ?_
  refine r_iadd d_L_law_310 ?_
  refine r_ialdJ (j := i + 2) d_L_law_311 (tt_0 _ _) (by omega) (by omega) (hn := (by omega)) (kk := ?_)
  rw [e0]
  refine r_V2i d_L_law_312 (w_L_42 _ rfl) (tt_139 _ _) rfl rfl (x_rule (tl' := tl ++ [0]) hM1 (hA0 _) (hA0 _) hy2) (by decide) (Nat.le_of_ble_eq_true rfl) (fun z312 T312 I312 L312 R312 h312 => ?_)
  obtain ⟨rfl, rfl, rfl, z2, hM2, f3, f3b⟩ := h312
  have ez : z298 = z312 := by rw [z1, z2]
  subst ez
  refine r_icmp_same d_L_law_315 ?_
  exact hK _ _ _ _ _ _ _ _ _ _ _ _ _ _ _ _ (by rw [List.length_append, hu]; rfl) ⟨XS_off hX1 (fun a ha => f3 a (by omega) (by omega) (by omega)) (by rw [f3 3 (by omega) (by omega) (by omega)]) rfl, hM2, h0w, RST_fr hT (by rw [f3 0 (by omega) (by omega) (by omega), f1 0 (by omega) (by omega)]) (fun k hk => by rw [f3 3 (by omega) (by omega) (by omega), f1b k (by omega)]) (by rw [f3 4 (by omega) (by omega) (by omega), f1 4 (by omega) (by omega)]) (by rw [f3 5 (by omega) (by omega) (by omega), f1 5 (by omega) (by omega)]) (by rw [f3 138 (by omega) (by omega) (by omega), f1 138 (by omega) (by omega)]) (fun k hk => by rw [f3b k (by omega), f1 139 (by omega) (by omega)]) (by rw [f3 157 (by omega) (by omega) (by omega), f1 157 (by omega) (by omega)]) (by rw [f3 158 (by omega) (by omega) (by omega), f1 158 (by omega) (by omega)]) ⟨by rw [f3 3 (by omega) (by omega) (by omega), f1b 12 (by omega)]; exact hq1, by rw [f3b 25 (by omega), f1 139 (by omega) (by omega)]; exact hq2, hq3⟩ (by omega)⟩
theorem law_12 (hi : i + 6 ≤ Ls) (hLs : Ls ≤ 3072) (hA0 : ∀ j, i32 (A0 j)) (hu : tl.length = u) (h : LW A0 pg len q kept ℓi xi i σ ℓ nr nw ng tl ukd unn utr utw I L) (hK : KON g Ls A0 Q i u pg len mc ms) : Cp g 14 m_L_law mc ms Q 508 [(0, vr 0), (1, vr 3), (2, vr 139), (3, vi (i : Int))] [] (TT Ls tl) I L (RR tl) := by
  obtain ⟨hX, hM, h0w, hT⟩ := id h
  obtain ⟨hI0, hPL, hPM, ⟨hq1, hq2, hq3⟩, hIm⟩ := id hT
  have hc := c_gone (g := g) (Ls := Ls) (tl := tl) (L := L) hX.1.1 hX.1.2.2.1 (hA0 (i + 1)) (hA0 (i + 2))
  have hm := x_gone (g := g) (Ls := Ls) (tl := tl) (L := L) hM.1 hM.2.2.2.2.1 (hA0 (i + 1)) (hA0 (i + 2))
  refine r_aload_n d_L_law_508 rfl ?_
  refine r_aload_n d_L_law_509 rfl ?_
  refine r_iload_n d_L_law_510 rfl ?_
  refine r_iconst d_L_law_511 ?_
  refine r_iadd d_L_law_512 ?_
  refine r_ialdJ (j := i + 1) d_L_law_513 (tt_0 _ _) (by omega) (by omega) (hn := (by omega)) (kk := ?_)
  refine r_aload_n d_L_law_514 rfl ?_
  refine r_iload_n d_L_law_515 rfl ?_
  refine r_iconst d_L_law_516 ?_
  refine r_iadd d_L_law_517 ?_
  refine r_ialdJ (j := i + 2) d_L_law_518 (tt_0 _ _) (by omega) (by omega) (hn := (by omega)) (kk := ?_)
  rw [hI0]
  refine r_V2i d_L_law_519 (w_L_67 _ rfl) (tt_3 _ _) rfl rfl (hc) (by decide) (Nat.le_of_ble_eq_true rfl) (fun z519 T519 I519 L519 R519 h519 => ?_)
  obtain ⟨z1, rfl, rfl, rfl, rfl⟩ := h519
  refine r_aload_n d_L_law_522 rfl ?_
  refine r_aload_n d_L_law_523 rfl ?_
  refine r_iload_n d_L_law_524 rfl ?_
  refine r_iconst d_L_law_525 ?_
  refine r_iadd d_L_law_526 ?_
  refine r_ialdJ (j := i + 1) d_L_law_527 (tt_0 _ _) (by omega) (by omega) (hn := (by omega)) (kk := ?_)
  refine r_aload_n d_L_law_528 rfl ?_
  refine r_iload_n d_L_law_529 rfl ?_
  refine r_iconst d_L_law_530 ?_
  refine r_iadd d_L_law_531 ?_
  refine r_ialdJ (j := i + 2) d_L_law_532 (tt_0 _ _) (by omega) (by omega) (hn := (by omega)) (kk := ?_)
  rw [hI0]
  refine r_V2i d_L_law_533 (w_L_70 _ rfl) (tt_139 _ _) rfl rfl (hm) (by decide) (Nat.le_of_ble_eq_true rfl) (fun z533 T533 I533 L533 R533 h533 => ?_)
  obtain ⟨rfl, rfl, rfl, f3, z2⟩ := h533
  have ez : z519 = z533 := by rw [z1, z2]
  subst ez
  refine r_icmp_same d_L_law_536 ?_
  exact hK _ _ _ _ _ _ _ _ _ _ _ _ _ _ _ _ hu ⟨XS_off hX (fun a ha => f3 a (by omega)) (by rw [f3 3 (by omega)]) rfl, MS_off hM (fun a h1 h2 h3 => f3 a (by omega)) (fun k hk => by rw [f3 139 (by omega)]), h0w, RST_fr hT (f3 0 (by omega)) (fun k hk => by rw [f3 3 (by omega)]) (by rw [f3 4 (by omega)]) (f3 5 (by omega)) (f3 138 (by omega)) (fun k hk => by rw [f3 139 (by omega)]) (f3 157 (by omega)) (f3 158 (by omega)) ⟨by rw [f3 3 (by omega)]; exact hq1, by rw [f3 139 (by omega)]; exact hq2, hq3⟩ (by omega)⟩
theorem law_27 (hi : i + 6 ≤ Ls) (hLs : Ls ≤ 3072) (hA0 : ∀ j, i32 (A0 j)) (hu : tl.length = u) (h : LW A0 pg len q kept ℓi xi i σ ℓ nr nw ng tl ukd unn utr utw I L) (hK : KON g Ls A0 Q i u pg len mc ms) : Cp g 14 m_L_law mc ms Q 1153 [(0, vr 0), (1, vr 3), (2, vr 139), (3, vi (i : Int))] [] (TT Ls tl) I L (RR tl) := by
  obtain ⟨hX, hM, h0w, hT⟩ := id h
  obtain ⟨hI0, hPL, hPM, ⟨hq1, hq2, hq3⟩, hIm⟩ := id hT
  obtain ⟨k1, k2, k3, k4, k5, k6, k7⟩ := id hIm
  refine r_aload_n d_L_law_1153 rfl ?_
  refine r_V0i d_L_law_1154 (w_L_130 _ rfl) (tt_3 _ _) rfl rfl (c_image hX) (by decide) (Nat.le_of_ble_eq_true rfl) (fun z1154 T1154 I1154 L1154 R1154 h1154 => ?_)
  obtain ⟨rfl, rfl, rfl, f1, f1b, hX1, n1, y1⟩ := h1154
  have c9 : I1154 139 = I 139 := f1 139 (by omega) (by omega)
  have hM1 := MS_off hM (I' := I1154) (fun a h1 h2 h3 => f1 a (by omega) (by omega)) (fun k hk => by rw [c9])
  refine r_aload_n d_L_law_1157 rfl ?_
  refine r_V0i d_L_law_1158 (w_L_133 _ rfl) (tt_139 _ _) rfl rfl (x_image hM1) (by decide) (Nat.le_of_ble_eq_true rfl) (fun z1158 T1158 I1158 L1158 R1158 h1158 => ?_)
  obtain ⟨rfl, rfl, rfl, f3, f3b, hM2, n2, y2⟩ := h1158
  by_cases h0 : 0 < nr
  · obtain ⟨z1, a1, a2, a3⟩ := y1 h0
    obtain ⟨z2, b1, b2, b3, b4⟩ := y2 h0
    rw [c9] at b2
    have ez : z1154 = z1158 := by rw [z1, z2]
    subst ez
    refine r_icmp_same d_L_law_1161 ?_
    have e18 : I1158 139 18 = I 139 18 := by rw [f3b 18 (by omega) (by omega) (by omega), c9]
    refine hK q 1 ℓ (σ 6) _ _ _ _ _ _ _ _ _ _ _ _ hu ⟨XS_off hX1 (fun a ha => f3 a (by omega) (by omega)) (by rw [f3 3 (by omega) (by omega)]) rfl, hM2, h0w, ?_⟩
    refine ⟨by rw [f3 0 (by omega) (by omega), f1 0 (by omega) (by omega)]; exact hI0, PGL_fr hPL (by rw [f3 4 (by omega) (by omega), f1 4 (by omega) (by omega)]) (by rw [f3 5 (by omega) (by omega), f1 5 (by omega) (by omega)]), PGM_fr hPM (by rw [f3b 23 (by omega) (by omega) (by omega), c9]) (by rw [f3 157 (by omega) (by omega), f1 157 (by omega) (by omega)]), ⟨by rw [f3 3 (by omega) (by omega), f1b 12 (by omega) (by omega)]; exact hq1, by rw [f3b 25 (by omega) (by omega) (by omega), c9]; exact hq2, hq3⟩, by rw [f3 3 (by omega) (by omega)]; exact a2, Or.inr rfl, Or.inr b1, by rw [b2, e18]; omega, by rw [e18]; omega, ⟨fun hq => absurd hq (by decide), fun hq => absurd ⟨b1, by rw [b2, e18]⟩ hq⟩, fun _ => ⟨by rw [f3 3 (by omega) (by omega)]; exact a1, b3, hM.1.1.2.2.2.2, fun r hr => ⟨by rw [f3 138 (by omega) (by omega)]; exact a3 r hr, b4 r hr, (hM.1.1.2.2.1 r hr).2.2.2.2.2⟩, fun r hr => (hM.2.2.1 r hr).2⟩⟩
  · obtain ⟨z1, i1⟩ := n1 h0
    obtain ⟨z2, i2⟩ := n2 h0
    have ez : z1154 = z1158 := by rw [z1, z2]
    subst ez
    refine r_icmp_same d_L_law_1161 ?_
    have e2 : I1158 = I := by rw [i2, i1]
    rw [e2]
    exact hK _ _ _ _ _ _ _ _ _ _ _ _ _ _ _ _ hu ⟨hX, hM, h0w, RST_fr hT rfl (fun _ _ => rfl) rfl rfl rfl (fun _ _ => rfl) rfl rfl ⟨hq1, hq2, hq3⟩ (by omega)⟩
theorem law_29 (hi : i + 6 ≤ Ls) (hLs : Ls ≤ 3072) (hA0 : ∀ j, i32 (A0 j)) (hu : tl.length = u) (h : LW A0 pg len q kept ℓi xi i σ ℓ nr nw ng tl ukd unn utr utw I L) (hK : KON g Ls A0 Q i u pg len mc ms) : Cp g 14 m_L_law mc ms Q 1179 [(0, vr 0), (1, vr 3), (2, vr 139), (3, vi (i : Int))] [] (TT Ls tl) I L (RR tl) := by
  obtain ⟨hX, hM, h0w, hT⟩ := id h
  obtain ⟨hI0, hPL, hPM, ⟨hq1, hq2, hq3⟩, hIm⟩ := id hT
  have hc := c_count (g := g) (Ls := Ls) hX (hA0 (i + 1))
  have hm := x_count (g := g) (Ls := Ls) (L := L) hM (hA0 (i + 1))
  rw [hPL.1, hq1] at hc
  rw [hPM.1, hq2] at hm
  refine r_aload_n d_L_law_1179 rfl ?_
  refine r_aload_n d_L_law_1180 rfl ?_
  refine r_iload_n d_L_law_1181 rfl ?_
  refine r_iconst d_L_law_1182 ?_
  refine r_iadd d_L_law_1183 ?_
  refine r_ialdJ (j := i + 1) d_L_law_1184 (tt_0 _ _) (by omega) (by omega) (hn := (by omega)) (kk := ?_)
  rw [hI0]
  refine r_V1i d_L_law_1185 (w_L_138 _ rfl) (tt_3 _ _) rfl rfl (hc) (by decide) (Nat.le_of_ble_eq_true rfl) (fun z1185 T1185 I1185 L1185 R1185 h1185 => ?_)
  obtain ⟨z1, rfl, rfl, rfl, rfl⟩ := h1185
  refine r_aload_n d_L_law_1188 rfl ?_
  refine r_aload_n d_L_law_1189 rfl ?_
  refine r_iload_n d_L_law_1190 rfl ?_
  refine r_iconst d_L_law_1191 ?_
  refine r_iadd d_L_law_1192 ?_
  refine r_ialdJ (j := i + 1) d_L_law_1193 (tt_0 _ _) (by omega) (by omega) (hn := (by omega)) (kk := ?_)
  rw [hI0]
  refine r_V1i d_L_law_1194 (w_L_141 _ rfl) (tt_139 _ _) rfl rfl (hm) (by decide) (Nat.le_of_ble_eq_true rfl) (fun z1194 T1194 I1194 L1194 R1194 h1194 => ?_)
  obtain ⟨z2, rfl, rfl, rfl, rfl⟩ := h1194
  have ez : z1185 = z1194 := by rw [z1, z2]
  subst ez
  refine r_icmp_same d_L_law_1197 ?_
  exact hK _ _ _ _ _ _ _ _ _ _ _ _ _ _ _ _ hu ⟨hX, hM, h0w, RST_fr hT rfl (fun _ _ => rfl) rfl rfl rfl (fun _ _ => rfl) rfl rfl ⟨hq1, hq2, hq3⟩ (by omega)⟩
theorem law_30 (hi : i + 6 ≤ Ls) (hLs : Ls ≤ 3072) (hA0 : ∀ j, i32 (A0 j)) (hu : tl.length = u) (h : LW A0 pg len q kept ℓi xi i σ ℓ nr nw ng tl ukd unn utr utw I L) (hK : KON g Ls A0 Q i u pg len mc ms) : Cp g 14 m_L_law mc ms Q 1202 [(0, vr 0), (1, vr 3), (2, vr 139), (3, vi (i : Int))] [] (TT Ls tl) I L (RR tl) := by
  obtain ⟨hX, hM, h0w, hT⟩ := id h
  obtain ⟨hI0, hPL, hPM, ⟨hq1, hq2, hq3⟩, hIm⟩ := id hT
  refine r_aload_n d_L_law_1202 rfl ?_
  refine r_V0l d_L_law_1203 (w_L_142 _ rfl) (tt_3 _ _) rfl rfl (c_digest hX hPL.1 hPL.2.1 hPL.2.2 hq1 hq3) (by decide) (Nat.le_of_ble_eq_true rfl) (fun z1203 T1203 I1203 L1203 R1203 h1203 => ?_)
  obtain ⟨rfl, rfl, f1, f2, hX1, ha1⟩ := h1203
  have hM1 := MS_off hM (I' := I1203) (fun a h1 h2 h3 => f1 a (by omega)) (fun k hk => by rw [f1 139 (by omega)])
  have hPM1 : PGM pg len I1203 := PGM_fr hPM (by rw [f1 139 (by omega)]) (f1 157 (by omega))
  have hq2b : I1203 139 25 = q := by rw [f1 139 (by omega)]; exact hq2
  refine r_aload_n d_L_law_1206 rfl ?_
  refine r_V0l d_L_law_1207 (w_L_146 _ rfl) (tt_139 _ _) rfl rfl (x_digest hM1 hPM1 hq2b hq3) (by decide) (Nat.le_of_ble_eq_true rfl) (fun z1207 T1207 I1207 L1207 R1207 h1207 => ?_)
  obtain ⟨rfl, rfl, f2b, f3, hM2, ha2⟩ := h1207
  have ez := uDigest hM.1 ha1 ha2
  subst ez
  refine r_lcmp_same d_L_law_1210 ?_
  refine r_if_eq d_L_law_1211 (by omega) (fun _ => ?_) (fun c => absurd rfl c)
  exact hK _ _ _ _ _ _ _ _ _ _ _ _ _ _ _ _ hu ⟨XS_off hX1 (fun a ha => f3.1 a (by omega) (by omega)) (by rw [f3.1 3 (by omega) (by omega)]) (f2b 2 (by omega)), hM2, h0w, RST_fr hT (by rw [f3.1 0 (by omega) (by omega), f1 0 (by omega)]) (fun k hk => by rw [f3.1 3 (by omega) (by omega), f1 3 (by omega)]) (by rw [f3.1 4 (by omega) (by omega), f1 4 (by omega)]) (by rw [f3.1 5 (by omega) (by omega), f1 5 (by omega)]) (by rw [f3.1 138 (by omega) (by omega), f1 138 (by omega)]) (fun k hk => by rw [f3.2 k (by omega), f1 139 (by omega)]) (by rw [f3.1 157 (by omega) (by omega), f1 157 (by omega)]) (by rw [f3.1 158 (by omega) (by omega), f1 158 (by omega)]) ⟨by rw [f3.1 3 (by omega) (by omega), f1 3 (by omega)]; exact hq1, by rw [f3.2 25 (by omega), f1 139 (by omega)]; exact hq2, hq3⟩ (by omega)⟩
end L9za
