/-- the least so far -/
def mnV (F : Nat → Int) (k : Nat) : Int := if k = 0 then 268435456 else F (amin (fun _ => true) F k).toNat
theorem mnV_rg {F : Nat → Int} {k : Nat} {B : Int} (hB : 0 ≤ B ∧ B ≤ 268435456) (h : ∀ i, i < k → -B ≤ F i ∧ F i ≤ B) : -B ≤ mnV F k ∧ mnV F k ≤ 268435456 := by
  unfold mnV
  split
  · omega
  · next h0 =>
    obtain ⟨b, b1, b2, -⟩ := amin_one (key := F) (n := k) (by omega)
    rw [b1, Int.toNat_natCast]
    have := h b b2
    omega
theorem mnV_lt {F : Nat → Int} {k : Nat} (h : F k < mnV F k) : mnV F (k + 1) = F k ∧ amin (fun _ => true) F (k + 1) = (k : Int) := by
  have e : amin (fun _ => true) F (k + 1) = (k : Int) := by
    refine amin_yes rfl ?_
    unfold mnV at h
    by_cases h0 : k = 0
    · subst h0; exact Or.inl rfl
    · rw [if_neg h0] at h; exact Or.inr h
  refine ⟨?_, e⟩
  unfold mnV
  rw [if_neg (by omega), e, Int.toNat_natCast]
theorem mnV_ge {F : Nat → Int} {k : Nat} (hF : F k < 268435456) (h : ¬ F k < mnV F k) : k ≠ 0 ∧ mnV F (k + 1) = mnV F k ∧ amin (fun _ => true) F (k + 1) = amin (fun _ => true) F k := by
  have h0 : k ≠ 0 := fun e => by subst e; unfold mnV at h; rw [if_pos rfl] at h; omega
  obtain ⟨b, b1, b2, -⟩ := amin_one (key := F) (n := k) (by omega)
  have e : amin (fun _ => true) F (k + 1) = amin (fun _ => true) F k := by
    refine amin_no (Or.inr ⟨by omega, ?_⟩)
    unfold mnV at h
    rw [if_neg h0] at h
    omega
  refine ⟨h0, ?_, e⟩
  unfold mnV
  rw [if_neg (by omega), if_neg h0, e]
section X90
variable {g : sG} {Ls : Nat} {tl : List Nat} {T : sT} {R : sR} {I L : sI} {σ δ : Sg} {ℓ ab : Int} {nr nW ng : Nat} {C : List Nat → Nat → Int}
theorem x_layOrders (hV : MV σ ℓ nr nW ng) (hA : ARS σ ng) (hX : MX σ nr nW ng I) (hK : MK ℓ ab nW I) (hab : -1 ≤ ab ∧ ab ≤ 100) {hw : Nat} (hh : hw < 2) (hC : CCX σ ℓ ab nr nW ng (hw : Int) C) (h0 : 0 < nr) (h6 : nr ≤ 6) {bit : Nat} (hb : bit < 8) : Mc g 7 m_X8_layOrders 0 0 [vr 139, vi (hw : Int), vi (bit : Int)] (TT Ls tl) I L (RR tl) (qV fun T' I' L' R' => T' = TT Ls tl ∧ R' = RR tl ∧ L' = L ∧ FM I I' ∧ I' 173 = I 173 ∧ I' 184 = I 184 ∧ (∀ j, ¬ (6 * hw ≤ j ∧ j < 6 * hw + 6) → I' 183 j = I 183 j) ∧ I' 139 68 = mnV (fun i => sumN (fun w => wtM σ w nr * C ((ODR nr).getD i []) w) (2 ^ chn σ nr)) (ODR nr).length ∧ I' 139 69 = mnV (fun i => soS9 σ nr bit (C ((ODR nr).getD i [])) (2 ^ chn σ nr)) (ODR nr).length ∧ I' 139 70 = mnV (fun i => laS9 σ nr bit (C ((ODR nr).getD i [])) (2 ^ chn σ nr)) (ODR nr).length ∧ LFX nr ((ODR nr).getD (amin (fun _ => true) (fun i => sumN (fun w => wtM σ w nr * C ((ODR nr).getD i []) w) (2 ^ chn σ nr)) (ODR nr).length).toNat []) (fun j => I' 183 (6 * hw + j)) ∧ ∀ l ∈ ODR nr, ∀ way, way < 2 ^ chn σ nr → CS σ nr ng (lofS σ ℓ ab nW l (opS σ way) 3) (hw : Int) (C l way)) := by
  refine Mc_of rfl (Nat.le_of_ble_eq_true rfl) ?_
  obtain ⟨⟨s1, s2, s3, s4, s5⟩, v2, v3, v4⟩ := id hV
  have hp2 := p2 v4
  obtain ⟨W, hW⟩ : ∃ W, W = ODR nr := ⟨_, rfl⟩
  rw [← hW]
  have hlen : 1 ≤ W.length ∧ W.length ≤ 720 := by rw [hW]; exact ODR_len nr (by omega)
  have hchk : chkO nr W = true ∧ W[0]? = some (List.range nr) := by
    rcases chk_all nr (by omega) with h | h
    · omega
    · rw [hW]; exact h
  have hshape : ∀ l ∈ W, l.length = nr ∧ ∀ x ∈ l, x < nr := fun l hl => by rw [hW] at hl; exact ⟨ODR_shape nr (by omega) l hl, fun x hx => dfs_mem nr _ l hl x hx⟩
  have wget : ∀ {i : Nat}, i < W.length → W.getD i [] ∈ W ∧ W[i]? = some (W.getD i []) := fun {i} hi => by rw [hW] at hi ⊢; exact ODR_get hi
  obtain ⟨n, hn⟩ : ∃ n : Nat, n = 2 ^ chn σ nr := ⟨_, rfl⟩
  rw [← hn] at hp2
  obtain ⟨S, hS⟩ : ∃ S : Nat → Int, S = fun i => soS9 σ nr bit (C (W.getD i [])) n := ⟨_, rfl⟩
  obtain ⟨La, hLa⟩ : ∃ La : Nat → Int, La = fun i => laS9 σ nr bit (C (W.getD i [])) n := ⟨_, rfl⟩
  obtain ⟨Tc, hTc⟩ : ∃ Tc : Nat → Int, Tc = fun i => sumN (fun w => wtM σ w nr * C (W.getD i []) w) n := ⟨_, rfl⟩
  have eTc : ∀ i, Tc i = S i + La i := fun i => by rw [hTc, hS, hLa]; exact (sola n).symm
  rw [← hn, ← hS, ← hLa, ← hTc]
  obtain ⟨CSk, hCSk⟩ : ∃ CSk : Nat → Prop, CSk = fun i => ∀ way, way < n → CS σ nr ng (lofS σ ℓ ab nW (W.getD i []) (opS σ way) 3) (hw : Int) (C (W.getD i []) way) := ⟨_, rfl⟩
  have bd : ∀ i, i < W.length → CSk i → (-32000000 ≤ S i ∧ S i ≤ 32000000) ∧ (-32000000 ≤ La i ∧ La i ≤ 32000000) ∧ (-64000000 ≤ Tc i ∧ Tc i ≤ 64000000) := fun i hi hc => by
    rw [hCSk] at hc
    have hcb : ∀ w, w < n → -4000 ≤ C (W.getD i []) w ∧ C (W.getD i []) w ≤ 4000 := fun w hw => by
      obtain ⟨ro, hro⟩ := hc w hw
      have hDV := DV_lof (ab := ab) hV.1 (W.getD i []) (opS σ w) (DV_op hV.1) (hshape _ (wget hi).1).2
      exact GVX_bd v3 ⟨s1, v2⟩ (fun r hr => (hDV.1 r hr).2.2.2) hro
    have := sola_bd (bit := bit) s3 v4 (by omega) hcb
    rw [eTc, hS, hLa]
    dsimp only
    omega
  obtain ⟨LO, hLO⟩ : ∃ LO : Nat → Nat → Nat → sI → Prop, LO = fun kT kS kL I1 => FM I I1 ∧ I1 173 = I 173 ∧ I1 184 = I 184 ∧ (∀ j, ¬ (6 * hw ≤ j ∧ j < 6 * hw + 6) → I1 183 j = I 183 j) ∧ I1 139 68 = mnV Tc kT ∧ I1 139 69 = mnV S kS ∧ I1 139 70 = mnV La kL ∧ (kT ≠ 0 → LFX nr (W.getD (amin (fun _ => true) Tc kT).toNat []) (fun j => I1 183 (6 * hw + j))) := ⟨_, rfl⟩
  obtain ⟨Q, hQ⟩ : ∃ Q : sQ, Q = (qV fun T' I' L' R' => T' = TT Ls tl ∧ R' = RR tl ∧ L' = L ∧ FM I I' ∧ I' 173 = I 173 ∧ I' 184 = I 184 ∧ (∀ j, ¬ (6 * hw ≤ j ∧ j < 6 * hw + 6) → I' 183 j = I 183 j) ∧ I' 139 68 = mnV Tc W.length ∧ I' 139 69 = mnV S W.length ∧ I' 139 70 = mnV La W.length ∧ LFX nr (W.getD (amin (fun _ => true) Tc W.length).toNat []) (fun j => I' 183 (6 * hw + j)) ∧ ∀ l ∈ W, ∀ way, way < n → CS σ nr ng (lofS σ ℓ ab nW l (opS σ way) 3) (hw : Int) (C l way)) := ⟨_, rfl⟩
  rw [← hQ]
  have loop : ∀ (m k : Nat) (I1 : sI), k + m = W.length → LO k k k I1 → (∀ i, i < k → CSk i) → (m ≠ 0 → LFX nr (W.getD k []) (I1 180)) → Cp g 7 m_X8_layOrders 0 0 Q 46 [(0, vr 139), (1, vi (hw : Int)), (2, vi (bit : Int)), (3, vi (if m = 0 then 0 else 1))] [] (TT Ls tl) I1 L (RR tl) := by
    intro m
    induction m with
    | zero =>
      intro k I1 hk hl hcs _
      rw [hLO] at hl
      obtain ⟨l1, l2, l3, l4, l5, l6, l7, l8⟩ := hl
      have ek : k = W.length := by omega
      rw [if_pos rfl]
      refine r_iload_n d_X8_layOrders_46 rfl ?_
      refine r_if_eq d_X8_layOrders_47 (by omega) (fun c47 => ?_) (fun c47 => absurd c47 (by decide))
      refine r_vret d_X8_layOrders_182 rfl ?_
      rw [hQ]
      refine ⟨rfl, rfl, rfl, rfl, l1, l2, l3, l4, by rw [l5, ek], by rw [l6, ek], by rw [l7, ek], by have := l8 (by omega); rw [ek] at this; exact this, fun l hl way hway => ?_⟩
      obtain ⟨i, hi, rfl⟩ := List.getElem_of_mem hl
      have := hcs i (by omega)
      rw [hCSk] at this
      have e : W.getD i [] = W[i] := by rw [List.getD_eq_getElem?_getD, List.getElem?_eq_getElem hi]; rfl
      have h2 := this way hway
      rw [e] at h2
      exact h2
    | succ m ih =>
      intro k I1 hk hl hcs hod
      have hkl : k < W.length := by omega
      have hod := hod (by omega)
      rw [if_neg (by omega)]
      obtain ⟨lk, hlk⟩ : ∃ lk, lk = W.getD k [] := ⟨_, rfl⟩
      obtain ⟨w1, w2⟩ := wget hkl
      rw [← hlk] at w1 w2 hod
      obtain ⟨a, ha0⟩ : ∃ a : Nat → Nat, a = fun j => lk.getD j 0 := ⟨_, rfl⟩
      have lfa : ∀ A : Nat → Int, LFX nr lk A → ∀ j, j < nr → A j = (a j : Int) ∧ a j < 100 := fun A h j hj => by
        obtain ⟨x, x1, x2, x3⟩ := h j hj
        have e : a j = x := by rw [ha0]; show lk.getD j 0 = x; rw [List.getD_eq_getElem?_getD, x1]; rfl
        rw [e]; exact ⟨x3, by omega⟩
      have afl : ∀ A : Nat → Int, (∀ j, j < nr → A j = (a j : Int)) → LFX nr lk A := fun A h j hj => by
        obtain ⟨x, x1, x2, x3⟩ := hod j hj
        have e : a j = x := by rw [ha0]; show lk.getD j 0 = x; rw [List.getD_eq_getElem?_getD, x1]; rfl
        exact ⟨x, x1, x2, by rw [h j hj, e]⟩
      -- the next order
      have t174 : ∀ I4 : sI, LO (k + 1) (k + 1) (k + 1) I4 → CSk k → LFX nr lk (I4 180) → Cp g 7 m_X8_layOrders 0 0 Q 174 [(0, vr 139), (1, vi (hw : Int)), (2, vi (bit : Int)), (3, vi 1)] [] (TT Ls tl) I4 L (RR tl) := by
        intro I4 hl4 hck ho4
        have hcs2 : ∀ i, i < k + 1 → CSk i := fun i hi => by
          by_cases e : i = k
          · rw [e]; exact hck
          · exact hcs i (by omega)
        have fm4 : FM I I4 := by rw [hLO] at hl4; exact hl4.1
        have e0 : I4 139 0 = (nr : Int) := (MX_fm hX fm4).1
        have hno := x_nextOrder (g := g) (Ls := Ls) (tl := tl) (L := L) h0 s1 e0 (lfa _ ho4)
        have stp := chk_step W k lk hchk.1 w2
        have move : ∀ I5 : sI, frb 180 181 I4 I5 → LO (k + 1) (k + 1) (k + 1) I5 := fun I5 y => by
          rw [hLO] at hl4 ⊢
          obtain ⟨l1, l2, l3, l4, l5, l6, l7, l8⟩ := hl4
          exact ⟨FM_tr l1 (FM_frb y (by omega) (by omega)), by rw [y 173 (by omega)]; exact l2, by rw [y 184 (by omega)]; exact l3, by rw [y 183 (by omega)]; exact l4, by rw [y 139 (by omega)]; exact l5, by rw [y 139 (by omega)]; exact l6, by rw [y 139 (by omega)]; exact l7, by rw [y 183 (by omega)]; exact l8⟩
        by_cases hm : m = 0
        · have en : W[k + 1]? = none := List.getElem?_eq_none (by omega)
          have hpv : pvO a (nr - 1) = 0 := by rw [ha0]; exact stp.2 en
          rw [if_pos hpv] at hno
          have eif : (if m = 0 then (0 : Int) else 1) = 0 := if_pos hm
          refine r_aload_n d_X8_layOrders_174 rfl ?_
          refine r_V0i d_X8_layOrders_175 (w_X8_384 _ rfl) (tt_139 _ _) rfl rfl (hno) (by decide) (Nat.le_of_ble_eq_true rfl) (fun z175 T175 I175 L175 R175 h175 => ?_)
          obtain ⟨rfl, rfl, rfl, y1, rfl, y2⟩ := h175
          refine r_istore_n d_X8_layOrders_178 (by decide) ?_
          refine r_goto d_X8_layOrders_179 ?_
          exact CpL (ih (k + 1) I175 (by omega) (move _ y1) hcs2 (fun h => absurd hm h)) (by repeat (first | exact trivial | refine ⟨rfl, ?_⟩ | refine ⟨by rw [eif]; rfl, ?_⟩))
        · obtain ⟨w3, w4⟩ := wget (show k + 1 < W.length by omega)
          obtain ⟨p1, p2⟩ := stp.1 _ w4
          have hpv : pvO a (nr - 1) ≠ 0 := by rw [ha0]; exact p1
          rw [if_neg hpv] at hno
          have eif : (if m = 0 then (0 : Int) else 1) = 1 := if_neg hm
          refine r_aload_n d_X8_layOrders_174 rfl ?_
          refine r_V0i d_X8_layOrders_175 (w_X8_384 _ rfl) (tt_139 _ _) rfl rfl (hno) (by decide) (Nat.le_of_ble_eq_true rfl) (fun z175 T175 I175 L175 R175 h175 => ?_)
          obtain ⟨rfl, rfl, rfl, y1, rfl, y2⟩ := h175
          refine r_istore_n d_X8_layOrders_178 (by decide) ?_
          refine r_goto d_X8_layOrders_179 ?_
          refine CpL (ih (k + 1) I175 (by omega) (move _ y1) hcs2 (fun _ j hj => ?_)) (by repeat (first | exact trivial | refine ⟨rfl, ?_⟩ | refine ⟨by rw [eif]; rfl, ?_⟩))
          have e := y2 hpv j hj
          have hl2 := (hshape _ w3)
          have hg : (W.getD (k + 1) [])[j]? = some (nxO nr a j) := by
            rw [← p2, List.getElem?_map, List.getElem?_range hj, ha0]; rfl
          exact ⟨nxO nr a j, hg, hl2.2 _ (List.mem_of_getElem? hg), e⟩
      have up9 : ∀ (I3 : sI) (s : Nat) (v : Int), (s = 69 ∨ s = 70) → FM I3 (up2 I3 139 s v) := fun I3 s v hs => ⟨fun a h1 _ => by rw [up2_ne _ _ h1], fun x hx => by rw [up2_nj _ _ (by omega)]⟩
      have t148 : ∀ I3 : sI, LO (k + 1) (k + 1) k I3 → CSk k → LFX nr lk (I3 180) → I3 139 67 = La k → Cp g 7 m_X8_layOrders 0 0 Q 148 [(0, vr 139), (1, vi (hw : Int)), (2, vi (bit : Int)), (3, vi 1)] [] (TT Ls tl) I3 L (RR tl) := by
        intro I3 hl3 hck ho3 h67
        have b1 := bd k hkl hck
        have r70 := mnV_rg (F := La) (k := k) (B := 32000000) (by omega) (fun i hi => (bd i (by omega) (hcs i hi)).2.1)
        have hl3' := hl3
        rw [hLO] at hl3'
        obtain ⟨l1, l2, l3, l4, l5, l6, l7, l8⟩ := hl3'
        have fin : ∀ v, v = mnV La (k + 1) → Cp g 7 m_X8_layOrders 0 0 Q 174 [(0, vr 139), (1, vi (hw : Int)), (2, vi (bit : Int)), (3, vi 1)] [] (TT Ls tl) (up2 I3 139 70 v) L (RR tl) := fun v hv => by
          refine t174 _ ?_ hck (by rw [up2_ne _ _ (by decide)]; exact ho3)
          rw [hLO]
          exact ⟨FM_tr l1 (up9 I3 70 v (Or.inr rfl)), by rw [up2_ne _ _ (by decide)]; exact l2, by rw [up2_ne _ _ (by decide)]; exact l3, by rw [up2_ne _ _ (by decide)]; exact l4, by rw [up2_nj _ _ (by decide)]; exact l5, by rw [up2_nj _ _ (by decide)]; exact l6, by rw [up2_at]; exact hv, by rw [up2_ne _ _ (by decide)]; exact l8⟩
        by_cases hlt : La k < mnV La k
        · skip
          refine r_aload_n d_X8_layOrders_148 rfl ?_
          refine r_aload_n d_X8_layOrders_149 rfl ?_
          refine r_geti d_X8_layOrders_150 f_X8_363 (tt_139 _ _) (by decide) (by decide) ?_
          refine r_aload_n d_X8_layOrders_153 rfl ?_
          refine r_geti d_X8_layOrders_154 f_X8_378 (tt_139 _ _) (by decide) (by decide) ?_
          refine r_icmp_ge d_X8_layOrders_157 (by omega) (by omega) (fun c157 => absurd c157 (by omega)) (fun c157 => ?_)
          refine r_aload_n d_X8_layOrders_160 rfl ?_
          refine r_geti d_X8_layOrders_161 f_X8_363 (tt_139 _ _) (by decide) (by decide) ?_
          refine r_goto d_X8_layOrders_164 ?_
          refine r_puti d_X8_layOrders_171 f_X8_378 (tt_139 _ _) (by decide) (Or.inl rfl) ?_
          exact fin _ (by rw [h67, (mnV_lt hlt).1])
        · skip
          refine r_aload_n d_X8_layOrders_148 rfl ?_
          refine r_aload_n d_X8_layOrders_149 rfl ?_
          refine r_geti d_X8_layOrders_150 f_X8_363 (tt_139 _ _) (by decide) (by decide) ?_
          refine r_aload_n d_X8_layOrders_153 rfl ?_
          refine r_geti d_X8_layOrders_154 f_X8_378 (tt_139 _ _) (by decide) (by decide) ?_
          refine r_icmp_ge d_X8_layOrders_157 (by omega) (by omega) (fun c157 => ?_) (fun c157 => absurd c157 (by omega))
          refine r_aload_n d_X8_layOrders_167 rfl ?_
          refine r_geti d_X8_layOrders_168 f_X8_378 (tt_139 _ _) (by decide) (by decide) ?_
          refine r_puti d_X8_layOrders_171 f_X8_378 (tt_139 _ _) (by decide) (Or.inl rfl) ?_
          exact fin _ (by rw [l7, (mnV_ge (by omega) hlt).2.1])
      have t122 : ∀ I2 : sI, LO (k + 1) k k I2 → CSk k → LFX nr lk (I2 180) → I2 139 66 = S k → I2 139 67 = La k → Cp g 7 m_X8_layOrders 0 0 Q 122 [(0, vr 139), (1, vi (hw : Int)), (2, vi (bit : Int)), (3, vi 1)] [] (TT Ls tl) I2 L (RR tl) := by
        intro I3 hl3 hck ho3 h66 h67
        have b1 := bd k hkl hck
        have r70 := mnV_rg (F := S) (k := k) (B := 32000000) (by omega) (fun i hi => (bd i (by omega) (hcs i hi)).1)
        have hl3' := hl3
        rw [hLO] at hl3'
        obtain ⟨l1, l2, l3, l4, l5, l6, l7, l8⟩ := hl3'
        have fin : ∀ v, v = mnV S (k + 1) → Cp g 7 m_X8_layOrders 0 0 Q 148 [(0, vr 139), (1, vi (hw : Int)), (2, vi (bit : Int)), (3, vi 1)] [] (TT Ls tl) (up2 I3 139 69 v) L (RR tl) := fun v hv => by
          refine t148 _ ?_ hck (by rw [up2_ne _ _ (by decide)]; exact ho3) (by rw [up2_nj _ _ (by decide)]; exact h67)
          rw [hLO]
          exact ⟨FM_tr l1 (up9 I3 69 v (Or.inl rfl)), by rw [up2_ne _ _ (by decide)]; exact l2, by rw [up2_ne _ _ (by decide)]; exact l3, by rw [up2_ne _ _ (by decide)]; exact l4, by rw [up2_nj _ _ (by decide)]; exact l5, by rw [up2_at]; exact hv, by rw [up2_nj _ _ (by decide)]; exact l7, by rw [up2_ne _ _ (by decide)]; exact l8⟩
        by_cases hlt : S k < mnV S k
        · skip
          refine r_aload_n d_X8_layOrders_122 rfl ?_
          refine r_aload_n d_X8_layOrders_123 rfl ?_
          refine r_geti d_X8_layOrders_124 f_X8_360 (tt_139 _ _) (by decide) (by decide) ?_
          refine r_aload_n d_X8_layOrders_127 rfl ?_
          refine r_geti d_X8_layOrders_128 f_X8_375 (tt_139 _ _) (by decide) (by decide) ?_
          refine r_icmp_ge d_X8_layOrders_131 (by omega) (by omega) (fun c131 => absurd c131 (by omega)) (fun c131 => ?_)
          refine r_aload_n d_X8_layOrders_134 rfl ?_
          refine r_geti d_X8_layOrders_135 f_X8_360 (tt_139 _ _) (by decide) (by decide) ?_
          refine r_goto d_X8_layOrders_138 ?_
          refine r_puti d_X8_layOrders_145 f_X8_375 (tt_139 _ _) (by decide) (Or.inl rfl) ?_
          exact fin _ (by rw [h66, (mnV_lt hlt).1])
        · skip
          refine r_aload_n d_X8_layOrders_122 rfl ?_
          refine r_aload_n d_X8_layOrders_123 rfl ?_
          refine r_geti d_X8_layOrders_124 f_X8_360 (tt_139 _ _) (by decide) (by decide) ?_
          refine r_aload_n d_X8_layOrders_127 rfl ?_
          refine r_geti d_X8_layOrders_128 f_X8_375 (tt_139 _ _) (by decide) (by decide) ?_
          refine r_icmp_ge d_X8_layOrders_131 (by omega) (by omega) (fun c131 => ?_) (fun c131 => absurd c131 (by omega))
          refine r_aload_n d_X8_layOrders_141 rfl ?_
          refine r_geti d_X8_layOrders_142 f_X8_375 (tt_139 _ _) (by decide) (by decide) ?_
          refine r_puti d_X8_layOrders_145 f_X8_375 (tt_139 _ _) (by decide) (Or.inl rfl) ?_
          exact fin _ (by rw [l6, (mnV_ge (by omega) hlt).2.1])
      -- the cost of this order
      have fm1 : FM I I1 := by rw [hLO] at hl; exact hl.1
      have hlc := x_layOrderCost (g := g) (Ls := Ls) (tl := tl) (L := L) (how := (hw : Int)) hV hA (MX_fm hX fm1) (MK_fm hK fm1) hab (by omega) hC (hshape _ w1).1 hod hb
      rw [← hn] at hlc
      have t56 : ∀ I2 : sI, FO I1 I2 → I2 139 66 = S k → I2 139 67 = La k → CSk k → Cp g 7 m_X8_layOrders 0 0 Q 56 [(0, vr 139), (1, vi (hw : Int)), (2, vi (bit : Int)), (3, vi 1)] [] (TT Ls tl) I2 L (RR tl) := by
        intro I2 f2 h66 h67 hck
        have b1 := bd k hkl hck
        have r68 := mnV_rg (F := Tc) (k := k) (B := 64000000) (by omega) (fun i hi => (bd i (by omega) (hcs i hi)).2.2)
        have hl3' := hl
        rw [hLO] at hl3'
        obtain ⟨l1, l2, l3, l4, l5, l6, l7, l8⟩ := hl3'
        have o3 : ∀ c, c = 173 ∨ c = 184 ∨ c = 183 ∨ c = 180 → I2 c = I1 c := fun c hc => f2.1 c (by omega) (by omega) (by omega)
        have e68 : I2 139 68 = mnV Tc k := by rw [f2.2 68 (by omega) (by omega)]; exact l5
        have e69 : I2 139 69 = mnV S k := by rw [f2.2 69 (by omega) (by omega)]; exact l6
        have e70 : I2 139 70 = mnV La k := by rw [f2.2 70 (by omega) (by omega)]; exact l7
        have fm2 : FM I I2 := FM_tr l1 (FO_FM f2)
        have ho2 : LFX nr lk (I2 180) := by rw [o3 180 (by omega)]; exact hod
        have es : S k + La k = Tc k := (eTc k).symm
        by_cases hlt : Tc k < mnV Tc k
        · obtain ⟨n1, n2⟩ := mnV_lt hlt
          have copy : ∀ (m2 j : Nat) (I3 : sI), j + m2 = nr → FM I I3 → (∀ a, a ≠ 183 → I3 a = up2 I2 139 68 (Tc k) a) → (∀ x, ¬ (6 * hw ≤ x ∧ x < 6 * hw + 6) → I3 183 x = I 183 x) → (∀ x, x < j → I3 183 (6 * hw + x) = (a x : Int)) → Cp g 7 m_X8_layOrders 0 0 Q 88 [(0, vr 139), (1, vi (hw : Int)), (2, vi (bit : Int)), (3, vi 1), (4, vi (j : Int))] [] (TT Ls tl) I3 L (RR tl) := by
            intro m2
            induction m2 with
            | zero =>
              intro j I3 hj fm3 fa fb fc
              have e0 : I3 139 0 = (nr : Int) := (MX_fm hX fm3).1
              have ec : ∀ c, c ≠ 183 → c ≠ 139 → I3 c = I2 c := fun c h1 h2 => by rw [fa c h1, up2_ne _ _ h2]
              have e9 : ∀ x, x ≠ 68 → I3 139 x = I2 139 x := fun x hx => by rw [fa 139 (by decide), up2_nj _ _ hx]
              refine r_iload d_X8_layOrders_88 rfl ?_
              refine r_aload_n d_X8_layOrders_90 rfl ?_
              refine r_geti d_X8_layOrders_91 f_X8_232 (tt_139 _ _) (by decide) (by decide) ?_
              refine r_icmp_ge d_X8_layOrders_94 (by omega) (by omega) (fun c94 => ?_) (fun c94 => absurd c94 (by omega))
              refine CpL (t122 I3 ?_ hck (by rw [ec 180 (by decide) (by decide)]; exact ho2) (by rw [e9 66 (by decide)]; exact h66) (by rw [e9 67 (by decide)]; exact h67)) (by repeat (first | exact trivial | refine ⟨rfl, ?_⟩))
              rw [hLO]
              refine ⟨fm3, by rw [ec 173 (by decide) (by decide), o3 173 (by omega)]; exact l2, by rw [ec 184 (by decide) (by decide), o3 184 (by omega)]; exact l3, fb, by rw [fa 139 (by decide), up2_at, n1], by rw [e9 69 (by decide)]; exact e69, by rw [e9 70 (by decide)]; exact e70, fun _ => ?_⟩
              rw [n2, Int.toNat_natCast, ← hlk]
              exact afl _ (fun x hx => fc x (by omega))
            | succ m2 ih2 =>
              intro j I3 hj fm3 fa fb fc
              have e0 : I3 139 0 = (nr : Int) := (MX_fm hX fm3).1
              have ej : I3 180 j = (a j : Int) := by rw [fa 180 (by decide), up2_ne _ _ (by decide)]; exact (lfa _ ho2 j (by omega)).1
              refine r_iload d_X8_layOrders_88 rfl ?_
              refine r_aload_n d_X8_layOrders_90 rfl ?_
              refine r_geti d_X8_layOrders_91 f_X8_232 (tt_139 _ _) (by decide) (by decide) ?_
              refine r_icmp_ge d_X8_layOrders_94 (by omega) (by omega) (fun c94 => absurd c94 (by omega)) (fun c94 => ?_)
              refine r_aload_n d_X8_layOrders_97 rfl ?_
              refine r_getr d_X8_layOrders_98 f_X8_148 (tt_139 _ _) (by decide) rfl (rr_139_65 _) ?_
              refine r_bipush d_X8_layOrders_101 (by decide) ?_
              refine r_iload_n d_X8_layOrders_103 rfl ?_
              refine r_imul d_X8_layOrders_104 ?_
              refine r_iload d_X8_layOrders_105 rfl ?_
              refine r_iadd d_X8_layOrders_107 ?_
              refine r_aload_n d_X8_layOrders_108 rfl ?_
              refine r_getr d_X8_layOrders_109 f_X8_139 (tt_139 _ _) (by decide) rfl (rr_139_62 _) ?_
              refine r_iload d_X8_layOrders_112 rfl ?_
              refine r_ialdJ d_X8_layOrders_114 (tt_180 _ _) rfl (by omega) (kk := ?_)
              rw [ej]
              refine r_iastJ (j := 6 * hw + j) d_X8_layOrders_115 (tt_183 _ _) (by omega) (by omega) (by omega) (kk := ?_)
              refine r_iinc d_X8_layOrders_116 rfl (by decide) ?_
              refine r_goto d_X8_layOrders_119 ?_
              refine CpL (ih2 (j + 1) (up2 I3 183 (6 * hw + j) (a j : Int)) (by omega) (FM_tr fm3 ⟨fun c h1 h2 => by rw [up2_ne _ _ (by omega)], fun c _ => by rw [up2_ne _ _ (by decide)]⟩) (fun c hc => by rw [up2_ne _ _ hc]; exact fa c hc) (fun x hx => by rw [up2_nj _ _ (by omega)]; exact fb x hx) (fun x hx => ?_)) (by repeat (first | exact trivial | refine ⟨rfl, ?_⟩))
              by_cases e : x = j
              · rw [e, up2_at]
              · rw [up2_nj _ _ (by omega)]; exact fc x (by omega)
          refine r_aload_n d_X8_layOrders_56 rfl ?_
          refine r_geti d_X8_layOrders_57 f_X8_360 (tt_139 _ _) (by decide) (by decide) ?_
          refine r_aload_n d_X8_layOrders_60 rfl ?_
          refine r_geti d_X8_layOrders_61 f_X8_363 (tt_139 _ _) (by decide) (by decide) ?_
          refine r_iadd d_X8_layOrders_64 ?_
          rw [h66, h67, es]
          refine r_aload_n d_X8_layOrders_65 rfl ?_
          refine r_geti d_X8_layOrders_66 f_X8_372 (tt_139 _ _) (by decide) (by decide) ?_
          rw [e68]
          refine r_icmp_ge d_X8_layOrders_69 (by omega) (by omega) (fun c69 => absurd c69 (by omega)) (fun c69 => ?_)
          refine r_aload_n d_X8_layOrders_72 rfl ?_
          refine r_aload_n d_X8_layOrders_73 rfl ?_
          refine r_geti d_X8_layOrders_74 f_X8_360 (tt_139 _ _) (by decide) (by decide) ?_
          refine r_aload_n d_X8_layOrders_77 rfl ?_
          refine r_geti d_X8_layOrders_78 f_X8_363 (tt_139 _ _) (by decide) (by decide) ?_
          refine r_iadd d_X8_layOrders_81 ?_
          rw [h66, h67, es]
          refine r_puti d_X8_layOrders_82 f_X8_372 (tt_139 _ _) (by decide) (Or.inl rfl) ?_
          refine r_iconst d_X8_layOrders_85 ?_
          refine r_istore d_X8_layOrders_86 (by decide) ?_
          exact CpL (copy nr 0 (up2 I2 139 68 (Tc k)) (by omega) (FM_tr fm2 ⟨fun c h1 h2 => by rw [up2_ne _ _ h1], fun c hc => by rw [up2_nj _ _ (by omega)]⟩) (fun _ _ => rfl) (fun x hx => by rw [up2_ne _ _ (by decide), o3 183 (by omega)]; exact l4 x hx) (fun x hx => absurd hx (by omega))) (by repeat (first | exact trivial | refine ⟨rfl, ?_⟩))
        · obtain ⟨n0, n1, n2⟩ := mnV_ge (by omega) hlt
          refine r_aload_n d_X8_layOrders_56 rfl ?_
          refine r_geti d_X8_layOrders_57 f_X8_360 (tt_139 _ _) (by decide) (by decide) ?_
          refine r_aload_n d_X8_layOrders_60 rfl ?_
          refine r_geti d_X8_layOrders_61 f_X8_363 (tt_139 _ _) (by decide) (by decide) ?_
          refine r_iadd d_X8_layOrders_64 ?_
          rw [h66, h67, es]
          refine r_aload_n d_X8_layOrders_65 rfl ?_
          refine r_geti d_X8_layOrders_66 f_X8_372 (tt_139 _ _) (by decide) (by decide) ?_
          rw [e68]
          refine r_icmp_ge d_X8_layOrders_69 (by omega) (by omega) (fun c69 => ?_) (fun c69 => absurd c69 (by omega))
          refine t122 I2 ?_ hck ho2 h66 h67
          rw [hLO]
          refine ⟨fm2, by rw [o3 173 (by omega)]; exact l2, by rw [o3 184 (by omega)]; exact l3, by rw [o3 183 (by omega)]; exact l4, by rw [n1]; exact e68, e69, e70, fun _ => ?_⟩
          rw [n2, o3 183 (by omega)]
          exact l8 n0
      refine r_iload_n d_X8_layOrders_46 rfl ?_
      refine r_if_eq d_X8_layOrders_47 (by omega) (fun c47 => absurd c47 (by decide)) (fun c47 => ?_)
      refine r_aload_n d_X8_layOrders_50 rfl ?_
      refine r_iload_n d_X8_layOrders_51 rfl ?_
      refine r_iload_n d_X8_layOrders_52 rfl ?_
      refine r_V2v d_X8_layOrders_53 (w_X8_381 _ rfl) (tt_139 _ _) rfl rfl (hlc) (by decide) (Nat.le_of_ble_eq_true rfl) (fun T53 I53 L53 R53 h53 => ?_)
      obtain ⟨rfl, rfl, rfl, y1, y2, y3, y4⟩ := h53
      exact t56 I53 y1 (by rw [y2, hS, hlk]) (by rw [y3, hLa, hlk]) (by rw [hCSk]; rw [hlk] at y4; exact y4)
  have ids : ∀ (m j : Nat) (I1 : sI), j + m = nr → frb 180 181 I I1 → (∀ x, x < j → I1 180 x = (x : Int)) → Cp g 7 m_X8_layOrders 0 0 Q 2 [(0, vr 139), (1, vi (hw : Int)), (2, vi (bit : Int)), (3, vi (j : Int))] [] (TT Ls tl) I1 L (RR tl) := by
    intro m
    induction m with
    | zero =>
      intro j I1 hj f hx
      have e0 : I1 139 0 = (nr : Int) := by rw [f 139 (by omega)]; exact hX.1
      have hme : W.length ≠ 0 := by omega
      have eif : (if W.length = 0 then (0 : Int) else 1) = 1 := if_neg hme
      have fz : ∀ (a : Nat), a ≠ 139 → up2 (up2 (up2 I1 139 68 268435456) 139 69 268435456) 139 70 268435456 a = I1 a := fun a h => by rw [up2_ne _ _ h, up2_ne _ _ h, up2_ne _ _ h]
      refine r_iload_n d_X8_layOrders_2 rfl ?_
      refine r_aload_n d_X8_layOrders_3 rfl ?_
      refine r_geti d_X8_layOrders_4 f_X8_232 (tt_139 _ _) (by decide) (by decide) ?_
      refine r_icmp_ge d_X8_layOrders_7 (by omega) (by omega) (fun c7 => ?_) (fun c7 => absurd c7 (by omega))
      refine r_aload_n d_X8_layOrders_23 rfl ?_
      refine r_ldcw d_X8_layOrders_24 (k_X8_314 _ rfl) ?_
      refine r_puti d_X8_layOrders_27 f_X8_372 (tt_139 _ _) (by decide) (Or.inl rfl) ?_
      refine r_aload_n d_X8_layOrders_30 rfl ?_
      refine r_ldcw d_X8_layOrders_31 (k_X8_314 _ rfl) ?_
      refine r_puti d_X8_layOrders_34 f_X8_375 (tt_139 _ _) (by decide) (Or.inl rfl) ?_
      refine r_aload_n d_X8_layOrders_37 rfl ?_
      refine r_ldcw d_X8_layOrders_38 (k_X8_314 _ rfl) ?_
      refine r_puti d_X8_layOrders_41 f_X8_378 (tt_139 _ _) (by decide) (Or.inl rfl) ?_
      refine r_iconst d_X8_layOrders_44 ?_
      refine r_istore_n d_X8_layOrders_45 (by decide) ?_
      refine CpL (loop W.length 0 (up2 (up2 (up2 I1 139 68 268435456) 139 69 268435456) 139 70 268435456) (by omega) ?_ (fun i hi => absurd hi (by omega)) (fun _ x hx2 => ?_)) (by repeat (first | exact trivial | refine ⟨rfl, ?_⟩ | refine ⟨by rw [eif]; rfl, ?_⟩))
      · rw [hLO]
        refine ⟨⟨fun a h1 h2 => by rw [fz a h1]; exact f a (by omega), fun x hx2 => by rw [up2_nj _ _ (by omega), up2_nj _ _ (by omega), up2_nj _ _ (by omega), f 139 (by omega)]⟩, by rw [fz 173 (by decide)]; exact f 173 (by omega), by rw [fz 184 (by decide)]; exact f 184 (by omega), fun x _ => by rw [fz 183 (by decide), f 183 (by omega)], ?_, ?_, ?_, fun h => absurd rfl h⟩
        · rw [up2_nj _ _ (by decide), up2_nj _ _ (by decide), up2_at]; rfl
        · rw [up2_nj _ _ (by decide), up2_at]; rfl
        · rw [up2_at]; rfl
      · have e : W.getD 0 [] = List.range nr := by rw [List.getD_eq_getElem?_getD, hchk.2]; rfl
        rw [e]
        refine ⟨x, List.getElem?_range hx2, hx2, ?_⟩
        rw [fz 180 (by decide)]
        exact hx x (by omega)
    | succ m ih =>
      intro j I1 hj f hx
      have e0 : I1 139 0 = (nr : Int) := by rw [f 139 (by omega)]; exact hX.1
      refine r_iload_n d_X8_layOrders_2 rfl ?_
      refine r_aload_n d_X8_layOrders_3 rfl ?_
      refine r_geti d_X8_layOrders_4 f_X8_232 (tt_139 _ _) (by decide) (by decide) ?_
      refine r_icmp_ge d_X8_layOrders_7 (by omega) (by omega) (fun c7 => absurd c7 (by omega)) (fun c7 => ?_)
      refine r_aload_n d_X8_layOrders_10 rfl ?_
      refine r_getr d_X8_layOrders_11 f_X8_139 (tt_139 _ _) (by decide) rfl (rr_139_62 _) ?_
      refine r_iload_n d_X8_layOrders_14 rfl ?_
      refine r_iload_n d_X8_layOrders_15 rfl ?_
      refine r_iastJ d_X8_layOrders_16 (tt_180 _ _) (by omega) rfl (by omega) (kk := ?_)
      refine r_iinc d_X8_layOrders_17 rfl (by decide) ?_
      refine r_goto d_X8_layOrders_20 ?_
      refine CpL (ih (j + 1) (up2 I1 180 j (j : Int)) (by omega) (fun a ha => by rw [up2_ne _ _ (by omega)]; exact f a ha) (fun x hx2 => ?_)) (by repeat (first | exact trivial | refine ⟨rfl, ?_⟩))
      by_cases e : x = j
      · rw [e, up2_at]
      · rw [up2_nj _ _ e]; exact hx x (by omega)
  refine r_iconst d_X8_layOrders_0 ?_
  refine r_istore_n d_X8_layOrders_1 (by decide) ?_
  exact CpL (ids nr 0 I (by omega) frb_rf (fun x hx => absurd hx (by omega))) (by repeat (first | exact trivial | refine ⟨rfl, ?_⟩))
end X90
