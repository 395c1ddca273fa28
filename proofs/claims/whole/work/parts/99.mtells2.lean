section X99
variable {g : sG} {Ls : Nat} {T : sT} {R : sR} {I L : sI} {σ δ : Sg} {ℓ ab : Int} {nr nw nW ng : Nat} {tl : List Nat} {ukd unn : Nat → Int} {utr utw : Nat → Nat → Nat}
theorem MB_185 {j : Nat} {v : Int} (h : MB σ ℓ ab nr nW ng tl ukd unn utr utw I) : MB σ ℓ ab nr nW ng tl ukd unn utr utw (up2 I 185 j v) := by
  obtain ⟨h1, h2, h3, h4, h5, h6, h7, h8⟩ := h
  have o : ∀ a, a ≠ 185 → up2 I 185 j v a = I a := fun a h => up2_ne _ _ h
  refine ⟨h1, h2, h3, h4, MX_fr h5 (fun a _ _ => o a (by omega)) (by rw [o 139 (by decide)]) (by rw [o 139 (by decide)]), ?_, KNM_fr h7 (o 173 (by decide)) (o 183 (by decide)), ?_⟩
  · unfold MK; rw [o 139 (by decide)]; exact h6
  · obtain ⟨r1, r2, r3⟩ := h8
    refine ⟨by rw [o 139 (by decide)]; exact r1, r2, fun q hq => ?_⟩
    rw [o 154 (by decide), o 155 (by decide), o 156 (by decide)]
    exact r3 q hq
theorem x_tells (hM : MS σ ℓ nr nw ng tl ukd unn utr utw I) {rule how guest t : Int} (hr : i32 rule) (hh : i32 how) (hgu : i32 guest) (ht : i32 t) : Mc g 12 m_X8_tells 0 0 [vr 139, vi rule, vi how, vi guest, vi t] (TT Ls tl) I L (RR tl) (AM σ ℓ nr nw ng Ls tl ukd unn utr utw I L (aTells σ ℓ nr nw ng tl ukd unn utr utw rule how guest t)) := by
  refine Mc_of rfl (Nat.le_of_ble_eq_true rfl) ?_
  obtain ⟨hV, h3, hcan, hA, hX, hl, hwm, hN, hR⟩ := id hM
  have hr2 : -2147483648 ≤ rule ∧ rule ≤ 2147483647 := hr
  have hh2 : -2147483648 ≤ how ∧ how ≤ 2147483647 := hh
  have hg2 : -2147483648 ≤ guest ∧ guest ≤ 2147483647 := hgu
  have ht2 : -2147483648 ≤ t ∧ t ≤ 2147483647 := ht
  have h10 := p10 hV.2.2.2
  have e0 := hX.1
  have s1 := hV.1.1
  have hru := x_isRule (g := g) (Ls := Ls) (tl := tl) (L := L) hr2 hR.1 hR.2.1
  have hgs := x_isGuest (g := g) (Ls := Ls) (tl := tl) (L := L) hg2 hX.2.1 hV.2.1
  have hbr := fun (ok : Int) (ho : ok = 0 ∨ ok = 1) => x_bars (g := g) (Ls := Ls) (L := L) hM hr (way := -1) (by unfold i32; omega) ho
  have hgi := x_isGiving (g := g) (T := TT Ls tl) (I := I) (L := L) (R := RR tl) hh2
  have hw1 := x_within (g := g) (T := TT Ls tl) (I := I) (L := L) (R := RR tl) (lo := 1) (hi := 10) ht2 (by omega) (by omega)
  obtain ⟨Q, hQ⟩ : ∃ Q : sQ, Q = AM σ ℓ nr nw ng Ls tl ukd unn utr utw I L (aTells σ ℓ nr nw ng tl ukd unn utr utw rule how guest t) := ⟨_, rfl⟩
  rw [← hQ]
  have t26 : ((0 ≤ rule ∧ rule < (tl.length : Int)) → 0 < nr → (0 ≤ guest ∧ guest < (ng : Int))) → Cp g 12 m_X8_tells 0 0 Q 26 [(0, vr 139), (1, vi rule), (2, vi how), (3, vi guest), (4, vi t)] [] (TT Ls tl) I L (RR tl) := by
    intro hG
    have egr : rgS tl.length nr ng rule how guest = rfS tl.length nr rule how := by
      unfold rgS
      rw [if_neg (fun p => p.2.2 (hG p.1 p.2.1))]
    have ref : ∀ ok : Int, (ok = 0 ∨ ok = 1) → (ok = 1 ↔ ((how = 0 ∨ how = 1) ∧ (1 ≤ t ∧ t ≤ 10))) → ¬ ((0 ≤ rule ∧ rule < (tl.length : Int)) ∧ 0 < nr ∧ ok = 1) → brS tl.length nr (2 ^ chn σ nr) rule (-1) ok ≠ 0 ∧ Q (some (vi (brS tl.length nr (2 ^ chn σ nr) rule (-1) ok))) (TT Ls tl) I L (RR tl) := fun ok ho k hn => by
      obtain ⟨a1, a2, a3, a4⟩ := rf_ans (W := 2 ^ chn σ nr) ho k hn
      refine ⟨a1, ?_⟩
      rw [hQ]
      refine AM_no hM ⟨?_, ?_, ?_⟩
      · rw [egr]; exact a2
      · rw [egr]; exact a3
      · rw [egr]; exact fun h1 h2 => (a4 h1 h2).elim
    have hrg := fun ok => br_rg (n := tl.length) (nr := nr) (W := 2 ^ chn σ nr) (rule := rule) (way := -1) (ok := ok)
    by_cases k1 : how = 0 ∨ how = 1
    · rw [if_pos k1] at hgi
      by_cases k2 : 1 ≤ t ∧ t ≤ 10
      · rw [if_pos k2] at hw1
        have hb0 := hbr 1 (Or.inr rfl)
        by_cases k4 : (0 ≤ rule ∧ rule < (tl.length : Int)) ∧ 0 < nr
        · obtain ⟨k4, k5⟩ := k4
          have k6 := hG k4 k5
          have eb : brS tl.length nr (2 ^ chn σ nr) rule (-1) 1 = 0 := by
            unfold brS
            rw [if_pos k4, if_pos k5, if_pos ⟨rfl, Or.inl rfl⟩]
          rw [eb] at hb0
          obtain ⟨q, rfl⟩ : ∃ q : Nat, rule = (q : Int) := ⟨rule.toNat, by omega⟩
          obtain ⟨u, rfl⟩ : ∃ u : Nat, guest = (u : Int) := ⟨guest.toNat, by omega⟩
          obtain ⟨m1, m2⟩ := MS_all hM
          obtain ⟨I0, hI0⟩ : ∃ I0 : sI, I0 = up2 (up2 I 139 56 (I 139 8)) 139 55 (-1) := ⟨_, rfl⟩
          rw [← hI0] at m1 m2
          obtain ⟨⟨-, s2, s3, s4, s5⟩, v2, v3, v4⟩ := id hV
          have hp := p2 v4
          have hu : u < ng := by omega
          obtain ⟨W, hW⟩ := WTX_ex (ab := -1) (kd := ukd q) (nn := unn q) (tr := utr q) (tw := utw q) (tn := tl.getD q 0) (how := how) hV.1 v2 v3 hu
          have eS : rgS tl.length nr ng (q : Int) how (u : Int) = 0 := by rw [egr]; unfold rfS; rw [if_pos k4, if_pos k5, if_pos k1]
          -- the quarters
          have times : ∀ (I2 : sI), MB σ ℓ (-1) nr nw ng tl ukd unn utr utw I2 → FP I I2 → (∀ w, w < 2 ^ chn σ nr → I2 185 w = W w ∧ 0 ≤ W w ∧ W w ≤ 44) → CH σ ℓ (-1) nr nw ng (ukd q) (unn q) (utr q) (utw q) (tl.getD q 0) how u W → ∀ (k b : Nat), b + k = 44 → tlS σ nr W t 44 0 = tlS σ nr W t k b → Cp g 12 m_X8_tells 0 0 Q 117 [(0, vr 139), (3, vi (u : Int)), (4, vi t), (6, vi (b : Int))] [] (TT Ls tl) I2 L (RR tl) := by
            intro I2 hM2 f2 hw2 hch k
            have hX2 := hM2.2.2.2.2.1
            have ans : ∀ z : Int, z = tlS σ nr W t 44 0 → Q (some (vi z)) (TT Ls tl) I2 L (RR tl) := fun z hz => by
              rw [hQ]
              refine ⟨_, rfl, rfl, rfl, rfl, f2, MS_fp hM f2 hM2.2.2.2.2.2.2.1, ?_⟩
              refine ⟨fun h => absurd eS h, fun _ h => absurd k2 h, fun _ _ => ?_⟩
              rw [Int.toNat_natCast, Int.toNat_natCast]
              exact ⟨W, hch, hz⟩
            induction k with
            | zero =>
              intro b hb ht
              have hb2 : b = 44 := by omega
              subst hb2
              refine r_iload d_X8_tells_117 rfl ?_
              refine r_bipush d_X8_tells_119 (by decide) ?_
              refine r_icmp_ge d_X8_tells_121 (by omega) (by omega) (fun c121 => ?_) (fun c121 => absurd c121 (by omega))
              refine r_bipush d_X8_tells_196 (by decide) ?_
              refine r_iret d_X8_tells_198 rfl ?_
              exact ans _ (by rw [ht]; rfl)
            | succ k ih =>
              intro b hb ht
              have et : tlS σ nr W t (k + 1) b = if wbS σ nr W (b : Int) (2 ^ chn σ nr) * 10 < t * 10 ^ chn σ nr then tlS σ nr W t k (b + 1) else (b : Int) := rfl
              rw [et] at ht
              have ew := wb_of hV.1 hcan v2 v3 hu hch (b : Int)
              have e10 : (10 : Int) ^ chn σ nr = ((10 ^ chn σ nr : Nat) : Int) := by rw [Int.natCast_pow]; rfl
              have hwh := x_whole (g := g) (Ls := Ls) (tl := tl) (L := L) hV hX2
              have inner : ∀ (k2 w : Nat), w + k2 = 2 ^ chn σ nr → Cp g 12 m_X8_tells 0 0 Q 130 [(0, vr 139), (3, vi (u : Int)), (4, vi t), (6, vi (b : Int)), (7, vi (wbM σ nr W (b : Int) w)), (8, vi (w : Int))] [] (TT Ls tl) I2 L (RR tl) := by
                intro k2
                induction k2 with
                | zero =>
                  intro w hw
                  have ew2 : w = 2 ^ chn σ nr := by omega
                  have bdw := wbM_bd (W := W) (qs := (b : Int)) s3 v4 w
                  have hiw := x_isWay (g := g) (Ls := Ls) (tl := tl) (L := L) hV hX2 (way := (w : Int)) (by omega)
                  rw [if_neg (by omega)] at hiw
                  have ewb : wbM σ nr W (b : Int) w = wbS σ nr W (b : Int) (2 ^ chn σ nr) := by rw [ew2]; exact ew
                  rw [← ewb] at ht
                  have tb := mul_bd (A := 10) (B := 1000) (a := t) (b := 10 ^ chn σ nr) (by omega) (by omega)
                  by_cases hc : wbM σ nr W (b : Int) w * 10 < t * 10 ^ chn σ nr
                  · rw [if_pos hc] at ht
                    refine r_aload_n d_X8_tells_130 rfl ?_
                    refine r_iload d_X8_tells_131 rfl ?_
                    refine r_V1i d_X8_tells_133 (w_X8_272 _ rfl) (tt_139 _ _) rfl rfl (hiw) (by decide) (Nat.le_of_ble_eq_true rfl) (fun z133 T133 I133 L133 R133 h133 => ?_)
                    obtain ⟨rfl, rfl, rfl, rfl, rfl⟩ := h133
                    refine r_if_eq d_X8_tells_136 (by omega) (fun c136 => ?_) (fun c136 => absurd c136 (by decide))
                    refine r_bipush d_X8_tells_172 (by decide) ?_
                    refine r_iload d_X8_tells_174 rfl ?_
                    refine r_imul d_X8_tells_176 ?_
                    refine r_iload d_X8_tells_177 rfl ?_
                    refine r_aload_n d_X8_tells_179 rfl ?_
                    refine r_V0i d_X8_tells_180 (w_X8_415 _ rfl) (tt_139 _ _) rfl rfl (hwh) (by decide) (Nat.le_of_ble_eq_true rfl) (fun z180 T180 I180 L180 R180 h180 => ?_)
                    obtain ⟨rfl, rfl, rfl, rfl, rfl⟩ := h180
                    refine r_imul d_X8_tells_183 ?_
                    refine r_icmp_lt d_X8_tells_184 (by omega) (by omega) (fun c184 => ?_) (fun c184 => absurd c184 (by omega))
                    refine r_iinc d_X8_tells_190 rfl (by decide) ?_
                    refine r_goto d_X8_tells_193 ?_
                    exact CpL (ih (b + 1) (by omega) ht) (by repeat (first | exact trivial | refine ⟨rfl, ?_⟩))
                  · rw [if_neg hc] at ht
                    refine r_aload_n d_X8_tells_130 rfl ?_
                    refine r_iload d_X8_tells_131 rfl ?_
                    refine r_V1i d_X8_tells_133 (w_X8_272 _ rfl) (tt_139 _ _) rfl rfl (hiw) (by decide) (Nat.le_of_ble_eq_true rfl) (fun z133 T133 I133 L133 R133 h133 => ?_)
                    obtain ⟨rfl, rfl, rfl, rfl, rfl⟩ := h133
                    refine r_if_eq d_X8_tells_136 (by omega) (fun c136 => ?_) (fun c136 => absurd c136 (by decide))
                    refine r_bipush d_X8_tells_172 (by decide) ?_
                    refine r_iload d_X8_tells_174 rfl ?_
                    refine r_imul d_X8_tells_176 ?_
                    refine r_iload d_X8_tells_177 rfl ?_
                    refine r_aload_n d_X8_tells_179 rfl ?_
                    refine r_V0i d_X8_tells_180 (w_X8_415 _ rfl) (tt_139 _ _) rfl rfl (hwh) (by decide) (Nat.le_of_ble_eq_true rfl) (fun z180 T180 I180 L180 R180 h180 => ?_)
                    obtain ⟨rfl, rfl, rfl, rfl, rfl⟩ := h180
                    refine r_imul d_X8_tells_183 ?_
                    refine r_icmp_lt d_X8_tells_184 (by omega) (by omega) (fun c184 => absurd c184 (by omega)) (fun c184 => ?_)
                    refine r_iload d_X8_tells_187 rfl ?_
                    refine r_iret d_X8_tells_189 rfl ?_
                    exact ans _ ht.symm
                | succ k2 ih2 =>
                  intro w hw
                  obtain ⟨w1, w2, w3⟩ := hw2 w (by omega)
                  have hiw := x_isWay (g := g) (Ls := Ls) (tl := tl) (L := L) hV hX2 (way := (w : Int)) (by omega)
                  rw [if_pos (by omega)] at hiw
                  have es : wbM σ nr W (b : Int) (w + 1) = wbM σ nr W (b : Int) w + (if W w ≤ (b : Int) then wtM σ w nr else 0) := rfl
                  by_cases hc : W w ≤ (b : Int)
                  · rw [if_pos hc] at es
                    refine r_aload_n d_X8_tells_130 rfl ?_
                    refine r_iload d_X8_tells_131 rfl ?_
                    refine r_V1i d_X8_tells_133 (w_X8_272 _ rfl) (tt_139 _ _) rfl rfl (hiw) (by decide) (Nat.le_of_ble_eq_true rfl) (fun z133 T133 I133 L133 R133 h133 => ?_)
                    obtain ⟨rfl, rfl, rfl, rfl, rfl⟩ := h133
                    refine r_if_eq d_X8_tells_136 (by omega) (fun c136 => absurd c136 (by decide)) (fun c136 => ?_)
                    refine r_iload d_X8_tells_139 rfl ?_
                    refine r_aload_n d_X8_tells_141 rfl ?_
                    refine r_getr d_X8_tells_142 f_X8_154 (tt_139 _ _) (by decide) rfl (rr_139_72 _) ?_
                    refine r_iload d_X8_tells_145 rfl ?_
                    refine r_ialdJ d_X8_tells_147 (tt_185 _ _) rfl (by omega) (kk := ?_)
                    rw [w1]
                    refine r_iload d_X8_tells_148 rfl ?_
                    refine r_icmp_gt d_X8_tells_150 (by omega) (by omega) (fun c150 => absurd c150 (by omega)) (fun c150 => ?_)
                    refine r_aload_n d_X8_tells_153 rfl ?_
                    refine r_iload d_X8_tells_154 rfl ?_
                    refine r_V1i d_X8_tells_156 (w_X8_366 _ rfl) (tt_139 _ _) rfl rfl (x_weight hV hX2 (by omega)) (by decide) (Nat.le_of_ble_eq_true rfl) (fun z156 T156 I156 L156 R156 h156 => ?_)
                    obtain ⟨rfl, rfl, rfl, rfl, rfl⟩ := h156
                    refine r_goto d_X8_tells_159 ?_
                    refine r_iadd d_X8_tells_163 ?_
                    refine r_istore d_X8_tells_164 (by decide) ?_
                    refine r_iinc d_X8_tells_166 rfl (by decide) ?_
                    refine r_goto d_X8_tells_169 ?_
                    exact CpL (ih2 (w + 1) (by omega)) (by repeat (first | exact trivial | refine ⟨rfl, ?_⟩ | refine ⟨by rw [es]; rfl, ?_⟩))
                  · rw [if_neg hc] at es
                    refine r_aload_n d_X8_tells_130 rfl ?_
                    refine r_iload d_X8_tells_131 rfl ?_
                    refine r_V1i d_X8_tells_133 (w_X8_272 _ rfl) (tt_139 _ _) rfl rfl (hiw) (by decide) (Nat.le_of_ble_eq_true rfl) (fun z133 T133 I133 L133 R133 h133 => ?_)
                    obtain ⟨rfl, rfl, rfl, rfl, rfl⟩ := h133
                    refine r_if_eq d_X8_tells_136 (by omega) (fun c136 => absurd c136 (by decide)) (fun c136 => ?_)
                    refine r_iload d_X8_tells_139 rfl ?_
                    refine r_aload_n d_X8_tells_141 rfl ?_
                    refine r_getr d_X8_tells_142 f_X8_154 (tt_139 _ _) (by decide) rfl (rr_139_72 _) ?_
                    refine r_iload d_X8_tells_145 rfl ?_
                    refine r_ialdJ d_X8_tells_147 (tt_185 _ _) rfl (by omega) (kk := ?_)
                    rw [w1]
                    refine r_iload d_X8_tells_148 rfl ?_
                    refine r_icmp_gt d_X8_tells_150 (by omega) (by omega) (fun c150 => ?_) (fun c150 => absurd c150 (by omega))
                    refine r_iconst d_X8_tells_162 ?_
                    refine r_iadd d_X8_tells_163 ?_
                    refine r_istore d_X8_tells_164 (by decide) ?_
                    refine r_iinc d_X8_tells_166 rfl (by decide) ?_
                    refine r_goto d_X8_tells_169 ?_
                    exact CpL (ih2 (w + 1) (by omega)) (by repeat (first | exact trivial | refine ⟨rfl, ?_⟩ | refine ⟨by rw [es]; rfl, ?_⟩))
              refine r_iload d_X8_tells_117 rfl ?_
              refine r_bipush d_X8_tells_119 (by decide) ?_
              refine r_icmp_ge d_X8_tells_121 (by omega) (by omega) (fun c121 => absurd c121 (by omega)) (fun c121 => ?_)
              refine r_iconst d_X8_tells_124 ?_
              refine r_istore d_X8_tells_125 (by decide) ?_
              refine r_iconst d_X8_tells_127 ?_
              refine r_istore d_X8_tells_128 (by decide) ?_
              exact CpL (inner _ 0 (Nat.zero_add _)) (by repeat (first | exact trivial | refine ⟨rfl, ?_⟩))
          -- the ways
          have ways : ∀ (k way : Nat) (I1 : sI), way + k = 2 ^ chn σ nr → MB σ ℓ (-1) nr nw ng tl ukd unn utr utw I1 → FP I I1 → (∀ w, w < way → I1 185 w = W w ∧ 0 ≤ W w ∧ W w ≤ 44) → WTA σ ℓ (-1) nr nw ng (ukd q) (unn q) (utr q) (utw q) (tl.getD q 0) how u W way → Cp g 12 m_X8_tells 0 0 Q 72 [(0, vr 139), (1, vi (q : Int)), (2, vi how), (3, vi (u : Int)), (4, vi t), (6, vi (way : Int))] [] (TT Ls tl) I1 L (RR tl) := by
            intro k
            induction k with
            | zero =>
              intro way I1 hk hM1 f hw2 hd
              have ew : way = 2 ^ chn σ nr := by omega
              have hiw := x_isWay (g := g) (Ls := Ls) (tl := tl) (L := L) hV hM1.2.2.2.2.1 (way := (way : Int)) (by omega)
              rw [if_neg (by omega)] at hiw
              rw [ew] at hd
              refine r_aload_n d_X8_tells_72 rfl ?_
              refine r_iload d_X8_tells_73 rfl ?_
              refine r_V1i d_X8_tells_75 (w_X8_272 _ rfl) (tt_139 _ _) rfl rfl (hiw) (by decide) (Nat.le_of_ble_eq_true rfl) (fun z75 T75 I75 L75 R75 h75 => ?_)
              obtain ⟨rfl, rfl, rfl, rfl, rfl⟩ := h75
              refine r_if_eq d_X8_tells_78 (by omega) (fun c78 => ?_) (fun c78 => absurd c78 (by decide))
              refine r_iconst d_X8_tells_114 ?_
              refine r_istore d_X8_tells_115 (by decide) ?_
              exact CpL (times I1 hM1 f (fun w hw => hw2 w (by omega)) (CH_of hV.1 v2 v3 hd) 44 0 (by omega) rfl) (by repeat (first | exact trivial | refine ⟨rfl, ?_⟩))
            | succ k ih =>
              intro way I1 hk hM1 f hw2 hd
              have hiw := x_isWay (g := g) (Ls := Ls) (tl := tl) (L := L) hV hM1.2.2.2.2.1 (way := (way : Int)) (by omega)
              rw [if_pos (by omega)] at hiw
              refine r_aload_n d_X8_tells_72 rfl ?_
              refine r_iload d_X8_tells_73 rfl ?_
              refine r_V1i d_X8_tells_75 (w_X8_272 _ rfl) (tt_139 _ _) rfl rfl (hiw) (by decide) (Nat.le_of_ble_eq_true rfl) (fun z75 T75 I75 L75 R75 h75 => ?_)
              obtain ⟨rfl, rfl, rfl, rfl, rfl⟩ := h75
              refine r_if_eq d_X8_tells_78 (by omega) (fun c78 => absurd c78 (by decide)) (fun c78 => ?_)
              refine r_aload_n d_X8_tells_81 rfl ?_
              refine r_iload_n d_X8_tells_82 rfl ?_
              refine r_iload d_X8_tells_83 rfl ?_
              refine r_iload_n d_X8_tells_85 rfl ?_
              refine r_V3i d_X8_tells_86 (w_X8_406 _ rfl) (tt_139 _ _) rfl rfl (x_costBy hM1 (by omega) (by omega) k5 k1) (by decide) (Nat.le_of_ble_eq_true rfl) (fun z86 T86 I86 L86 R86 h86 => ?_)
              obtain ⟨rfl, rfl, rfl, y1, y2, y3, y4, od, y5, y6, y7⟩ := h86
              obtain ⟨x, u1, u2, -, u3⟩ := x_waitsB (g := g) (Ls := Ls) (L := L86) (MB_fm hM1 y1 y2) hu y4 y5 y6 y7
              refine r_pop d_X8_tells_89 rfl ?_
              refine r_aload_n d_X8_tells_90 rfl ?_
              refine r_getr d_X8_tells_91 f_X8_154 (tt_139 _ _) (by decide) rfl (rr_139_72 _) ?_
              refine r_iload d_X8_tells_94 rfl ?_
              refine r_aload_n d_X8_tells_96 rfl ?_
              refine r_iload_n d_X8_tells_97 rfl ?_
              refine r_aload_n d_X8_tells_98 rfl ?_
              refine r_getr d_X8_tells_99 f_X8_142 (tt_139 _ _) (by decide) rfl (rr_139_63 _) ?_
              refine r_iload_n d_X8_tells_102 rfl ?_
              refine r_ialdJ d_X8_tells_103 (tt_181 _ _) rfl (by omega) (kk := ?_)
              refine r_V2i d_X8_tells_104 (w_X8_339 _ rfl) (tt_139 _ _) rfl rfl (u3) (by decide) (Nat.le_of_ble_eq_true rfl) (fun z104 T104 I104 L104 R104 h104 => ?_)
              obtain ⟨rfl, rfl, rfl, rfl, rfl⟩ := h104
              refine r_iastJ d_X8_tells_107 (tt_185 _ _) (by omega) rfl (by omega) (kk := ?_)
              refine r_iinc d_X8_tells_108 rfl (by decide) ?_
              refine r_goto d_X8_tells_111 ?_
              have hx := hW way _ ⟨od, y5, u2⟩
              refine CpL (ih (way + 1) _ (by omega) (MB_185 (MB_fm hM1 y1 y2)) (FP_tr f (FP_tr (FM_FP y1) ⟨fun a _ h => by rw [up2_ne _ _ (by omega)], fun x _ => by rw [up2_ne _ _ (by decide)]⟩)) (fun w hw => ?_) (fun w hw => ?_)) (by repeat (first | exact trivial | refine ⟨rfl, ?_⟩))
              · by_cases e : w = way
                · rw [e, up2_at, ← hx]; exact ⟨rfl, u1⟩
                · rw [up2_nj _ _ e, y1.1 185 (by decide) (by omega)]; exact hw2 w (by omega)
              · by_cases e : w = way
                · rw [e, ← hx]; exact ⟨od, y5, u2⟩
                · exact hd w (by omega)
          refine r_aload_n d_X8_tells_26 rfl ?_
          refine r_iload_n d_X8_tells_27 rfl ?_
          refine r_iconst d_X8_tells_28 ?_
          refine r_iload_n d_X8_tells_29 rfl ?_
          refine r_S1i d_X8_tells_30 (w_X8_403 _ rfl) (hgi) (by decide) (Nat.le_of_ble_eq_true rfl) (fun z30 T30 I30 L30 R30 h30 => ?_)
          obtain ⟨rfl, rfl, rfl, rfl, rfl⟩ := h30
          refine r_if_eq d_X8_tells_33 (by omega) (fun c33 => absurd c33 (by decide)) (fun c33 => ?_)
          refine r_iload d_X8_tells_36 rfl ?_
          refine r_iconst d_X8_tells_38 ?_
          refine r_bipush d_X8_tells_39 (by decide) ?_
          refine r_S3i d_X8_tells_41 (w_X8_162 _ rfl) (hw1) (by decide) (Nat.le_of_ble_eq_true rfl) (fun z41 T41 I41 L41 R41 h41 => ?_)
          obtain ⟨rfl, rfl, rfl, rfl, rfl⟩ := h41
          refine r_if_eq d_X8_tells_44 (by omega) (fun c44 => absurd c44 (by decide)) (fun c44 => ?_)
          refine r_iconst d_X8_tells_47 ?_
          refine r_goto d_X8_tells_48 ?_
          refine r_V3i d_X8_tells_52 (w_X8_396 _ rfl) (tt_139 _ _) rfl rfl (hb0) (by decide) (Nat.le_of_ble_eq_true rfl) (fun z52 T52 I52 L52 R52 h52 => ?_)
          obtain ⟨rfl, rfl, rfl, rfl, rfl⟩ := h52
          refine r_istore d_X8_tells_55 (by decide) ?_
          refine r_iload d_X8_tells_57 rfl ?_
          refine r_if_eq d_X8_tells_59 (by omega) (fun c59 => ?_) (fun c59 => absurd c59 (by decide))
          refine r_aload_n d_X8_tells_65 rfl ?_
          refine r_V0v d_X8_tells_66 (w_X8_400 _ rfl) (tt_139 _ _) rfl rfl (x_allWomen) (by decide) (Nat.le_of_ble_eq_true rfl) (fun T66 I66 L66 R66 h66 => ?_)
          obtain ⟨rfl, rfl, rfl, rfl⟩ := h66
          refine r_iconst d_X8_tells_69 ?_
          refine r_istore d_X8_tells_70 (by decide) ?_
          rw [← hI0]
          exact CpL (ways _ 0 I0 (Nat.zero_add _) m1 m2 (fun w hw => absurd hw (by omega)) (fun w hw => absurd hw (by omega))) (by repeat (first | exact trivial | refine ⟨rfl, ?_⟩))
        · obtain ⟨hne, hans⟩ := ref 1 (Or.inr rfl) ⟨fun _ => ⟨k1, k2⟩, fun _ => rfl⟩ (fun p => k4 ⟨p.1, p.2.1⟩)
          have hrg1 := hrg 1
          generalize brS tl.length nr (2 ^ chn σ nr) rule (-1) 1 = z at *
          refine r_aload_n d_X8_tells_26 rfl ?_
          refine r_iload_n d_X8_tells_27 rfl ?_
          refine r_iconst d_X8_tells_28 ?_
          refine r_iload_n d_X8_tells_29 rfl ?_
          refine r_S1i d_X8_tells_30 (w_X8_403 _ rfl) (hgi) (by decide) (Nat.le_of_ble_eq_true rfl) (fun z30 T30 I30 L30 R30 h30 => ?_)
          obtain ⟨rfl, rfl, rfl, rfl, rfl⟩ := h30
          refine r_if_eq d_X8_tells_33 (by omega) (fun c33 => absurd c33 (by decide)) (fun c33 => ?_)
          refine r_iload d_X8_tells_36 rfl ?_
          refine r_iconst d_X8_tells_38 ?_
          refine r_bipush d_X8_tells_39 (by decide) ?_
          refine r_S3i d_X8_tells_41 (w_X8_162 _ rfl) (hw1) (by decide) (Nat.le_of_ble_eq_true rfl) (fun z41 T41 I41 L41 R41 h41 => ?_)
          obtain ⟨rfl, rfl, rfl, rfl, rfl⟩ := h41
          refine r_if_eq d_X8_tells_44 (by omega) (fun c44 => absurd c44 (by decide)) (fun c44 => ?_)
          refine r_iconst d_X8_tells_47 ?_
          refine r_goto d_X8_tells_48 ?_
          refine r_V3i d_X8_tells_52 (w_X8_396 _ rfl) (tt_139 _ _) rfl rfl (hb0) (by decide) (Nat.le_of_ble_eq_true rfl) (fun z52 T52 I52 L52 R52 h52 => ?_)
          obtain ⟨rfl, rfl, rfl, rfl, rfl⟩ := h52
          refine r_istore d_X8_tells_55 (by decide) ?_
          refine r_iload d_X8_tells_57 rfl ?_
          refine r_if_eq d_X8_tells_59 (by omega) (fun c59 => absurd c59 (by exact hne)) (fun c59 => ?_)
          refine r_iload d_X8_tells_62 rfl ?_
          refine r_iret d_X8_tells_64 rfl ?_
          exact hans
      · rw [if_neg k2] at hw1
        have hb0 := hbr 0 (Or.inl rfl)
        obtain ⟨hne, hans⟩ := ref 0 (Or.inl rfl) ⟨fun h => absurd h (by decide), fun h => absurd h.2 k2⟩ (fun p => absurd p.2.2 (by decide))
        have hrg1 := hrg 0
        generalize brS tl.length nr (2 ^ chn σ nr) rule (-1) 0 = z at *
        refine r_aload_n d_X8_tells_26 rfl ?_
        refine r_iload_n d_X8_tells_27 rfl ?_
        refine r_iconst d_X8_tells_28 ?_
        refine r_iload_n d_X8_tells_29 rfl ?_
        refine r_S1i d_X8_tells_30 (w_X8_403 _ rfl) (hgi) (by decide) (Nat.le_of_ble_eq_true rfl) (fun z30 T30 I30 L30 R30 h30 => ?_)
        obtain ⟨rfl, rfl, rfl, rfl, rfl⟩ := h30
        refine r_if_eq d_X8_tells_33 (by omega) (fun c33 => absurd c33 (by decide)) (fun c33 => ?_)
        refine r_iload d_X8_tells_36 rfl ?_
        refine r_iconst d_X8_tells_38 ?_
        refine r_bipush d_X8_tells_39 (by decide) ?_
        refine r_S3i d_X8_tells_41 (w_X8_162 _ rfl) (hw1) (by decide) (Nat.le_of_ble_eq_true rfl) (fun z41 T41 I41 L41 R41 h41 => ?_)
        obtain ⟨rfl, rfl, rfl, rfl, rfl⟩ := h41
        refine r_if_eq d_X8_tells_44 (by omega) (fun c44 => ?_) (fun c44 => absurd c44 (by decide))
        refine r_iconst d_X8_tells_51 ?_
        refine r_V3i d_X8_tells_52 (w_X8_396 _ rfl) (tt_139 _ _) rfl rfl (hb0) (by decide) (Nat.le_of_ble_eq_true rfl) (fun z52 T52 I52 L52 R52 h52 => ?_)
        obtain ⟨rfl, rfl, rfl, rfl, rfl⟩ := h52
        refine r_istore d_X8_tells_55 (by decide) ?_
        refine r_iload d_X8_tells_57 rfl ?_
        refine r_if_eq d_X8_tells_59 (by omega) (fun c59 => absurd c59 (by exact hne)) (fun c59 => ?_)
        refine r_iload d_X8_tells_62 rfl ?_
        refine r_iret d_X8_tells_64 rfl ?_
        exact hans
    · rw [if_neg k1] at hgi
      have hb0 := hbr 0 (Or.inl rfl)
      obtain ⟨hne, hans⟩ := ref 0 (Or.inl rfl) ⟨fun h => absurd h (by decide), fun h => absurd h.1 k1⟩ (fun p => absurd p.2.2 (by decide))
      have hrg1 := hrg 0
      generalize brS tl.length nr (2 ^ chn σ nr) rule (-1) 0 = z at *
      refine r_aload_n d_X8_tells_26 rfl ?_
      refine r_iload_n d_X8_tells_27 rfl ?_
      refine r_iconst d_X8_tells_28 ?_
      refine r_iload_n d_X8_tells_29 rfl ?_
      refine r_S1i d_X8_tells_30 (w_X8_403 _ rfl) (hgi) (by decide) (Nat.le_of_ble_eq_true rfl) (fun z30 T30 I30 L30 R30 h30 => ?_)
      obtain ⟨rfl, rfl, rfl, rfl, rfl⟩ := h30
      refine r_if_eq d_X8_tells_33 (by omega) (fun c33 => ?_) (fun c33 => absurd c33 (by decide))
      refine r_iconst d_X8_tells_51 ?_
      refine r_V3i d_X8_tells_52 (w_X8_396 _ rfl) (tt_139 _ _) rfl rfl (hb0) (by decide) (Nat.le_of_ble_eq_true rfl) (fun z52 T52 I52 L52 R52 h52 => ?_)
      obtain ⟨rfl, rfl, rfl, rfl, rfl⟩ := h52
      refine r_istore d_X8_tells_55 (by decide) ?_
      refine r_iload d_X8_tells_57 rfl ?_
      refine r_if_eq d_X8_tells_59 (by omega) (fun c59 => absurd c59 (by exact hne)) (fun c59 => ?_)
      refine r_iload d_X8_tells_62 rfl ?_
      refine r_iret d_X8_tells_64 rfl ?_
      exact hans
  by_cases c1 : 0 ≤ rule ∧ rule < (tl.length : Int)
  · rw [if_pos c1] at hru
    by_cases c2 : 0 < nr
    · by_cases c3 : 0 ≤ guest ∧ guest < (ng : Int)
      · rw [if_pos c3] at hgs
        refine r_aload_n d_X8_tells_0 rfl ?_
        refine r_iload_n d_X8_tells_1 rfl ?_
        refine r_V1i d_X8_tells_2 (w_X8_250 _ rfl) (tt_139 _ _) rfl rfl (hru) (by decide) (Nat.le_of_ble_eq_true rfl) (fun z2 T2 I2 L2 R2 h2 => ?_)
        obtain ⟨rfl, rfl, rfl, rfl, rfl⟩ := h2
        refine r_if_eq d_X8_tells_5 (by omega) (fun c5 => absurd c5 (by decide)) (fun c5 => ?_)
        refine r_aload_n d_X8_tells_8 rfl ?_
        refine r_geti d_X8_tells_9 f_X8_232 (tt_139 _ _) (by decide) (by decide) ?_
        refine r_if_le d_X8_tells_12 (by omega) (fun c12 => absurd c12 (by omega)) (fun c12 => ?_)
        refine r_aload_n d_X8_tells_15 rfl ?_
        refine r_iload_n d_X8_tells_16 rfl ?_
        refine r_V1i d_X8_tells_17 (w_X8_262 _ rfl) (tt_139 _ _) rfl rfl (hgs) (by decide) (Nat.le_of_ble_eq_true rfl) (fun z17 T17 I17 L17 R17 h17 => ?_)
        obtain ⟨rfl, rfl, rfl, rfl, rfl⟩ := h17
        refine r_if_ne d_X8_tells_20 (by omega) (fun c20 => ?_) (fun c20 => absurd c20 (by decide))
        exact t26 (fun _ _ => c3)
      · rw [if_neg c3] at hgs
        refine r_aload_n d_X8_tells_0 rfl ?_
        refine r_iload_n d_X8_tells_1 rfl ?_
        refine r_V1i d_X8_tells_2 (w_X8_250 _ rfl) (tt_139 _ _) rfl rfl (hru) (by decide) (Nat.le_of_ble_eq_true rfl) (fun z2 T2 I2 L2 R2 h2 => ?_)
        obtain ⟨rfl, rfl, rfl, rfl, rfl⟩ := h2
        refine r_if_eq d_X8_tells_5 (by omega) (fun c5 => absurd c5 (by decide)) (fun c5 => ?_)
        refine r_aload_n d_X8_tells_8 rfl ?_
        refine r_geti d_X8_tells_9 f_X8_232 (tt_139 _ _) (by decide) (by decide) ?_
        refine r_if_le d_X8_tells_12 (by omega) (fun c12 => absurd c12 (by omega)) (fun c12 => ?_)
        refine r_aload_n d_X8_tells_15 rfl ?_
        refine r_iload_n d_X8_tells_16 rfl ?_
        refine r_V1i d_X8_tells_17 (w_X8_262 _ rfl) (tt_139 _ _) rfl rfl (hgs) (by decide) (Nat.le_of_ble_eq_true rfl) (fun z17 T17 I17 L17 R17 h17 => ?_)
        obtain ⟨rfl, rfl, rfl, rfl, rfl⟩ := h17
        refine r_if_ne d_X8_tells_20 (by omega) (fun c20 => absurd c20 (by decide)) (fun c20 => ?_)
        refine r_bipush d_X8_tells_23 (by decide) ?_
        refine r_iret d_X8_tells_25 rfl ?_
        rw [hQ]
        have e : rgS tl.length nr ng rule how guest = -101 := by unfold rgS; rw [if_pos ⟨c1, c2, c3⟩]
        refine AM_no hM ⟨?_, ?_, ?_⟩
        · rw [e]; exact fun _ => rfl
        · rw [e]; exact fun h => absurd h (by decide)
        · rw [e]; exact fun h => absurd h (by decide)
    · skip
      refine r_aload_n d_X8_tells_0 rfl ?_
      refine r_iload_n d_X8_tells_1 rfl ?_
      refine r_V1i d_X8_tells_2 (w_X8_250 _ rfl) (tt_139 _ _) rfl rfl (hru) (by decide) (Nat.le_of_ble_eq_true rfl) (fun z2 T2 I2 L2 R2 h2 => ?_)
      obtain ⟨rfl, rfl, rfl, rfl, rfl⟩ := h2
      refine r_if_eq d_X8_tells_5 (by omega) (fun c5 => absurd c5 (by decide)) (fun c5 => ?_)
      refine r_aload_n d_X8_tells_8 rfl ?_
      refine r_geti d_X8_tells_9 f_X8_232 (tt_139 _ _) (by decide) (by decide) ?_
      refine r_if_le d_X8_tells_12 (by omega) (fun c12 => ?_) (fun c12 => absurd c12 (by omega))
      exact t26 (fun _ h => absurd h c2)
  · rw [if_neg c1] at hru
    refine r_aload_n d_X8_tells_0 rfl ?_
    refine r_iload_n d_X8_tells_1 rfl ?_
    refine r_V1i d_X8_tells_2 (w_X8_250 _ rfl) (tt_139 _ _) rfl rfl (hru) (by decide) (Nat.le_of_ble_eq_true rfl) (fun z2 T2 I2 L2 R2 h2 => ?_)
    obtain ⟨rfl, rfl, rfl, rfl, rfl⟩ := h2
    refine r_if_eq d_X8_tells_5 (by omega) (fun c5 => ?_) (fun c5 => absurd c5 (by decide))
    exact t26 (fun h => absurd h c1)
end X99
