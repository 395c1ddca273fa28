/-- a day that is run by a seed: the seed behind it, and its way, over the first n rooms -/
def rnS (σ : Sg) (seed : Int) : Nat → Int × Nat
  | 0 => (seed, 0)
  | n + 1 => if σ 4 n = -1 ∨ σ 6 n ≠ -1 then rnS σ seed n else ((1103515245 * (rnS σ seed n).1 + 12345) % 2147483648, if (1103515245 * (rnS σ seed n).1 + 12345) % 2147483648 / 65536 % 10 < σ 5 n then (rnS σ seed n).2 else (rnS σ seed n).2 ||| 2 ^ chn σ n)
theorem rn_flat {σ : Sg} {seed : Int} {m : Nat} : ∀ n, m ≤ n → chn σ m = chn σ n → rnS σ seed n = rnS σ seed m
  | 0, h, _ => by rw [show m = 0 by omega]
  | n + 1, h, e => by
    by_cases hm : m = n + 1
    · rw [hm]
    · have h1 := chn_mono σ (show m ≤ n by omega)
      have h2 : chn σ (n + 1) = chn σ n + (if σ 4 n = -1 then 0 else 1) := rfl
      have h4 : σ 4 n = -1 := by
        apply Classical.byContradiction
        intro q
        rw [if_neg q] at h2; omega
      rw [if_pos h4] at h2
      show (if σ 4 n = -1 ∨ σ 6 n ≠ -1 then rnS σ seed n else _) = _
      rw [if_pos (Or.inl h4)]
      exact rn_flat n (by omega) (by omega)
theorem rn_eq {σ : Sg} {seed : Int} {m n : Nat} (h : chn σ m = chn σ n) : rnS σ seed m = rnS σ seed n := by
  by_cases e : m ≤ n
  · exact (rn_flat n e h).symm
  · exact rn_flat m (by omega) h.symm
theorem rn_bd {σ : Sg} {seed : Int} (hs : 0 ≤ seed ∧ seed ≤ 2147483647) : ∀ n, (0 ≤ (rnS σ seed n).1 ∧ (rnS σ seed n).1 ≤ 2147483647) ∧ (rnS σ seed n).2 < 2 ^ chn σ n
  | 0 => ⟨hs, by show 0 < 2 ^ 0; omega⟩
  | n + 1 => by
    obtain ⟨h1, h2⟩ := rn_bd hs n
    by_cases h4 : σ 4 n = -1
    · have e : chn σ (n + 1) = chn σ n := by simp [chn, h4]
      unfold rnS
      rw [if_pos (Or.inl h4), e]; exact ⟨h1, h2⟩
    · have e : chn σ (n + 1) = chn σ n + 1 := by simp [chn, h4]
      have h3 : 2 ^ chn σ n < 2 ^ (chn σ n + 1) := Nat.pow_lt_pow_right (by omega) (by omega)
      unfold rnS
      rw [e]
      split
      · exact ⟨h1, by omega⟩
      · refine ⟨by show 0 ≤ _ % _ ∧ _ % _ ≤ _; omega, ?_⟩
        show (if _ then _ else _) < _
        split
        · omega
        · exact or_lt (by omega) (by omega)
def aRun (σ : Sg) (ℓ : Int) (nr nw ng : Nat) (tl : List Nat) (ukd unn : Nat → Int) (utr utw : Nat → Nat → Nat) (rule how seed what z : Int) : Prop := (rfS tl.length nr rule how ≠ 0 → z = rfS tl.length nr rule how) ∧ (rfS tl.length nr rule how = 0 → ¬ (0 ≤ seed ∧ (0 ≤ what ∧ what < 3)) → z = -102) ∧ (rfS tl.length nr rule how = 0 → (0 ≤ seed ∧ (0 ≤ what ∧ what < 3)) → (what = 0 → z = ((rnS σ seed nr).2 : Int)) ∧ (what = 2 → z = (rnS σ seed nr).1) ∧ (what = 1 → CD σ ℓ (-1) nr nw ng (ukd rule.toNat) (unn rule.toNat) (utr rule.toNat) (utw rule.toNat) (tl.getD rule.toNat 0) (rnS σ seed nr).2 how z))
section C55
variable {g : sG} {Ls : Nat} {tl : List Nat} {I L : sI} {σ : Sg} {ℓ : Int} {nr nw ng : Nat} {ukd unn : Nat → Int} {utr utw : Nat → Nat → Nat}
theorem c_run (hX : XS σ ℓ nr nw ng tl ukd unn utr utw I L) {rule how seed what : Int} (hr : i32 rule) (hh : i32 how) (hse : i32 seed) (hw : i32 what) : Mc g 12 m_X7_run 0 0 [vr 3, vi rule, vi how, vi seed, vi what] (TT Ls tl) I L (RR tl) (AQ σ ℓ nr nw ng Ls tl ukd unn utr utw I L (aRun σ ℓ nr nw ng tl ukd unn utr utw rule how seed what)) := by
  refine Mc_of rfl (Nat.le_of_ble_eq_true rfl) ?_
  obtain ⟨hB, hR⟩ := id hX
  obtain ⟨b1, b2, b3, b4, b5, b6, b7, b8⟩ := id hB
  obtain ⟨v1, v2, v3, v4, v5, v6, v7⟩ := id b1
  have hpw := p2 v7
  have hse2 : -2147483648 ≤ seed ∧ seed ≤ 2147483647 := hse
  have hw2 : -2147483648 ≤ what ∧ what ≤ 2147483647 := hw
  have hrg := rfS_rg (nr := nr) (n := tl.length) (rule := rule) (how := how)
  have hrf := c_refusalOf (g := g) (Ls := Ls) (tl := tl) (L := L) hR.1 hR.2.1 b3.1 v1 hr hh
  by_cases hz : rfS tl.length nr rule how = 0
  · obtain ⟨ok1, ok2, ok3⟩ := rfS_ok hz
    obtain ⟨q, rfl⟩ : ∃ q : Nat, rule = (q : Int) := ⟨rule.toNat, by omega⟩
    have hq : q < tl.length := by omega
    have hU := hR.2.2 q hq
    have hql := hU.1
    rw [hz] at hrf
    by_cases hc : 0 ≤ seed ∧ (0 ≤ what ∧ what < 3)
    · have hs : 0 ≤ seed ∧ seed ≤ 2147483647 := ⟨hc.1, hse.2⟩
      obtain ⟨hn, hnn⟩ : ∃ hn : Nat, unn q = (hn : Int) := ⟨(unn q).toNat, by have := hU.2.2.2.2.2.1; omega⟩
      have hhn : hn < 2 := by have := hU.2.2.2.2.2.1; omega
      have ek : I (186 + 3 * q) 0 = ukd q := hU.2.2.1
      have en : I (186 + 3 * q) 1 = (hn : Int) := by rw [← hnn]; exact hU.2.2.2.1
      have hk := hU.2.2.2.2.1
      have e6 : I 8 6 = (chn σ nr : Int) := b3.2.2.2.1
      have fin : ∀ z : Int, (what = 0 → z = ((rnS σ seed nr).2 : Int)) ∧ (what = 2 → z = (rnS σ seed nr).1) ∧ (what = 1 → CD σ ℓ (-1) nr nw ng (ukd q) (unn q) (utr q) (utw q) (tl.getD q 0) (rnS σ seed nr).2 how z) → aRun σ ℓ nr nw ng tl ukd unn utr utw (q : Int) how seed what z := fun z h => ⟨fun h => absurd hz h, fun _ h => absurd hc h, fun _ _ => by rw [Int.toNat_natCast]; exact h⟩
      have loop : ∀ (k b : Nat) (nx : Int) (wy : Nat), b + k = chn σ nr → (∀ r, r ≤ nr → chn σ r = b → rnS σ seed r = (nx, wy)) → Cp g 12 m_X7_run 0 0 (AQ σ ℓ nr nw ng Ls tl ukd unn utr utw I L (aRun σ ℓ nr nw ng tl ukd unn utr utw (q : Int) how seed what)) 42 [(0, vr 3), (1, vi (q : Int)), (2, vi how), (4, vi what), (6, vl nx), (8, vi (wy : Int)), (9, vi (b : Int))] [] (TT Ls tl) I L (RR tl) := by
        intro k
        induction k with
        | zero =>
          intro b nx wy hbk hinv
          have e := hinv nr (Nat.le_refl _) (by omega)
          have hbd := rn_bd (σ := σ) hs nr
          rw [e] at fin hbd
          have hb1 : 0 ≤ nx ∧ nx ≤ 2147483647 := hbd.1
          have hb2 : wy < 2 ^ chn σ nr := hbd.2
          refine r_iload d_X7_run_42 rfl ?_
          refine r_aload_n d_X7_run_44 rfl ?_
          refine r_getr d_X7_run_45 f_X7_19 (tt_3 _ _) (by decide) rfl (rr_3_1 _) ?_
          refine r_geti d_X7_run_48 f_X7_228 (tt_8 _ _) (by decide) (by decide) ?_
          refine r_icmp_ge d_X7_run_51 (by omega) (by omega) (fun c51 => ?_) (fun c51 => absurd c51 (by omega))
          refine r_iload d_X7_run_141 rfl ?_
          refine r_iconst d_X7_run_143 ?_
          refine r_icmp_eq d_X7_run_144 (by omega) (by omega) (fun c144 => ?_) (fun c144 => ?_)
          · refine r_aload_n d_X7_run_161 rfl ?_
            refine r_getr d_X7_run_162 f_X7_28 (tt_3 _ _) (by decide) rfl (rr_3_3 _) ?_
            refine r_iload_n d_X7_run_165 rfl ?_
            refine r_aaldJ d_X7_run_166 (tt_62 _ _) (by decide) rfl (by have := hR.2.1; omega) (rrr_62 (by exact hq)) (kk := ?_)
            refine r_astore d_X7_run_167 (by decide) ?_
            refine r_aload_n d_X7_run_169 rfl ?_
            refine r_aload d_X7_run_170 rfl ?_
            refine r_aload_n d_X7_run_172 rfl ?_
            refine r_getr d_X7_run_173 f_X7_53 (tt_3 _ _) (by decide) rfl (rr_3_7 _) ?_
            refine r_aload d_X7_run_176 rfl ?_
            refine r_geti d_X7_run_178 f_X7_160 (ttr_0 hql) (by decide) (by decide) ?_
            refine r_aload d_X7_run_181 rfl ?_
            refine r_geti d_X7_run_183 f_X7_163 (ttr_0 hql) (by decide) (by decide) ?_
            rw [ek, en]
            refine r_V2r d_X7_run_186 (w_X7_166 _ rfl) (tt_122 _ _) rfl rfl (c_orderFor b1 b2 ok2 b3 b4 b5 b7 b6 hk hhn) (by decide) (Nat.le_of_ble_eq_true rfl) (fun z186 T186 I186 L186 R186 h186 => ?_)
            obtain ⟨rfl, rfl, f1, f2, k, c1, c2⟩ := h186
            obtain ⟨hB1, od, hod, hO⟩ := order_post (Ls := Ls) (tl := tl) hB hhn f1 f2 k c1 c2
            obtain ⟨⟨on, t1, -⟩, -⟩ := id hO
            rw [← hnn] at hod
            refine r_iload d_X7_run_189 rfl ?_
            refine r_iload_n d_X7_run_191 rfl ?_
            refine r_V4i d_X7_run_192 (w_X7_186 _ rfl) (tt_3 _ _) rfl rfl (c_dayCost (way := wy) (how := how) hB1 ok2 (UX_frb hU f1 (by omega)) hO (by omega) ok3) (by decide) (Nat.le_of_ble_eq_true rfl) (fun z192 T192 I192 L192 R192 h192 => ?_)
            obtain ⟨rfl, rfl, y1, y2, y3, y4⟩ := h192
            have ff : frb 70 138 I I192 := frb_tr (frb_wd f1 (by omega) (by omega)) (frb_wd y1 (by omega) (by omega))
            refine r_iret d_X7_run_195 rfl ?_
            exact ⟨_, rfl, rfl, rfl, ff, frb_tr f2 y2, ⟨XB_day hB1 (fun a ha => y1 a (by omega)) (KNX_frb k (fun a ha => y1 a (by omega))) y2, RX_frb hR ff (by omega) (by omega)⟩, fin _ ⟨fun h => absurd h (by omega), fun h => absurd h (by omega), fun _ => ⟨od, _, hod, y4⟩⟩⟩
          · refine r_iload d_X7_run_147 rfl ?_
            refine r_if_ne d_X7_run_149 (by omega) (fun c149 => ?_) (fun c149 => ?_)
            · refine r_lload d_X7_run_157 rfl ?_
              refine r_l2i d_X7_run_159 ?_
              refine r_iret d_X7_run_160 rfl ?_
              first
              | exact XS_same hX (fin _ ⟨fun _ => rfl, fun h => absurd h (by omega), fun h => absurd h (by omega)⟩)
              | exact XS_same hX (fin _ ⟨fun h => absurd h (by omega), fun _ => rfl, fun h => absurd h (by omega)⟩)
            · refine r_iload d_X7_run_152 rfl ?_
              refine r_goto d_X7_run_154 ?_
              refine r_iret d_X7_run_160 rfl ?_
              first
              | exact XS_same hX (fin _ ⟨fun _ => rfl, fun h => absurd h (by omega), fun h => absurd h (by omega)⟩)
              | exact XS_same hX (fin _ ⟨fun h => absurd h (by omega), fun _ => rfl, fun h => absurd h (by omega)⟩)
        | succ k ih =>
          intro b nx wy hbk hinv
          obtain ⟨ρ, h1, h2, h3⟩ := chn_room σ nr b (by omega)
          have e := hinv ρ (by omega) h3
          have hbd := rn_bd (σ := σ) hs ρ
          rw [e, h3] at hbd
          have hb1 : 0 ≤ nx ∧ nx ≤ 2147483647 := hbd.1
          have hb2 : wy < 2 ^ b := hbd.2
          have hb3 : 2 ^ b ≤ 2 ^ chn σ nr := Nat.pow_le_pow_right (by omega) (by omega)
          have eI : I 31 b = (ρ : Int) := by rw [← h3]; exact HXc b3 h1 h2
          have g6 : I (10 + ρ) 6 = σ 6 ρ := HXr b3 h1 (by omega)
          have g5 : I (10 + ρ) 5 = σ 5 ρ := HXr b3 h1 (by omega)
          obtain ⟨-, -, -, -, w5, w6⟩ := v4 ρ h1
          have suc : chn σ (ρ + 1) = b + 1 := by simp [chn, h2, h3]
          have rs : rnS σ seed (ρ + 1) = (if σ 4 ρ = -1 ∨ σ 6 ρ ≠ -1 then (nx, wy) else ((1103515245 * nx + 12345) % 2147483648, if (1103515245 * nx + 12345) % 2147483648 / 65536 % 10 < σ 5 ρ then wy else wy ||| 2 ^ b)) := by
            show (if σ 4 ρ = -1 ∨ σ 6 ρ ≠ -1 then rnS σ seed ρ else _) = _
            rw [e, h3]
          have nxt : ∀ r, r ≤ nr → chn σ r = b + 1 → rnS σ seed r = rnS σ seed (ρ + 1) := fun r _ hr => rn_eq (by rw [hr, suc])
          have em : sor (wy : Int) (sshl 1 (b : Int)) = ((wy ||| 2 ^ b : Nat) : Int) := by
            rw [sshl_one b (by omega), sor_nat (by omega) (by omega)]
          by_cases c6 : σ 6 ρ = -1
          · rw [if_neg (by omega)] at rs
            obtain ⟨y, hy⟩ : ∃ y, y = (1103515245 * nx + 12345) % 2147483648 := ⟨_, rfl⟩
            have hyb : 0 ≤ y ∧ y ≤ 2147483647 := by omega
            rw [← hy] at rs
            refine r_iload d_X7_run_42 rfl ?_
            refine r_aload_n d_X7_run_44 rfl ?_
            refine r_getr d_X7_run_45 f_X7_19 (tt_3 _ _) (by decide) rfl (rr_3_1 _) ?_
            refine r_geti d_X7_run_48 f_X7_228 (tt_8 _ _) (by decide) (by decide) ?_
            refine r_icmp_ge d_X7_run_51 (by omega) (by omega) (fun c51 => absurd c51 (by omega)) (fun c51 => ?_)
            refine r_aload_n d_X7_run_54 rfl ?_
            refine r_getr d_X7_run_55 f_X7_19 (tt_3 _ _) (by decide) rfl (rr_3_1 _) ?_
            refine r_getr d_X7_run_58 f_X7_231 (tt_8 _ _) (by decide) rfl (rr_8_7 _) ?_
            refine r_iload d_X7_run_61 rfl ?_
            refine r_ialdJ d_X7_run_63 (tt_31 _ _) rfl (by omega) (kk := ?_)
            rw [eI]
            refine r_istore d_X7_run_64 (by decide) ?_
            refine r_aload_n d_X7_run_66 rfl ?_
            refine r_getr d_X7_run_67 f_X7_19 (tt_3 _ _) (by decide) rfl (rr_3_1 _) ?_
            refine r_getr d_X7_run_70 f_X7_128 (tt_8 _ _) (by decide) rfl (rr_8_0 _) ?_
            refine r_iload d_X7_run_73 rfl ?_
            refine r_aaldJ d_X7_run_75 (tt_9 _ _) (by decide) rfl (by omega) (rr2_9 _ (by omega)) (kk := ?_)
            refine r_bipush d_X7_run_76 (by decide) ?_
            refine r_ialdJ (j := 6) d_X7_run_78 (tt2_9 _ _ (by omega)) rfl (by omega) (kk := ?_)
            rw [g6, c6]
            refine r_iconst d_X7_run_79 ?_
            refine r_icmp_ne d_X7_run_80 (by omega) (by omega) (fun c80 => absurd c80 (by decide)) (fun c80 => ?_)
            refine r_ldc2 d_X7_run_83 (k_X7_234 _ rfl) ?_
            refine r_lload d_X7_run_86 rfl ?_
            refine r_lmul d_X7_run_88 ?_
            refine r_ldc2 d_X7_run_89 (k_X7_236 _ rfl) ?_
            refine r_ladd d_X7_run_92 ?_
            refine r_ldc2 d_X7_run_93 (k_X7_238 _ rfl) ?_
            refine r_lrem d_X7_run_96 (by omega) (by omega) ?_
            rw [← hy]
            refine r_lstore d_X7_run_97 (by decide) ?_
            refine r_lload d_X7_run_99 rfl ?_
            refine r_ldc2 d_X7_run_101 (k_X7_240 _ rfl) ?_
            refine r_ldiv d_X7_run_104 (by omega) (by omega) ?_
            refine r_ldc2 d_X7_run_105 (k_X7_242 _ rfl) ?_
            refine r_lrem d_X7_run_108 (by omega) (by omega) ?_
            refine r_aload_n d_X7_run_109 rfl ?_
            refine r_getr d_X7_run_110 f_X7_19 (tt_3 _ _) (by decide) rfl (rr_3_1 _) ?_
            refine r_getr d_X7_run_113 f_X7_128 (tt_8 _ _) (by decide) rfl (rr_8_0 _) ?_
            refine r_iload d_X7_run_116 rfl ?_
            refine r_aaldJ d_X7_run_118 (tt_9 _ _) (by decide) rfl (by omega) (rr2_9 _ (by omega)) (kk := ?_)
            refine r_iconst d_X7_run_119 ?_
            refine r_ialdJ (j := 5) d_X7_run_120 (tt2_9 _ _ (by omega)) rfl (by omega) (kk := ?_)
            rw [g5]
            refine r_i2l d_X7_run_121 (by omega) ?_
            refine r_lcmp d_X7_run_122 (by omega) (by omega) ?_
            refine r_if_lt d_X7_run_123 (by omega) (fun c123 => ?_) (fun c123 => ?_)
            · refine r_iinc d_X7_run_135 rfl (by decide) ?_
              refine r_goto d_X7_run_138 ?_
              first
              | exact CpL (ih (b + 1) y wy (by omega) (fun r h1 h2 => by rw [nxt r h1 h2, rs, if_pos (by have := c123; omega)])) (by repeat (first | exact trivial | refine ⟨rfl, ?_⟩))
              | exact CpL (ih (b + 1) y (wy ||| 2 ^ b) (by omega) (fun r h1 h2 => by rw [nxt r h1 h2, rs, if_neg (by have := c123; omega)])) (by repeat (first | exact trivial | refine ⟨rfl, ?_⟩))
            · refine r_iload d_X7_run_126 rfl ?_
              refine r_iconst d_X7_run_128 ?_
              refine r_iload d_X7_run_129 rfl ?_
              refine r_ishl d_X7_run_131 ?_
              refine r_ior d_X7_run_132 ?_
              rw [em]
              refine r_istore d_X7_run_133 (by decide) ?_
              refine r_iinc d_X7_run_135 rfl (by decide) ?_
              refine r_goto d_X7_run_138 ?_
              first
              | exact CpL (ih (b + 1) y wy (by omega) (fun r h1 h2 => by rw [nxt r h1 h2, rs, if_pos (by have := c123; omega)])) (by repeat (first | exact trivial | refine ⟨rfl, ?_⟩))
              | exact CpL (ih (b + 1) y (wy ||| 2 ^ b) (by omega) (fun r h1 h2 => by rw [nxt r h1 h2, rs, if_neg (by have := c123; omega)])) (by repeat (first | exact trivial | refine ⟨rfl, ?_⟩))
          · rw [if_pos (Or.inr c6)] at rs
            refine r_iload d_X7_run_42 rfl ?_
            refine r_aload_n d_X7_run_44 rfl ?_
            refine r_getr d_X7_run_45 f_X7_19 (tt_3 _ _) (by decide) rfl (rr_3_1 _) ?_
            refine r_geti d_X7_run_48 f_X7_228 (tt_8 _ _) (by decide) (by decide) ?_
            refine r_icmp_ge d_X7_run_51 (by omega) (by omega) (fun c51 => absurd c51 (by omega)) (fun c51 => ?_)
            refine r_aload_n d_X7_run_54 rfl ?_
            refine r_getr d_X7_run_55 f_X7_19 (tt_3 _ _) (by decide) rfl (rr_3_1 _) ?_
            refine r_getr d_X7_run_58 f_X7_231 (tt_8 _ _) (by decide) rfl (rr_8_7 _) ?_
            refine r_iload d_X7_run_61 rfl ?_
            refine r_ialdJ d_X7_run_63 (tt_31 _ _) rfl (by omega) (kk := ?_)
            rw [eI]
            refine r_istore d_X7_run_64 (by decide) ?_
            refine r_aload_n d_X7_run_66 rfl ?_
            refine r_getr d_X7_run_67 f_X7_19 (tt_3 _ _) (by decide) rfl (rr_3_1 _) ?_
            refine r_getr d_X7_run_70 f_X7_128 (tt_8 _ _) (by decide) rfl (rr_8_0 _) ?_
            refine r_iload d_X7_run_73 rfl ?_
            refine r_aaldJ d_X7_run_75 (tt_9 _ _) (by decide) rfl (by omega) (rr2_9 _ (by omega)) (kk := ?_)
            refine r_bipush d_X7_run_76 (by decide) ?_
            refine r_ialdJ (j := 6) d_X7_run_78 (tt2_9 _ _ (by omega)) rfl (by omega) (kk := ?_)
            rw [g6]
            refine r_iconst d_X7_run_79 ?_
            refine r_icmp_ne d_X7_run_80 (by omega) (by omega) (fun c80 => ?_) (fun c80 => absurd c80 (by omega))
            refine r_iinc d_X7_run_135 rfl (by decide) ?_
            refine r_goto d_X7_run_138 ?_
            exact CpL (ih (b + 1) nx wy (by omega) (fun r h1 h2 => by rw [nxt r h1 h2, rs])) (by repeat (first | exact trivial | refine ⟨rfl, ?_⟩))
      refine r_aload_n d_X7_run_0 rfl ?_
      refine r_iload_n d_X7_run_1 rfl ?_
      refine r_iload_n d_X7_run_2 rfl ?_
      refine r_V2i d_X7_run_3 (w_X7_197 _ rfl) (tt_3 _ _) rfl rfl (hrf) (by decide) (Nat.le_of_ble_eq_true rfl) (fun z3 T3 I3 L3 R3 h3 => ?_)
      obtain ⟨rfl, rfl, rfl, rfl, rfl⟩ := h3
      refine r_istore d_X7_run_6 (by decide) ?_
      refine r_iload d_X7_run_8 rfl ?_
      refine r_if_eq d_X7_run_10 (by omega) (fun c10 => ?_) (fun c10 => absurd c10 (by decide))
      refine r_iload_n d_X7_run_16 rfl ?_
      refine r_if_lt d_X7_run_17 (by omega) (fun c17 => absurd c17 (by omega)) (fun c17 => ?_)
      refine r_iload d_X7_run_20 rfl ?_
      refine r_iconst d_X7_run_22 ?_
      refine r_S2i d_X7_run_23 (w_X7_124 _ rfl) (c_isBelow hw (by omega)) (by decide) (Nat.le_of_ble_eq_true rfl) (fun z23 T23 I23 L23 R23 h23 => ?_)
      obtain ⟨rfl, rfl, rfl, rfl, rfl⟩ := h23
      refine r_if_ne d_X7_run_26 (by split <;> omega) (fun c26 => ?_) (fun c26 => absurd c26 (by rw [if_pos (by omega)]; decide))
      refine r_iload_n d_X7_run_32 rfl ?_
      refine r_i2l d_X7_run_33 (by omega) ?_
      refine r_lstore d_X7_run_34 (by decide) ?_
      refine r_iconst d_X7_run_36 ?_
      refine r_istore d_X7_run_37 (by decide) ?_
      refine r_iconst d_X7_run_39 ?_
      refine r_istore d_X7_run_40 (by decide) ?_
      exact CpL (loop (chn σ nr) 0 seed 0 (by omega) (fun r h1 h2 => by rw [rn_eq (n := 0) (by rw [h2]; rfl)]; rfl)) (by repeat (first | exact trivial | refine ⟨rfl, ?_⟩))
    · skip
      refine r_aload_n d_X7_run_0 rfl ?_
      refine r_iload_n d_X7_run_1 rfl ?_
      refine r_iload_n d_X7_run_2 rfl ?_
      refine r_V2i d_X7_run_3 (w_X7_197 _ rfl) (tt_3 _ _) rfl rfl (hrf) (by decide) (Nat.le_of_ble_eq_true rfl) (fun z3 T3 I3 L3 R3 h3 => ?_)
      obtain ⟨rfl, rfl, rfl, rfl, rfl⟩ := h3
      refine r_istore d_X7_run_6 (by decide) ?_
      refine r_iload d_X7_run_8 rfl ?_
      refine r_if_eq d_X7_run_10 (by omega) (fun c10 => ?_) (fun c10 => absurd c10 (by decide))
      refine r_iload_n d_X7_run_16 rfl ?_
      refine r_if_lt d_X7_run_17 (by omega) (fun c17 => ?_) (fun c17 => ?_)
      · refine r_bipush d_X7_run_29 (by decide) ?_
        refine r_iret d_X7_run_31 rfl ?_
        exact XS_same hX ⟨fun h => absurd hz h, fun _ _ => rfl, fun _ h => absurd h hc⟩
      · refine r_iload d_X7_run_20 rfl ?_
        refine r_iconst d_X7_run_22 ?_
        refine r_S2i d_X7_run_23 (w_X7_124 _ rfl) (c_isBelow hw (by omega)) (by decide) (Nat.le_of_ble_eq_true rfl) (fun z23 T23 I23 L23 R23 h23 => ?_)
        obtain ⟨rfl, rfl, rfl, rfl, rfl⟩ := h23
        refine r_if_ne d_X7_run_26 (by split <;> omega) (fun c26 => absurd c26 (by rw [if_neg (by omega)]; decide)) (fun c26 => ?_)
        refine r_bipush d_X7_run_29 (by decide) ?_
        refine r_iret d_X7_run_31 rfl ?_
        exact XS_same hX ⟨fun h => absurd hz h, fun _ _ => rfl, fun _ h => absurd h hc⟩
  · skip
    refine r_aload_n d_X7_run_0 rfl ?_
    refine r_iload_n d_X7_run_1 rfl ?_
    refine r_iload_n d_X7_run_2 rfl ?_
    refine r_V2i d_X7_run_3 (w_X7_197 _ rfl) (tt_3 _ _) rfl rfl (hrf) (by decide) (Nat.le_of_ble_eq_true rfl) (fun z3 T3 I3 L3 R3 h3 => ?_)
    obtain ⟨rfl, rfl, rfl, rfl, rfl⟩ := h3
    refine r_istore d_X7_run_6 (by decide) ?_
    refine r_iload d_X7_run_8 rfl ?_
    refine r_if_eq d_X7_run_10 (by omega) (fun c10 => absurd c10 (by exact hz)) (fun c10 => ?_)
    refine r_iload d_X7_run_13 rfl ?_
    refine r_iret d_X7_run_15 rfl ?_
    exact XS_same hX ⟨fun _ => rfl, fun h => absurd h hz, fun h => absurd h hz⟩
end C55
