def wtR (x c : Int) : Int := if 0 < x - c then x - c else 0
/-- the room for a guest who comes: of those that fit and are not given the one that is ready first -/
def pickS (σ : Sg) (nr : Nat) (rd : Nat → Int) (gv : Nat → Bool) (q : Nat) : Int := amin (fun r => fitS σ r q && !gv r && decide (rd r ≠ -1)) (fun r => wtR (rd r) (σ 10 q)) nr
def gvS (σ : Sg) (nr : Nat) (rd : Nat → Int) (ar : Nat → Nat) : Nat → Nat → Bool
  | 0 => fun _ => false
  | i + 1 => fun r => gvS σ nr rd ar i r || decide (pickS σ nr rd (gvS σ nr rd ar i) (ar i) = (r : Int))
def pkS (σ : Sg) (nr : Nat) (rd : Nat → Int) (ar : Nat → Nat) (i : Nat) : Int := pickS σ nr rd (gvS σ nr rd ar i) (ar i)
def wkS (σ : Sg) (rd : Nat → Int) (q : Nat) (p : Int) : Int := if p = -1 then 44 - σ 10 q else wtR (rd p.toNat) (σ 10 q)
def asS (σ : Sg) (nr : Nat) (rd : Nat → Int) (ar : Nat → Nat) (n : Nat) : Int := sumN (fun i => wkS σ rd (ar i) (pkS σ nr rd ar i) * σ 13 (ar i)) n
theorem ar_inj {σ : Sg} {n : Nat} {ar : Nat → Nat} (h : ∀ i j, i < j → j < n → bef σ (ar i) (ar j)) {i j : Nat} (hi : i < n) (hj : j < n) (e : ar i = ar j) : i = j := by
  by_cases h1 : i < j
  · have := h i j h1 hj; rw [e] at this; unfold bef at this; omega
  · by_cases h2 : j < i
    · have := h j i h2 hi; rw [e] at this; unfold bef at this; omega
    · omega
section C35
variable {g : sG} {Ls : Nat} {tl : List Nat} {I L : sI} {σ : Sg} {nr nw ng : Nat} {rd : Nat → Int}
theorem c_giveAsTheyCome (hV : HV σ nr nw ng) (hX : HX 8 σ nr nw ng I) (hfm : ∀ q, q < ng → I 32 q = (fmS σ q nr : Int)) {ar : Nat → Nat} (ha : ∀ i, i < ng → I 33 i = (ar i : Int) ∧ ar i < ng) (hs : ∀ i j, i < j → j < ng → bef σ (ar i) (ar j)) (hrd : ∀ r, r < nr → I 76 r = rd r ∧ -1 ≤ rd r ∧ rd r ≤ 44) : Mc g 1 m_X1_giveAsTheyCome 0 0 [vr 77, vr 76] (TT Ls tl) I L (RR tl) (qI fun z T' I' L' R' => z = asS σ nr rd ar ng ∧ T' = TT Ls tl ∧ R' = RR tl ∧ L' = L ∧ (∀ a, ¬ a = 78 → I' a = I a) ∧ (∀ i, i < ng → I' 78 (ar i) = pkS σ nr rd ar i)) := by
  refine Mc_of rfl (Nat.le_of_ble_eq_true rfl) ?_
  obtain ⟨v1, v2, v3, v4, v5, v6, v7⟩ := id hV
  obtain ⟨Q, hQ⟩ : ∃ Q : sQ, Q = (qI fun z T' I' L' R' => z = asS σ nr rd ar ng ∧ T' = TT Ls tl ∧ R' = RR tl ∧ L' = L ∧ (∀ a, ¬ a = 78 → I' a = I a) ∧ (∀ i, i < ng → I' 78 (ar i) = pkS σ nr rd ar i)) := ⟨_, rfl⟩
  rw [← hQ]
  have outer : ∀ (k i m : Nat) (I1 : sI), i + k = ng → m < 256 → (∀ r, r < nr → m.testBit r = gvS σ nr rd ar i r) → (∀ a, ¬ a = 78 → I1 a = I a) → (∀ j, j < i → I1 78 (ar j) = pkS σ nr rd ar j) → Cp g 1 m_X1_giveAsTheyCome 0 0 Q 7 [(0, vr 77), (1, vr 76), (2, vi (asS σ nr rd ar i)), (3, vi (m : Int)), (4, vi (i : Int))] [] (TT Ls tl) I1 L (RR tl) := by
    intro k
    induction k with
    | zero =>
      intro i m I1 hik hm hmb f p
      have hi : i = ng := by omega
      subst hi
      have hn : I1 8 5 = (i : Int) := by rw [f 8 (by omega)]; exact hX.2.2.1
      refine r_iload d_X1_giveAsTheyCome_7 rfl ?_
      refine r_aload_n d_X1_giveAsTheyCome_9 rfl ?_
      refine r_getr d_X1_giveAsTheyCome_10 f_X1_15 (tt_77 _ _) (by decide) rfl (rr_77_0 _) ?_
      refine r_geti d_X1_giveAsTheyCome_13 f_X1_55 (tt_8 _ _) (by decide) (by decide) ?_
      refine r_icmp_ge d_X1_giveAsTheyCome_16 (by omega) (by omega) (fun c16 => ?_) (fun c16 => absurd c16 (by omega))
      refine r_iload_n d_X1_giveAsTheyCome_207 rfl ?_
      refine r_iret d_X1_giveAsTheyCome_208 rfl ?_
      rw [hQ]; exact ⟨_, rfl, rfl, rfl, rfl, rfl, f, p⟩
    | succ k ih =>
      intro i m I1 hik hm hmb f p
      have hi : i < ng := by omega
      have hn : I1 8 5 = (ng : Int) := by rw [f 8 (by omega)]; exact hX.2.2.1
      have hnr : I1 8 3 = (nr : Int) := by rw [f 8 (by omega)]; exact hX.1
      obtain ⟨a1, a2⟩ := ha i hi
      obtain ⟨q, hq⟩ : ∃ q, q = ar i := ⟨_, rfl⟩
      rw [← hq] at a1 a2
      have e33 : I1 33 i = (q : Int) := by rw [f 33 (by omega)]; exact a1
      have hgv := v6 q a2
      unfold GV at hgv
      have e10 : I1 (23 + q) 0 = σ 10 q := by rw [f _ (by omega)]; exact HXg hX a2 (by omega)
      have e13 : I1 (23 + q) 3 = σ 13 q := by rw [f _ (by omega)]; exact HXg hX a2 (by omega)
      have e32 : I1 32 q = (fmS σ q nr : Int) := by rw [f 32 (by omega)]; exact hfm q a2
      have hlt := fmS_lt (σ := σ) (q := q) nr
      have hle : 2 ^ nr ≤ 2 ^ 8 := Nat.pow_le_pow_right (by omega) v1
      obtain ⟨my, hmy⟩ : ∃ my : Nat, my = fmS σ q nr ^^^ (fmS σ q nr &&& m) := ⟨_, rfl⟩
      have emy : sand (I1 32 q) (sxor (m : Int) (-1)) = (my : Int) := by rw [e32, hmy]; exact snot_nat (by omega) (by omega)
      have hmyb : ∀ r, r < nr → my.testBit r = (fitS σ r q && !gvS σ nr rd ar i r) := fun r hr => by
        rw [hmy, dif_bit, fmS_bit, hmb r hr]
        simp [hr]
      have hmyl : my < 256 := by
        rw [hmy]
        have h1 : fmS σ q nr &&& m < 2 ^ 8 := and_lt (by omega)
        exact Nat.xor_lt_two_pow (n := 8) (by omega) h1
      obtain ⟨A, hA⟩ : ∃ A : Nat → Int, A = amin (fun r => fitS σ r q && !gvS σ nr rd ar i r && decide (rd r ≠ -1)) (fun r => wtR (rd r) (σ 10 q)) := ⟨_, rfl⟩
      have hAk : A nr = pkS σ nr rd ar i := by rw [hA, hq]; rfl
      have tail : ∀ I2 : sI, (∀ a, ¬ a = 78 → I2 a = I1 a) → (∀ j, j ≠ q → I2 78 j = I1 78 j) → I2 78 q = A nr → Cp g 1 m_X1_giveAsTheyCome 0 0 Q 160 [(0, vr 77), (1, vr 76), (2, vi (asS σ nr rd ar i)), (3, vi (m : Int)), (4, vi (i : Int)), (5, vi (q : Int)), (8, vi (wkS σ rd q (A nr)))] [] (TT Ls tl) I2 L (RR tl) := by
        intro I2 f2 p2 p3
        have g13 : I2 (23 + q) 3 = σ 13 q := by rw [f2 _ (by omega)]; exact e13
        have ebd := amin_rng (fun r => fitS σ r q && !gvS σ nr rd ar i r && decide (rd r ≠ -1)) (fun r => wtR (rd r) (σ 10 q)) nr
        rw [← hA] at ebd
        have esum : asS σ nr rd ar i + wkS σ rd q (A nr) * I2 (23 + q) 3 = asS σ nr rd ar (i + 1) := by
          rw [g13, hAk, hq]; rfl
        have nxt : ∀ m' : Nat, m' < 256 → (∀ r, r < nr → m'.testBit r = gvS σ nr rd ar (i + 1) r) → Cp g 1 m_X1_giveAsTheyCome 0 0 Q 7 [(0, vr 77), (1, vr 76), (2, vi (asS σ nr rd ar (i + 1))), (3, vi (m' : Int)), (4, vi ((i + 1 : Nat) : Int))] [] (TT Ls tl) I2 L (RR tl) := fun m' hm' hb' => by
          refine ih (i + 1) m' I2 (by omega) hm' hb' (fun a ha' => by rw [f2 a ha']; exact f a ha') (fun j hj => ?_)
          by_cases e : j = i
          · rw [e, ← hq, p3]; exact hAk
          · rw [p2 (ar j) (fun e2 => e (ar_inj hs (by omega) hi (by rw [e2, hq])))]
            exact p j (by omega)
        have hgn : ∀ r, gvS σ nr rd ar (i + 1) r = (gvS σ nr rd ar i r || decide (A nr = (r : Int))) := fun r => by rw [hAk]; rfl
        by_cases hno : A nr = -1
        · skip
          refine r_aload_n d_X1_giveAsTheyCome_160 rfl ?_
          refine r_getr d_X1_giveAsTheyCome_161 f_X1_9 (tt_77 _ _) (by decide) rfl (rr_77_2 _) ?_
          refine r_iload d_X1_giveAsTheyCome_164 rfl ?_
          refine r_ialdJ d_X1_giveAsTheyCome_166 (tt_78 _ _) rfl (by omega) (kk := ?_)
          refine r_iconst d_X1_giveAsTheyCome_167 ?_
          refine r_icmp_eq d_X1_giveAsTheyCome_168 (by omega) (by omega) (fun c168 => ?_) (fun c168 => absurd c168 (by omega))
          refine r_iload_n d_X1_giveAsTheyCome_183 rfl ?_
          refine r_iload d_X1_giveAsTheyCome_184 rfl ?_
          refine r_aload_n d_X1_giveAsTheyCome_186 rfl ?_
          refine r_getr d_X1_giveAsTheyCome_187 f_X1_15 (tt_77 _ _) (by decide) rfl (rr_77_0 _) ?_
          refine r_getr d_X1_giveAsTheyCome_190 f_X1_45 (tt_8 _ _) (by decide) rfl (rr_8_2 _) ?_
          refine r_iload d_X1_giveAsTheyCome_193 rfl ?_
          refine r_aaldJ d_X1_giveAsTheyCome_195 (tt_22 _ _) (by decide) rfl (by omega) (rr2_22 _ (by omega)) (kk := ?_)
          refine r_iconst d_X1_giveAsTheyCome_196 ?_
          refine r_ialdJ (j := 3) d_X1_giveAsTheyCome_197 (tt2_22 _ _ (by omega)) rfl (by omega) (kk := ?_)
          refine r_imul d_X1_giveAsTheyCome_198 ?_
          refine r_iadd d_X1_giveAsTheyCome_199 ?_
          rw [esum]
          refine r_istore_n d_X1_giveAsTheyCome_200 (by decide) ?_
          refine r_iinc d_X1_giveAsTheyCome_201 rfl (by decide) ?_
          refine r_goto d_X1_giveAsTheyCome_204 ?_
          refine CpL (nxt m hm (fun r hr => ?_)) (by repeat (first | exact trivial | refine ⟨rfl, ?_⟩))
          rw [hgn r, hmb r hr, decide_eq_false (by omega), Bool.or_false]
        · obtain ⟨ρ, hρ⟩ : ∃ ρ : Nat, A nr = (ρ : Int) := ⟨(A nr).toNat, by omega⟩
          have hρ8 : ρ < 8 := by omega
          have eor : sor (m : Int) (sshl 1 (I2 78 q)) = ((m ||| 2 ^ ρ : Nat) : Int) := by
            rw [p3, hρ, sshl_one ρ (by omega)]
            have : 2 ^ ρ ≤ 2 ^ 7 := Nat.pow_le_pow_right (by omega) (by omega)
            exact sor_nat (by omega) (by omega)
          refine r_aload_n d_X1_giveAsTheyCome_160 rfl ?_
          refine r_getr d_X1_giveAsTheyCome_161 f_X1_9 (tt_77 _ _) (by decide) rfl (rr_77_2 _) ?_
          refine r_iload d_X1_giveAsTheyCome_164 rfl ?_
          refine r_ialdJ d_X1_giveAsTheyCome_166 (tt_78 _ _) rfl (by omega) (kk := ?_)
          refine r_iconst d_X1_giveAsTheyCome_167 ?_
          refine r_icmp_eq d_X1_giveAsTheyCome_168 (by omega) (by omega) (fun c168 => absurd c168 (by omega)) (fun c168 => ?_)
          refine r_iload_n d_X1_giveAsTheyCome_171 rfl ?_
          refine r_iconst d_X1_giveAsTheyCome_172 ?_
          refine r_aload_n d_X1_giveAsTheyCome_173 rfl ?_
          refine r_getr d_X1_giveAsTheyCome_174 f_X1_9 (tt_77 _ _) (by decide) rfl (rr_77_2 _) ?_
          refine r_iload d_X1_giveAsTheyCome_177 rfl ?_
          refine r_ialdJ d_X1_giveAsTheyCome_179 (tt_78 _ _) rfl (by omega) (kk := ?_)
          refine r_ishl d_X1_giveAsTheyCome_180 ?_
          refine r_ior d_X1_giveAsTheyCome_181 ?_
          rw [eor]
          refine r_istore_n d_X1_giveAsTheyCome_182 (by decide) ?_
          refine r_iload_n d_X1_giveAsTheyCome_183 rfl ?_
          refine r_iload d_X1_giveAsTheyCome_184 rfl ?_
          refine r_aload_n d_X1_giveAsTheyCome_186 rfl ?_
          refine r_getr d_X1_giveAsTheyCome_187 f_X1_15 (tt_77 _ _) (by decide) rfl (rr_77_0 _) ?_
          refine r_getr d_X1_giveAsTheyCome_190 f_X1_45 (tt_8 _ _) (by decide) rfl (rr_8_2 _) ?_
          refine r_iload d_X1_giveAsTheyCome_193 rfl ?_
          refine r_aaldJ d_X1_giveAsTheyCome_195 (tt_22 _ _) (by decide) rfl (by omega) (rr2_22 _ (by omega)) (kk := ?_)
          refine r_iconst d_X1_giveAsTheyCome_196 ?_
          refine r_ialdJ (j := 3) d_X1_giveAsTheyCome_197 (tt2_22 _ _ (by omega)) rfl (by omega) (kk := ?_)
          refine r_imul d_X1_giveAsTheyCome_198 ?_
          refine r_iadd d_X1_giveAsTheyCome_199 ?_
          rw [esum]
          refine r_istore_n d_X1_giveAsTheyCome_200 (by decide) ?_
          refine r_iinc d_X1_giveAsTheyCome_201 rfl (by decide) ?_
          refine r_goto d_X1_giveAsTheyCome_204 ?_
          refine CpL (nxt (m ||| 2 ^ ρ) (or_lt (n := 8) hm hρ8) (fun r hr => ?_)) (by repeat (first | exact trivial | refine ⟨rfl, ?_⟩))
          rw [or_bit, hgn r, hmb r hr, hρ]
          congr 1
          by_cases e : ρ = r
          · simp [e]
          · simp [e]; omega
      have inner : ∀ (k2 b : Nat) (x : Int) (I2 : sI), b + k2 = nr → (∀ a, ¬ a = 78 → I2 a = I1 a) → (∀ j, j ≠ q → I2 78 j = I1 78 j) → I2 78 q = A b → x = wkS σ rd q (A b) → Cp g 1 m_X1_giveAsTheyCome 0 0 Q 79 [(0, vr 77), (1, vr 76), (2, vi (asS σ nr rd ar i)), (3, vi (m : Int)), (4, vi (i : Int)), (5, vi (q : Int)), (6, vi (my : Int)), (7, vi (σ 10 q)), (8, vi x), (9, vi (b : Int))] [] (TT Ls tl) I2 L (RR tl) := by
        intro k2
        induction k2 with
        | zero =>
          intro b x I2 hbk f2 p2 p3 hx
          have hb : b = nr := by omega
          subst hb
          have hnr2 : I2 8 3 = (b : Int) := by rw [f2 8 (by omega)]; exact hnr
          refine r_iload d_X1_giveAsTheyCome_79 rfl ?_
          refine r_aload_n d_X1_giveAsTheyCome_81 rfl ?_
          refine r_getr d_X1_giveAsTheyCome_82 f_X1_15 (tt_77 _ _) (by decide) rfl (rr_77_0 _) ?_
          refine r_geti d_X1_giveAsTheyCome_85 f_X1_35 (tt_8 _ _) (by decide) (by decide) ?_
          refine r_icmp_ge d_X1_giveAsTheyCome_88 (by omega) (by omega) (fun c88 => ?_) (fun c88 => absurd c88 (by omega))
          exact CpL (tail I2 f2 p2 p3) (by repeat (first | exact trivial | refine ⟨rfl, ?_⟩ | refine ⟨by rw [hx]; rfl, ?_⟩))
        | succ k2 ih2 =>
          intro b x I2 hbk f2 p2 p3 hx
          have hb : b < nr := by omega
          have hnr2 : I2 8 3 = (nr : Int) := by rw [f2 8 (by omega)]; exact hnr
          obtain ⟨r1, r2, r3⟩ := hrd b hb
          have e76 : I2 76 b = rd b := by rw [f2 76 (by omega), f 76 (by omega)]; exact r1
          have et : sand (sshr (my : Int) (b : Int)) 1 = if my.testBit b then 1 else 0 := bit_tst (by omega) (by omega)
          have ebd := amin_rng (fun r => fitS σ r q && !gvS σ nr rd ar i r && decide (rd r ≠ -1)) (fun r => wtR (rd r) (σ 10 q)) b
          rw [← hA] at ebd
          have hwb : ∀ y, -1 ≤ y ∧ y ≤ 44 → 0 ≤ wtR y (σ 10 q) ∧ wtR y (σ 10 q) ≤ 44 := fun y hy => by unfold wtR; split <;> omega
          have hxb : 0 ≤ x ∧ x ≤ 44 := by
            rw [hx]; unfold wkS
            split
            · omega
            · next h =>
              have := hrd (A b).toNat (by omega)
              exact hwb _ ⟨this.2.1, this.2.2⟩
          have ew : (if 0 < I2 76 b - σ 10 q then I2 76 b - σ 10 q else 0) = wtR (rd b) (σ 10 q) := by rw [e76]; rfl
          have ewb := hwb (rd b) ⟨r2, r3⟩
          have skp : A (b + 1) = A b → x = wkS σ rd q (A (b + 1)) := fun h => by rw [h]; exact hx
          have hmb2 := hmyb b hb
          refine r_iload d_X1_giveAsTheyCome_79 rfl ?_
          refine r_aload_n d_X1_giveAsTheyCome_81 rfl ?_
          refine r_getr d_X1_giveAsTheyCome_82 f_X1_15 (tt_77 _ _) (by decide) rfl (rr_77_0 _) ?_
          refine r_geti d_X1_giveAsTheyCome_85 f_X1_35 (tt_8 _ _) (by decide) (by decide) ?_
          refine r_icmp_ge d_X1_giveAsTheyCome_88 (by omega) (by omega) (fun c88 => absurd c88 (by omega)) (fun c88 => ?_)
          refine r_iload d_X1_giveAsTheyCome_91 rfl ?_
          refine r_iload d_X1_giveAsTheyCome_93 rfl ?_
          refine r_ishr d_X1_giveAsTheyCome_95 ?_
          refine r_iconst d_X1_giveAsTheyCome_96 ?_
          refine r_iand d_X1_giveAsTheyCome_97 ?_
          refine r_iconst d_X1_giveAsTheyCome_98 ?_
          refine r_icmp_ne d_X1_giveAsTheyCome_99 (by rw [et]; split <;> omega) (by omega) (fun c99 => ?_) (fun c99 => ?_)
          · have hA1 : A (b + 1) = A b := by
              rw [hA]
              refine amin_no (Or.inl ?_)
              have : my.testBit b = false := by
                cases h : my.testBit b with
                | false => rfl
                | true => rw [et, h] at c99; exact absurd rfl c99
              rw [← hmb2, this]; rfl
            refine r_iinc d_X1_giveAsTheyCome_154 rfl (by decide) ?_
            refine r_goto d_X1_giveAsTheyCome_157 ?_
            first
            | exact CpL (ih2 (b + 1) x I2 (by omega) f2 p2 (by rw [hA1]; exact p3) (skp hA1)) (by repeat (first | exact trivial | refine ⟨rfl, ?_⟩))
            | (have hA2 : A (b + 1) = (b : Int) := by rw [hA] at hor ⊢; exact amin_yes hok hor
               refine CpL (ih2 (b + 1) (wtR (rd b) (σ 10 q)) _ (by omega) (fun a ha' => by rw [up2_ne _ _ ha']; exact f2 a ha') (fun j hj => by rw [up2_nj _ _ hj]; exact p2 j hj) (by rw [up2_at, hA2]) ?_) (by repeat (first | exact trivial | refine ⟨rfl, ?_⟩))
               rw [hA2]; unfold wkS
               rw [if_neg (by omega), Int.toNat_natCast])
          · have htb : my.testBit b = true := by
              cases h : my.testBit b with
              | true => rfl
              | false => rw [et, h] at c99; exact absurd c99 (by decide)
            refine r_aload_n d_X1_giveAsTheyCome_102 rfl ?_
            refine r_iload d_X1_giveAsTheyCome_103 rfl ?_
            refine r_ialdJ d_X1_giveAsTheyCome_105 (tt_76 _ _) rfl (by omega) (kk := ?_)
            refine r_iconst d_X1_giveAsTheyCome_106 ?_
            refine r_icmp_eq d_X1_giveAsTheyCome_107 (by omega) (by omega) (fun c107 => ?_) (fun c107 => ?_)
            · have hA1 : A (b + 1) = A b := by
                rw [hA]
                refine amin_no (Or.inl ?_)
                simp; intro _ _; omega
              refine r_iinc d_X1_giveAsTheyCome_154 rfl (by decide) ?_
              refine r_goto d_X1_giveAsTheyCome_157 ?_
              first
              | exact CpL (ih2 (b + 1) x I2 (by omega) f2 p2 (by rw [hA1]; exact p3) (skp hA1)) (by repeat (first | exact trivial | refine ⟨rfl, ?_⟩))
              | (have hA2 : A (b + 1) = (b : Int) := by rw [hA] at hor ⊢; exact amin_yes hok hor
                 refine CpL (ih2 (b + 1) (wtR (rd b) (σ 10 q)) _ (by omega) (fun a ha' => by rw [up2_ne _ _ ha']; exact f2 a ha') (fun j hj => by rw [up2_nj _ _ hj]; exact p2 j hj) (by rw [up2_at, hA2]) ?_) (by repeat (first | exact trivial | refine ⟨rfl, ?_⟩))
                 rw [hA2]; unfold wkS
                 rw [if_neg (by omega), Int.toNat_natCast])
            · have hok : (fitS σ b q && !gvS σ nr rd ar i b && decide (rd b ≠ -1)) = true := by
                rw [← hmb2, htb]; simp; omega
              refine r_iconst d_X1_giveAsTheyCome_110 ?_
              refine r_aload_n d_X1_giveAsTheyCome_111 rfl ?_
              refine r_iload d_X1_giveAsTheyCome_112 rfl ?_
              refine r_ialdJ d_X1_giveAsTheyCome_114 (tt_76 _ _) rfl (by omega) (kk := ?_)
              refine r_iload d_X1_giveAsTheyCome_115 rfl ?_
              refine r_isub d_X1_giveAsTheyCome_117 ?_
              refine r_mmax d_X1_giveAsTheyCome_118 (w_X1_49 _ rfl) (by decide) (Nat.le_of_ble_eq_true rfl) (by omega) (by omega) ?_
              rw [ew]
              refine r_istore d_X1_giveAsTheyCome_121 (by decide) ?_
              refine r_aload_n d_X1_giveAsTheyCome_123 rfl ?_
              refine r_getr d_X1_giveAsTheyCome_124 f_X1_9 (tt_77 _ _) (by decide) rfl (rr_77_2 _) ?_
              refine r_iload d_X1_giveAsTheyCome_127 rfl ?_
              refine r_ialdJ d_X1_giveAsTheyCome_129 (tt_78 _ _) rfl (by omega) (kk := ?_)
              refine r_iconst d_X1_giveAsTheyCome_130 ?_
              refine r_icmp_eq d_X1_giveAsTheyCome_131 (by omega) (by omega) (fun c131 => ?_) (fun c131 => ?_)
              · have hor : A b = -1 ∨ wtR (rd b) (σ 10 q) < wtR (rd (A b).toNat) (σ 10 q) := Or.inl (by omega)
                refine r_aload_n d_X1_giveAsTheyCome_141 rfl ?_
                refine r_getr d_X1_giveAsTheyCome_142 f_X1_9 (tt_77 _ _) (by decide) rfl (rr_77_2 _) ?_
                refine r_iload d_X1_giveAsTheyCome_145 rfl ?_
                refine r_iload d_X1_giveAsTheyCome_147 rfl ?_
                refine r_iastJ d_X1_giveAsTheyCome_149 (tt_78 _ _) (by omega) rfl (by omega) (kk := ?_)
                refine r_iload d_X1_giveAsTheyCome_150 rfl ?_
                refine r_istore d_X1_giveAsTheyCome_152 (by decide) ?_
                refine r_iinc d_X1_giveAsTheyCome_154 rfl (by decide) ?_
                refine r_goto d_X1_giveAsTheyCome_157 ?_
                first
                | exact CpL (ih2 (b + 1) x I2 (by omega) f2 p2 (by rw [hA1]; exact p3) (skp hA1)) (by repeat (first | exact trivial | refine ⟨rfl, ?_⟩))
                | (have hA2 : A (b + 1) = (b : Int) := by rw [hA] at hor ⊢; exact amin_yes hok hor
                   refine CpL (ih2 (b + 1) (wtR (rd b) (σ 10 q)) _ (by omega) (fun a ha' => by rw [up2_ne _ _ ha']; exact f2 a ha') (fun j hj => by rw [up2_nj _ _ hj]; exact p2 j hj) (by rw [up2_at, hA2]) ?_) (by repeat (first | exact trivial | refine ⟨rfl, ?_⟩))
                   rw [hA2]; unfold wkS
                   rw [if_neg (by omega), Int.toNat_natCast])
              · have hne : A b ≠ -1 := by omega
                have hxe : x = wtR (rd (A b).toNat) (σ 10 q) := by rw [hx]; unfold wkS; rw [if_neg hne]
                refine r_iload d_X1_giveAsTheyCome_134 rfl ?_
                refine r_iload d_X1_giveAsTheyCome_136 rfl ?_
                refine r_icmp_ge d_X1_giveAsTheyCome_138 (by omega) (by omega) (fun c138 => ?_) (fun c138 => ?_)
                · have hA1 : A (b + 1) = A b := by
                    rw [hA]
                    rw [hA] at hne hxe
                    exact amin_no (Or.inr ⟨hne, by omega⟩)
                  refine r_iinc d_X1_giveAsTheyCome_154 rfl (by decide) ?_
                  refine r_goto d_X1_giveAsTheyCome_157 ?_
                  first
                  | exact CpL (ih2 (b + 1) x I2 (by omega) f2 p2 (by rw [hA1]; exact p3) (skp hA1)) (by repeat (first | exact trivial | refine ⟨rfl, ?_⟩))
                  | (have hA2 : A (b + 1) = (b : Int) := by rw [hA] at hor ⊢; exact amin_yes hok hor
                     refine CpL (ih2 (b + 1) (wtR (rd b) (σ 10 q)) _ (by omega) (fun a ha' => by rw [up2_ne _ _ ha']; exact f2 a ha') (fun j hj => by rw [up2_nj _ _ hj]; exact p2 j hj) (by rw [up2_at, hA2]) ?_) (by repeat (first | exact trivial | refine ⟨rfl, ?_⟩))
                     rw [hA2]; unfold wkS
                     rw [if_neg (by omega), Int.toNat_natCast])
                · have hor : A b = -1 ∨ wtR (rd b) (σ 10 q) < wtR (rd (A b).toNat) (σ 10 q) := Or.inr (by omega)
                  refine r_aload_n d_X1_giveAsTheyCome_141 rfl ?_
                  refine r_getr d_X1_giveAsTheyCome_142 f_X1_9 (tt_77 _ _) (by decide) rfl (rr_77_2 _) ?_
                  refine r_iload d_X1_giveAsTheyCome_145 rfl ?_
                  refine r_iload d_X1_giveAsTheyCome_147 rfl ?_
                  refine r_iastJ d_X1_giveAsTheyCome_149 (tt_78 _ _) (by omega) rfl (by omega) (kk := ?_)
                  refine r_iload d_X1_giveAsTheyCome_150 rfl ?_
                  refine r_istore d_X1_giveAsTheyCome_152 (by decide) ?_
                  refine r_iinc d_X1_giveAsTheyCome_154 rfl (by decide) ?_
                  refine r_goto d_X1_giveAsTheyCome_157 ?_
                  first
                  | exact CpL (ih2 (b + 1) x I2 (by omega) f2 p2 (by rw [hA1]; exact p3) (skp hA1)) (by repeat (first | exact trivial | refine ⟨rfl, ?_⟩))
                  | (have hA2 : A (b + 1) = (b : Int) := by rw [hA] at hor ⊢; exact amin_yes hok hor
                     refine CpL (ih2 (b + 1) (wtR (rd b) (σ 10 q)) _ (by omega) (fun a ha' => by rw [up2_ne _ _ ha']; exact f2 a ha') (fun j hj => by rw [up2_nj _ _ hj]; exact p2 j hj) (by rw [up2_at, hA2]) ?_) (by repeat (first | exact trivial | refine ⟨rfl, ?_⟩))
                     rw [hA2]; unfold wkS
                     rw [if_neg (by omega), Int.toNat_natCast])
      refine r_iload d_X1_giveAsTheyCome_7 rfl ?_
      refine r_aload_n d_X1_giveAsTheyCome_9 rfl ?_
      refine r_getr d_X1_giveAsTheyCome_10 f_X1_15 (tt_77 _ _) (by decide) rfl (rr_77_0 _) ?_
      refine r_geti d_X1_giveAsTheyCome_13 f_X1_55 (tt_8 _ _) (by decide) (by decide) ?_
      refine r_icmp_ge d_X1_giveAsTheyCome_16 (by omega) (by omega) (fun c16 => absurd c16 (by omega)) (fun c16 => ?_)
      refine r_aload_n d_X1_giveAsTheyCome_19 rfl ?_
      refine r_getr d_X1_giveAsTheyCome_20 f_X1_15 (tt_77 _ _) (by decide) rfl (rr_77_0 _) ?_
      refine r_getr d_X1_giveAsTheyCome_23 f_X1_58 (tt_8 _ _) (by decide) rfl (rr_8_9 _) ?_
      refine r_iload d_X1_giveAsTheyCome_26 rfl ?_
      refine r_ialdJ d_X1_giveAsTheyCome_28 (tt_33 _ _) rfl (by omega) (kk := ?_)
      refine r_istore d_X1_giveAsTheyCome_29 (by decide) ?_
      refine r_aload_n d_X1_giveAsTheyCome_31 rfl ?_
      refine r_getr d_X1_giveAsTheyCome_32 f_X1_15 (tt_77 _ _) (by decide) rfl (rr_77_0 _) ?_
      refine r_getr d_X1_giveAsTheyCome_35 f_X1_61 (tt_8 _ _) (by decide) rfl (rr_8_8 _) ?_
      refine r_iload d_X1_giveAsTheyCome_38 rfl ?_
      refine r_ialdJ (j := q) d_X1_giveAsTheyCome_40 (tt_32 _ _) (by omega) (by omega) (kk := ?_)
      refine r_iload_n d_X1_giveAsTheyCome_41 rfl ?_
      refine r_iconst d_X1_giveAsTheyCome_42 ?_
      refine r_ixor d_X1_giveAsTheyCome_43 ?_
      refine r_iand d_X1_giveAsTheyCome_44 ?_
      rw [emy]
      refine r_istore d_X1_giveAsTheyCome_45 (by decide) ?_
      refine r_aload_n d_X1_giveAsTheyCome_47 rfl ?_
      refine r_getr d_X1_giveAsTheyCome_48 f_X1_15 (tt_77 _ _) (by decide) rfl (rr_77_0 _) ?_
      refine r_getr d_X1_giveAsTheyCome_51 f_X1_45 (tt_8 _ _) (by decide) rfl (rr_8_2 _) ?_
      refine r_iload d_X1_giveAsTheyCome_54 rfl ?_
      refine r_aaldJ (j := q) d_X1_giveAsTheyCome_56 (tt_22 _ _) (by decide) (by omega) (by omega) (rr2_22 _ (by omega)) (kk := ?_)
      refine r_iconst d_X1_giveAsTheyCome_57 ?_
      refine r_ialdJ (j := 0) d_X1_giveAsTheyCome_58 (tt2_22 _ _ (by omega)) rfl (by omega) (kk := ?_)
      rw [e10]
      refine r_istore d_X1_giveAsTheyCome_59 (by decide) ?_
      refine r_bipush d_X1_giveAsTheyCome_61 (by decide) ?_
      refine r_iload d_X1_giveAsTheyCome_63 rfl ?_
      refine r_isub d_X1_giveAsTheyCome_65 ?_
      refine r_istore d_X1_giveAsTheyCome_66 (by decide) ?_
      refine r_aload_n d_X1_giveAsTheyCome_68 rfl ?_
      refine r_getr d_X1_giveAsTheyCome_69 f_X1_9 (tt_77 _ _) (by decide) rfl (rr_77_2 _) ?_
      refine r_iload d_X1_giveAsTheyCome_72 rfl ?_
      refine r_iconst d_X1_giveAsTheyCome_74 ?_
      refine r_iastJ (j := q) d_X1_giveAsTheyCome_75 (tt_78 _ _) (by omega) (by omega) (by omega) (kk := ?_)
      refine r_iconst d_X1_giveAsTheyCome_76 ?_
      refine r_istore d_X1_giveAsTheyCome_77 (by decide) ?_
      refine CpL (inner nr 0 (44 - σ 10 q) _ (by omega) (fun a ha' => up2_ne _ _ ha') (fun j hj => up2_nj _ _ hj) (by rw [up2_at, hA]; rfl) (by rw [hA]; rfl)) (by repeat (first | exact trivial | refine ⟨rfl, ?_⟩ | refine ⟨by rw [e33]; rfl, ?_⟩))
  refine r_iconst d_X1_giveAsTheyCome_0 ?_
  refine r_istore_n d_X1_giveAsTheyCome_1 (by decide) ?_
  refine r_iconst d_X1_giveAsTheyCome_2 ?_
  refine r_istore_n d_X1_giveAsTheyCome_3 (by decide) ?_
  refine r_iconst d_X1_giveAsTheyCome_4 ?_
  refine r_istore d_X1_giveAsTheyCome_5 (by decide) ?_
  exact CpL (outer ng 0 0 I (by omega) (by omega) (fun r hr => by rw [Nat.zero_testBit]; rfl) (fun _ _ => rfl) (fun j hj => absurd hj (by omega))) (by repeat (first | exact trivial | refine ⟨rfl, ?_⟩))
theorem c_waitOf (hV : HV σ nr nw ng) (hX : HX 8 σ nr nw ng I) {q : Nat} (hq : q < ng) (hr : I 78 q = -1 ∨ ∃ ρ : Nat, I 78 q = (ρ : Int) ∧ ρ < nr) (hrd : ∀ r, r < nr → I 76 r = rd r ∧ -1 ≤ rd r ∧ rd r ≤ 44) : Mc g 1 m_X1_waitOf 0 0 [vr 77, vr 76, vi (q : Int)] (TT Ls tl) I L (RR tl) (qI fun z T' I' L' R' => z = wkS σ rd q (I 78 q) ∧ same (TT Ls tl) I L (RR tl) T' I' L' R') := by
  refine Mc_of rfl (Nat.le_of_ble_eq_true rfl) ?_
  obtain ⟨v1, v2, v3, v4, v5, v6, v7⟩ := id hV
  have hgv := v6 q hq
  unfold GV at hgv
  have hnr : I 8 3 = (nr : Int) := hX.1
  have e10 : I (23 + q) 0 = σ 10 q := HXg hX hq (by omega)
  rcases hr with h | ⟨ρ, h, h2⟩
  · skip
    refine r_aload_n d_X1_waitOf_0 rfl ?_
    refine r_getr d_X1_waitOf_1 f_X1_9 (tt_77 _ _) (by decide) rfl (rr_77_2 _) ?_
    refine r_iload_n d_X1_waitOf_4 rfl ?_
    refine r_ialdJ d_X1_waitOf_5 (tt_78 _ _) rfl (by omega) (kk := ?_)
    refine r_istore_n d_X1_waitOf_6 (by decide) ?_
    refine r_iload_n d_X1_waitOf_7 rfl ?_
    refine r_aload_n d_X1_waitOf_8 rfl ?_
    refine r_getr d_X1_waitOf_9 f_X1_15 (tt_77 _ _) (by decide) rfl (rr_77_0 _) ?_
    refine r_geti d_X1_waitOf_12 f_X1_35 (tt_8 _ _) (by decide) (by decide) ?_
    refine r_SN2i d_X1_waitOf_15 (w_X1_41 _ rfl) (c_isBelow (by omega) (by omega)) (by decide) (Nat.le_of_ble_eq_true rfl) (fun z15 T15 I15 L15 R15 h15 => ?_)
    obtain ⟨rfl, rfl, rfl, rfl, rfl⟩ := h15
    refine r_if_eq d_X1_waitOf_18 (by split <;> omega) (fun c18 => ?_) (fun c18 => absurd c18 (by rw [if_neg (by omega)]; decide))
    refine r_bipush d_X1_waitOf_27 (by decide) ?_
    refine r_istore d_X1_waitOf_29 (by decide) ?_
    refine r_iconst d_X1_waitOf_31 ?_
    refine r_iload d_X1_waitOf_32 rfl ?_
    refine r_aload_n d_X1_waitOf_34 rfl ?_
    refine r_getr d_X1_waitOf_35 f_X1_15 (tt_77 _ _) (by decide) rfl (rr_77_0 _) ?_
    refine r_getr d_X1_waitOf_38 f_X1_45 (tt_8 _ _) (by decide) rfl (rr_8_2 _) ?_
    refine r_iload_n d_X1_waitOf_41 rfl ?_
    refine r_aaldJ d_X1_waitOf_42 (tt_22 _ _) (by decide) rfl (by omega) (rr2_22 _ (by omega)) (kk := ?_)
    refine r_iconst d_X1_waitOf_43 ?_
    refine r_ialdJ (j := 0) d_X1_waitOf_44 (tt2_22 _ _ (by omega)) rfl (by omega) (kk := ?_)
    refine r_isub d_X1_waitOf_45 ?_
    refine r_mmax d_X1_waitOf_46 (w_X1_49 _ rfl) (by decide) (Nat.le_of_ble_eq_true rfl) (by omega) (by omega) ?_
    refine r_iret d_X1_waitOf_49 rfl ?_
    refine ⟨_, rfl, ?_, same_rf⟩
    unfold wkS
    rw [if_pos h, e10]
    split <;> omega
  · obtain ⟨r1, r2, r3⟩ := hrd ρ h2
    have ek : wkS σ rd q (I 78 q) = wtR (rd ρ) (σ 10 q) := by unfold wkS; rw [if_neg (show ¬ I 78 q = -1 by omega), h, Int.toNat_natCast]
    refine r_aload_n d_X1_waitOf_0 rfl ?_
    refine r_getr d_X1_waitOf_1 f_X1_9 (tt_77 _ _) (by decide) rfl (rr_77_2 _) ?_
    refine r_iload_n d_X1_waitOf_4 rfl ?_
    refine r_ialdJ d_X1_waitOf_5 (tt_78 _ _) rfl (by omega) (kk := ?_)
    refine r_istore_n d_X1_waitOf_6 (by decide) ?_
    refine r_iload_n d_X1_waitOf_7 rfl ?_
    refine r_aload_n d_X1_waitOf_8 rfl ?_
    refine r_getr d_X1_waitOf_9 f_X1_15 (tt_77 _ _) (by decide) rfl (rr_77_0 _) ?_
    refine r_geti d_X1_waitOf_12 f_X1_35 (tt_8 _ _) (by decide) (by decide) ?_
    refine r_SN2i d_X1_waitOf_15 (w_X1_41 _ rfl) (c_isBelow (by omega) (by omega)) (by decide) (Nat.le_of_ble_eq_true rfl) (fun z15 T15 I15 L15 R15 h15 => ?_)
    obtain ⟨rfl, rfl, rfl, rfl, rfl⟩ := h15
    refine r_if_eq d_X1_waitOf_18 (by split <;> omega) (fun c18 => absurd c18 (by rw [if_pos (by omega)]; decide)) (fun c18 => ?_)
    refine r_aload_n d_X1_waitOf_21 rfl ?_
    refine r_iload_n d_X1_waitOf_22 rfl ?_
    refine r_ialdJ (j := ρ) d_X1_waitOf_23 (tt_76 _ _) (by omega) (by omega) (kk := ?_)
    refine r_goto d_X1_waitOf_24 ?_
    refine r_istore d_X1_waitOf_29 (by decide) ?_
    refine r_iconst d_X1_waitOf_31 ?_
    refine r_iload d_X1_waitOf_32 rfl ?_
    refine r_aload_n d_X1_waitOf_34 rfl ?_
    refine r_getr d_X1_waitOf_35 f_X1_15 (tt_77 _ _) (by decide) rfl (rr_77_0 _) ?_
    refine r_getr d_X1_waitOf_38 f_X1_45 (tt_8 _ _) (by decide) rfl (rr_8_2 _) ?_
    refine r_iload_n d_X1_waitOf_41 rfl ?_
    refine r_aaldJ d_X1_waitOf_42 (tt_22 _ _) (by decide) rfl (by omega) (rr2_22 _ (by omega)) (kk := ?_)
    refine r_iconst d_X1_waitOf_43 ?_
    refine r_ialdJ (j := 0) d_X1_waitOf_44 (tt2_22 _ _ (by omega)) rfl (by omega) (kk := ?_)
    refine r_isub d_X1_waitOf_45 ?_
    refine r_mmax d_X1_waitOf_46 (w_X1_49 _ rfl) (by decide) (Nat.le_of_ble_eq_true rfl) (by omega) (by omega) ?_
    refine r_iret d_X1_waitOf_49 rfl ?_
    refine ⟨_, rfl, ?_, same_rf⟩
    rw [ek, e10, r1]
    rfl
end C35
