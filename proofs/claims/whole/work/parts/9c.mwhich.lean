/-! answers that are counted: the reference -/
def FQ (I I' : sI) : Prop := (∀ a, a ≠ 139 → (a < 147 ∨ (150 ≤ a ∧ a < 173) ∨ 186 ≤ a) → I' a = I a) ∧ (∀ k, (k < 55 ∨ (56 < k ∧ k < 66) ∨ 70 < k) → k ≠ 25 → I' 139 k = I 139 k)
theorem FQ_rf {I : sI} : FQ I I := ⟨fun _ _ _ => rfl, fun _ _ _ => rfl⟩
theorem FQ_tr {I J K : sI} (h : FQ I J) (k : FQ J K) : FQ I K := ⟨fun a h1 h2 => (k.1 a h1 h2).trans (h.1 a h1 h2), fun x hx hy => (k.2 x hx hy).trans (h.2 x hx hy)⟩
theorem FP_FQ {I I' : sI} (h : FP I I') : FQ I I' := ⟨fun a h1 h2 => h.1 a h1 (by omega), fun k hk _ => h.2 k hk⟩
def AKM (σ : Sg) (ℓ : Int) (nr nw ng : Nat) (Ls : Nat) (tl : List Nat) (ukd unn : Nat → Int) (utr utw : Nat → Nat → Nat) (I L : sI) (A : Int → Int → Prop) : sQ := qI fun z T' I' L' R' => T' = TT Ls tl ∧ R' = RR tl ∧ L' = L ∧ FQ I I' ∧ MS σ ℓ nr nw ng tl ukd unn utr utw I' ∧ A z (I' 139 25)
theorem CWX_ex {σ : Sg} {ℓ ab : Int} {nr nW ng : Nat} {kd nn : Nat → Int} {tr tw : Nat → Nat → Nat} {tn : Nat → Nat} {how : Int} (hS : SV σ ℓ nr nW) (hg8 : ng ≤ 8) (hg : ∀ q, q < ng → GV σ q) : ∃ S : Nat → Int, ∀ i z, CW σ ℓ ab nr nW ng (kd i) (nn i) (tr i) (tw i) (tn i) how z → z = S i := by
  have h : ∀ i : Nat, ∃ c : Int, ∀ z, CW σ ℓ ab nr nW ng (kd i) (nn i) (tr i) (tw i) (tn i) how z → z = c := fun i => by
    by_cases hx : ∃ z, CW σ ℓ ab nr nW ng (kd i) (nn i) (tr i) (tw i) (tn i) how z
    · obtain ⟨c, hc⟩ := hx
      exact ⟨c, fun z hz => CW_uq hS hg8 hg hz hc⟩
    · exact ⟨0, fun z hz => absurd ⟨z, hz⟩ hx⟩
  exact Classical.axiomOfChoice h
section X9c
variable {g : sG} {Ls : Nat} {T : sT} {R : sR} {I L : sI} {σ δ : Sg} {ℓ ab : Int} {nr nw nW ng : Nat} {tl : List Nat} {ukd unn : Nat → Int} {utr utw : Nat → Nat → Nat}
theorem AKM_no {A : Int → Int → Prop} (hM : MS σ ℓ nr nw ng tl ukd unn utr utw I) {z q : Int} (hq : I 139 25 = q) (h : A z q) : AKM σ ℓ nr nw ng Ls tl ukd unn utr utw I L A (some (vi z)) (TT Ls tl) I L (RR tl) := ⟨_, rfl, rfl, rfl, rfl, FQ_rf, hM, by rw [hq]; exact h⟩
theorem MS_ask (hM : MS σ ℓ nr nw ng tl ukd unn utr utw I) {v : Int} : MS σ ℓ nr nw ng tl ukd unn utr utw (up2 I 139 25 v) ∧ FQ I (up2 I 139 25 v) := by
  obtain ⟨hV, h3, hcan, hA, hX, hl, hw, hN, hR⟩ := id hM
  have fa : ∀ a, a ≠ 139 → up2 I 139 25 v a = I a := fun a h => by rw [up2_ne _ _ h]
  have fk : ∀ k, k ≠ 25 → up2 I 139 25 v 139 k = I 139 k := fun k h1 => by rw [up2_nj _ _ h1]
  refine ⟨⟨hV, h3, hcan, hA, MX_fr hX (fun a h1 _ => fa a (by omega)) (fk 0 (by decide)) (fk 12 (by decide)), by rw [fk 17 (by decide)]; exact hl, by rw [fk 8 (by decide)]; exact hw, KNM_fr hN (fa 173 (by decide)) (fa 183 (by decide)), ?_⟩, ⟨fun a h _ => fa a h, fun k _ hk => fk k hk⟩⟩
  obtain ⟨r1, r2, r3⟩ := hR
  refine ⟨by rw [fk 19 (by decide)]; exact r1, r2, fun q hq => ?_⟩
  rw [fa 154 (by decide), fa 155 (by decide), fa 156 (by decide)]
  exact r3 q hq
theorem x_which (hM : MS σ ℓ nr nw ng tl ukd unn utr utw I) {how q : Int} (hh : i32 how) (hq : I 139 25 = q) (hq2 : 0 ≤ q ∧ q ≤ 16) : Mc g 12 m_X8_which 0 0 [vr 139, vi how] (TT Ls tl) I L (RR tl) (AKM σ ℓ nr nw ng Ls tl ukd unn utr utw I L (aWhich σ ℓ nr nw ng tl ukd unn utr utw how q)) := by
  refine Mc_of rfl (Nat.le_of_ble_eq_true rfl) ?_
  obtain ⟨hV, h3, hcan, hA, hX, hl, hwm, hN, hR⟩ := id hM
  have hh2 : -2147483648 ≤ how ∧ how ≤ 2147483647 := hh
  have e0 := hX.1
  have s1 := hV.1.1
  have hgi := x_isGiving (g := g) (T := TT Ls tl) (I := I) (L := L) (R := RR tl) hh2
  have ref : ∀ z : Int, whF nr how q = z → z ≠ 0 → AKM σ ℓ nr nw ng Ls tl ukd unn utr utw I L (aWhich σ ℓ nr nw ng tl ukd unn utr utw how q) (some (vi z)) (TT Ls tl) I L (RR tl) := fun z h1 h2 => AKM_no hM hq ⟨fun _ => ⟨h1.symm, rfl⟩, fun h => absurd (h1.symm.trans h) h2⟩
  by_cases c1 : 0 < nr
  · by_cases c2 : how = 0 ∨ how = 1
    · rw [if_pos c2] at hgi
      by_cases c3 : q < 16
      · have ez : whF nr how q = 0 := by unfold whF; rw [if_pos c1, if_pos c2, if_pos c3]
        obtain ⟨a1, a2⟩ := MS_ask hM (v := I 139 25 + 1)
        obtain ⟨m1, m2⟩ := MS_all a1
        obtain ⟨I0, hI0⟩ : ∃ I0 : sI, I0 = up2 (up2 (up2 I 139 25 (I 139 25 + 1)) 139 56 (up2 I 139 25 (I 139 25 + 1) 139 8)) 139 55 (-1) := ⟨_, rfl⟩
        rw [← hI0] at m1 m2
        have f0 : FQ I I0 := FQ_tr a2 (FP_FQ m2)
        have e25 : I0 139 25 = q + 1 := by rw [m2.2 25 (by omega), up2_at, hq]
        obtain ⟨S, hS⟩ := CWX_ex (ab := -1) (kd := ukd) (nn := unn) (tr := utr) (tw := utw) (tn := fun i => tl.getD i 0) (how := how) hV.1 hV.2.1 hV.2.2.1
        obtain ⟨Q, hQ⟩ : ∃ Q : sQ, Q = AKM σ ℓ nr nw ng Ls tl ukd unn utr utw I L (aWhich σ ℓ nr nw ng tl ukd unn utr utw how q) := ⟨_, rfl⟩
        rw [← hQ]
        have loop : ∀ (k i : Nat) (I1 : sI), i + k = tl.length → FM I0 I1 → KNM σ ℓ (-1) nr nw ng I1 → (∀ j, j < i → CW σ ℓ (-1) nr nw ng (ukd j) (unn j) (utr j) (utw j) (tl.getD j 0) how (S j)) → (-1 ≤ (whX S i).2 ∧ (whX S i).2 ≤ 32000000) → Cp g 12 m_X8_which 0 0 Q 53 [(0, vr 139), (1, vi how), (2, vi (whX S i).1), (3, vi (whX S i).2), (4, vi (i : Int))] [] (TT Ls tl) I1 L (RR tl) := by
          intro k
          induction k with
          | zero =>
            intro i I1 hk f hN1 hd hb
            have er : I1 139 19 = (tl.length : Int) := by rw [f.2 19 (by omega)]; exact m1.2.2.2.2.2.2.2.1
            have hr8 := hR.2.1
            have ei : i = tl.length := by omega
            have wr := wh_rg (S := S) i
            refine r_iload d_X8_which_53 rfl ?_
            refine r_aload_n d_X8_which_55 rfl ?_
            refine r_geti d_X8_which_56 f_X8_247 (tt_139 _ _) (by decide) (by decide) ?_
            refine r_icmp_ge d_X8_which_59 (by omega) (by omega) (fun c59 => ?_) (fun c59 => absurd c59 (by omega))
            refine r_iload_n d_X8_which_119 rfl ?_
            refine r_iret d_X8_which_120 rfl ?_
            rw [hQ]
            refine ⟨_, rfl, rfl, rfl, rfl, FQ_tr f0 (FP_FQ (FM_FP f)), MS_fp a1 (FP_tr m2 (FM_FP f)) hN1, ?_⟩
            rw [f.2 25 (by omega), e25]
            refine ⟨fun h => absurd ez h, fun _ => ⟨rfl, S, fun j hj => hd j (by omega), by rw [ei]⟩⟩
          | succ k ih =>
            intro i I1 hk f hN1 hd hb
            have er : I1 139 19 = (tl.length : Int) := by rw [f.2 19 (by omega)]; exact m1.2.2.2.2.2.2.2.1
            have hr8 := hR.2.1
            have wr := wh_rg (S := S) i
            have es : whX S (i + 1) = if (whX S i).1 = -1 ∨ S i < (whX S i).2 then ((i : Int), S i) else whX S i := rfl
            have t71 : ∀ I2 : sI, FM I0 I2 → KNM σ ℓ (-1) nr nw ng I2 → (0 ≤ S i ∧ S i ≤ 32000000) → CW σ ℓ (-1) nr nw ng (ukd i) (unn i) (utr i) (utw i) (tl.getD i 0) how (S i) → Cp g 12 m_X8_which 0 0 Q 71 [(0, vr 139), (1, vi how), (2, vi (whX S i).1), (3, vi (whX S i).2), (4, vi (i : Int)), (5, vi (S i))] [] (TT Ls tl) I2 L (RR tl) := by
              intro I2 f2 hN2 hb2 hcw
              have hd2 : ∀ j, j < i + 1 → CW σ ℓ (-1) nr nw ng (ukd j) (unn j) (utr j) (utw j) (tl.getD j 0) how (S j) := fun j hj => by
                by_cases e : j = i
                · rw [e]; exact hcw
                · exact hd j (by omega)
              by_cases c5 : (whX S i).1 = -1
              · rw [if_pos (Or.inl c5)] at es
                have e1 : (whX S (i + 1)).1 = (i : Int) := by rw [es]
                have e2 : (whX S (i + 1)).2 = S i := by rw [es]
                refine r_iload_n d_X8_which_71 rfl ?_
                refine r_iconst d_X8_which_72 ?_
                refine r_icmp_eq d_X8_which_73 (by omega) (by omega) (fun c73 => ?_) (fun c73 => absurd c73 (by exact fun q => q c5))
                refine r_iconst d_X8_which_82 ?_
                refine r_goto d_X8_which_83 ?_
                refine r_istore d_X8_which_87 (by decide) ?_
                refine r_iload d_X8_which_89 rfl ?_
                refine r_if_eq d_X8_which_91 (by omega) (fun c91 => absurd c91 (by decide)) (fun c91 => ?_)
                refine r_iload d_X8_which_94 rfl ?_
                refine r_goto d_X8_which_96 ?_
                refine r_istore_n d_X8_which_100 (by decide) ?_
                refine r_iload d_X8_which_101 rfl ?_
                refine r_if_eq d_X8_which_103 (by omega) (fun c103 => absurd c103 (by decide)) (fun c103 => ?_)
                refine r_iload d_X8_which_106 rfl ?_
                refine r_goto d_X8_which_108 ?_
                refine r_istore_n d_X8_which_112 (by decide) ?_
                refine r_iinc d_X8_which_113 rfl (by decide) ?_
                refine r_goto d_X8_which_116 ?_
                exact CpL (ih (i + 1) I2 (by omega) f2 hN2 hd2 (by rw [e2]; omega)) (by repeat (first | exact trivial | refine ⟨rfl, ?_⟩ | refine ⟨by rw [e1]; rfl, ?_⟩ | refine ⟨by rw [e2]; rfl, ?_⟩))
              · by_cases c6 : S i < (whX S i).2
                · rw [if_pos (Or.inr c6)] at es
                  have e1 : (whX S (i + 1)).1 = (i : Int) := by rw [es]
                  have e2 : (whX S (i + 1)).2 = S i := by rw [es]
                  refine r_iload_n d_X8_which_71 rfl ?_
                  refine r_iconst d_X8_which_72 ?_
                  refine r_icmp_eq d_X8_which_73 (by omega) (by omega) (fun c73 => absurd c73 (by exact c5)) (fun c73 => ?_)
                  refine r_iload d_X8_which_76 rfl ?_
                  refine r_iload_n d_X8_which_78 rfl ?_
                  refine r_icmp_ge d_X8_which_79 (by omega) (by omega) (fun c79 => absurd c79 (by omega)) (fun c79 => ?_)
                  refine r_iconst d_X8_which_82 ?_
                  refine r_goto d_X8_which_83 ?_
                  refine r_istore d_X8_which_87 (by decide) ?_
                  refine r_iload d_X8_which_89 rfl ?_
                  refine r_if_eq d_X8_which_91 (by omega) (fun c91 => absurd c91 (by decide)) (fun c91 => ?_)
                  refine r_iload d_X8_which_94 rfl ?_
                  refine r_goto d_X8_which_96 ?_
                  refine r_istore_n d_X8_which_100 (by decide) ?_
                  refine r_iload d_X8_which_101 rfl ?_
                  refine r_if_eq d_X8_which_103 (by omega) (fun c103 => absurd c103 (by decide)) (fun c103 => ?_)
                  refine r_iload d_X8_which_106 rfl ?_
                  refine r_goto d_X8_which_108 ?_
                  refine r_istore_n d_X8_which_112 (by decide) ?_
                  refine r_iinc d_X8_which_113 rfl (by decide) ?_
                  refine r_goto d_X8_which_116 ?_
                  exact CpL (ih (i + 1) I2 (by omega) f2 hN2 hd2 (by rw [e2]; omega)) (by repeat (first | exact trivial | refine ⟨rfl, ?_⟩ | refine ⟨by rw [e1]; rfl, ?_⟩ | refine ⟨by rw [e2]; rfl, ?_⟩))
                · rw [if_neg (fun h => h.elim c5 c6)] at es
                  have e1 : (whX S (i + 1)).1 = (whX S i).1 := by rw [es]
                  have e2 : (whX S (i + 1)).2 = (whX S i).2 := by rw [es]
                  refine r_iload_n d_X8_which_71 rfl ?_
                  refine r_iconst d_X8_which_72 ?_
                  refine r_icmp_eq d_X8_which_73 (by omega) (by omega) (fun c73 => absurd c73 (by exact c5)) (fun c73 => ?_)
                  refine r_iload d_X8_which_76 rfl ?_
                  refine r_iload_n d_X8_which_78 rfl ?_
                  refine r_icmp_ge d_X8_which_79 (by omega) (by omega) (fun c79 => ?_) (fun c79 => absurd c79 (by omega))
                  refine r_iconst d_X8_which_86 ?_
                  refine r_istore d_X8_which_87 (by decide) ?_
                  refine r_iload d_X8_which_89 rfl ?_
                  refine r_if_eq d_X8_which_91 (by omega) (fun c91 => ?_) (fun c91 => absurd c91 (by decide))
                  refine r_iload_n d_X8_which_99 rfl ?_
                  refine r_istore_n d_X8_which_100 (by decide) ?_
                  refine r_iload d_X8_which_101 rfl ?_
                  refine r_if_eq d_X8_which_103 (by omega) (fun c103 => ?_) (fun c103 => absurd c103 (by decide))
                  refine r_iload_n d_X8_which_111 rfl ?_
                  refine r_istore_n d_X8_which_112 (by decide) ?_
                  refine r_iinc d_X8_which_113 rfl (by decide) ?_
                  refine r_goto d_X8_which_116 ?_
                  exact CpL (ih (i + 1) I2 (by omega) f2 hN2 hd2 (by rw [e2]; omega)) (by repeat (first | exact trivial | refine ⟨rfl, ?_⟩ | refine ⟨by rw [e1]; rfl, ?_⟩ | refine ⟨by rw [e2]; rfl, ?_⟩))
            refine r_iload d_X8_which_53 rfl ?_
            refine r_aload_n d_X8_which_55 rfl ?_
            refine r_geti d_X8_which_56 f_X8_247 (tt_139 _ _) (by decide) (by decide) ?_
            refine r_icmp_ge d_X8_which_59 (by omega) (by omega) (fun c59 => absurd c59 (by omega)) (fun c59 => ?_)
            refine r_aload_n d_X8_which_62 rfl ?_
            refine r_iload d_X8_which_63 rfl ?_
            refine r_iload_n d_X8_which_65 rfl ?_
            refine r_V2i d_X8_which_66 (w_X8_412 _ rfl) (tt_139 _ _) rfl rfl (x_sumBy (MB_fm m1 f hN1) (by omega) c1 c2) (by decide) (Nat.le_of_ble_eq_true rfl) (fun z66 T66 I66 L66 R66 h66 => ?_)
            obtain ⟨rfl, rfl, rfl, y1, y2, y3, y4⟩ := h66
            refine r_istore d_X8_which_69 (by decide) ?_
            have hz := hS i z66 y4
            rw [hz] at y3 y4
            exact CpL (t71 I66 (FM_tr f y1) y2 y3 y4) (by repeat (first | exact trivial | refine ⟨rfl, ?_⟩ | refine ⟨by rw [hz]; rfl, ?_⟩))
        refine r_aload_n d_X8_which_0 rfl ?_
        refine r_geti d_X8_which_1 f_X8_232 (tt_139 _ _) (by decide) (by decide) ?_
        refine r_if_ne d_X8_which_4 (by omega) (fun c4 => ?_) (fun c4 => absurd c4 (by omega))
        refine r_iload_n d_X8_which_10 rfl ?_
        refine r_S1i d_X8_which_11 (w_X8_403 _ rfl) (hgi) (by decide) (Nat.le_of_ble_eq_true rfl) (fun z11 T11 I11 L11 R11 h11 => ?_)
        obtain ⟨rfl, rfl, rfl, rfl, rfl⟩ := h11
        refine r_if_ne d_X8_which_14 (by omega) (fun c14 => ?_) (fun c14 => absurd c14 (by decide))
        refine r_aload_n d_X8_which_20 rfl ?_
        refine r_geti d_X8_which_21 f_X8_435 (tt_139 _ _) (by decide) (by decide) ?_
        refine r_bipush d_X8_which_24 (by decide) ?_
        refine r_icmp_ne d_X8_which_26 (by omega) (by omega) (fun c26 => ?_) (fun c26 => absurd c26 (by omega))
        refine r_aload_n d_X8_which_32 rfl ?_
        refine r_dup d_X8_which_33 rfl ?_
        refine r_geti d_X8_which_34 f_X8_435 (tt_139 _ _) (by decide) (by decide) ?_
        refine r_iconst d_X8_which_37 ?_
        refine r_iadd d_X8_which_38 ?_
        refine r_puti d_X8_which_39 f_X8_435 (tt_139 _ _) (by decide) (Or.inl rfl) ?_
        refine r_aload_n d_X8_which_42 rfl ?_
        refine r_V0v d_X8_which_43 (w_X8_400 _ rfl) (tt_139 _ _) rfl rfl (x_allWomen) (by decide) (Nat.le_of_ble_eq_true rfl) (fun T43 I43 L43 R43 h43 => ?_)
        obtain ⟨rfl, rfl, rfl, rfl⟩ := h43
        refine r_iconst d_X8_which_46 ?_
        refine r_istore_n d_X8_which_47 (by decide) ?_
        refine r_iconst d_X8_which_48 ?_
        refine r_istore_n d_X8_which_49 (by decide) ?_
        refine r_iconst d_X8_which_50 ?_
        refine r_istore d_X8_which_51 (by decide) ?_
        rw [← hI0]
        exact CpL (loop _ 0 I0 (Nat.zero_add _) FM_rf m1.2.2.2.2.2.2.1 (fun j hj => absurd hj (by omega)) (by show (-1 : Int) ≤ 0 ∧ (0 : Int) ≤ 32000000; omega)) (by repeat (first | exact trivial | refine ⟨rfl, ?_⟩))
      · skip
        refine r_aload_n d_X8_which_0 rfl ?_
        refine r_geti d_X8_which_1 f_X8_232 (tt_139 _ _) (by decide) (by decide) ?_
        refine r_if_ne d_X8_which_4 (by omega) (fun c4 => ?_) (fun c4 => absurd c4 (by omega))
        refine r_iload_n d_X8_which_10 rfl ?_
        refine r_S1i d_X8_which_11 (w_X8_403 _ rfl) (hgi) (by decide) (Nat.le_of_ble_eq_true rfl) (fun z11 T11 I11 L11 R11 h11 => ?_)
        obtain ⟨rfl, rfl, rfl, rfl, rfl⟩ := h11
        refine r_if_ne d_X8_which_14 (by omega) (fun c14 => ?_) (fun c14 => absurd c14 (by decide))
        refine r_aload_n d_X8_which_20 rfl ?_
        refine r_geti d_X8_which_21 f_X8_435 (tt_139 _ _) (by decide) (by decide) ?_
        refine r_bipush d_X8_which_24 (by decide) ?_
        refine r_icmp_ne d_X8_which_26 (by omega) (by omega) (fun c26 => absurd c26 (by omega)) (fun c26 => ?_)
        refine r_bipush d_X8_which_29 (by decide) ?_
        refine r_iret d_X8_which_31 rfl ?_
        exact ref _ (by unfold whF; rw [if_pos c1, if_pos c2, if_neg c3]) (by decide)
    · rw [if_neg c2] at hgi
      refine r_aload_n d_X8_which_0 rfl ?_
      refine r_geti d_X8_which_1 f_X8_232 (tt_139 _ _) (by decide) (by decide) ?_
      refine r_if_ne d_X8_which_4 (by omega) (fun c4 => ?_) (fun c4 => absurd c4 (by omega))
      refine r_iload_n d_X8_which_10 rfl ?_
      refine r_S1i d_X8_which_11 (w_X8_403 _ rfl) (hgi) (by decide) (Nat.le_of_ble_eq_true rfl) (fun z11 T11 I11 L11 R11 h11 => ?_)
      obtain ⟨rfl, rfl, rfl, rfl, rfl⟩ := h11
      refine r_if_ne d_X8_which_14 (by omega) (fun c14 => absurd c14 (by decide)) (fun c14 => ?_)
      refine r_bipush d_X8_which_17 (by decide) ?_
      refine r_iret d_X8_which_19 rfl ?_
      exact ref _ (by unfold whF; rw [if_pos c1, if_neg c2]) (by decide)
  · skip
    refine r_aload_n d_X8_which_0 rfl ?_
    refine r_geti d_X8_which_1 f_X8_232 (tt_139 _ _) (by decide) (by decide) ?_
    refine r_if_ne d_X8_which_4 (by omega) (fun c4 => absurd c4 (by omega)) (fun c4 => ?_)
    refine r_bipush d_X8_which_7 (by decide) ?_
    refine r_iret d_X8_which_9 rfl ?_
    exact ref _ (by unfold whF; rw [if_neg c1]) (by decide)
end X9c
