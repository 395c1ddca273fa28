/-! the law: its loop, its start -/
def Q1 : sQ := fun v _ _ _ _ => v = some (vi 1)
/-- the law from the head of its loop -/
def LOP (g : sG) (Ls : Nat) (A0 : Nat → Int) (i u : Nat) (pg : Nat → Int) (len mc ms : Nat) : Prop := ∀ (q kept ℓi : Int) (xi : Nat → Int) (σ : Sg) (ℓ : Int) (nr nw ng : Nat) (tl : List Nat) (ukd unn : Nat → Int) (utr utw : Nat → Nat → Nat) (I L : sI), tl.length = u → LW A0 pg len q kept ℓi xi i σ ℓ nr nw ng tl ukd unn utr utw I L → Cp g 14 m_L_law mc ms Q1 18 [(0, vr 0), (1, vr 3), (2, vr 139), (3, vi (i : Int))] [] (TT Ls tl) I L (RR tl)
section L9zb
variable {g : sG} {Ls i u mc ms len : Nat} {A0 pg : Nat → Int} {tl : List Nat} {I L : sI}
theorem kon_of (h : LOP g Ls A0 (i + 6) u pg len mc ms) : KON g Ls A0 Q1 i u pg len mc ms := by
  intro q kept ℓi xi σ ℓ nr nw ng tl ukd unn utr utw I L hu hL
  refine r_iinc d_L_law_1216 rfl (by decide) ?_
  refine r_goto d_L_law_1219 ?_
  exact CpL (h q kept ℓi xi σ ℓ nr nw ng tl ukd unn utr utw I L hu hL) (by repeat (first | exact trivial | refine ⟨rfl, ?_⟩))
theorem law_hd (hi : i + 6 ≤ Ls) (hLs : Ls ≤ 3072) (hI0 : I 0 = A0) (k1 : ∀ v : Nat, v ≤ 30 → sand (A0 i) 31 = (v : Int) → Cp g 14 m_L_law mc ms Q1 ([172, 225, 238, 261, 274, 287, 320, 353, 386, 419, 452, 485, 508, 541, 594, 657, 700, 743, 786, 849, 902, 955, 988, 1031, 1054, 1087, 1130, 1153, 1166, 1179, 1202].getD v 0) [(0, vr 0), (1, vr 3), (2, vr 139), (3, vi (i : Int))] [] (TT Ls tl) I L (RR tl)) (k2 : sand (A0 i) 31 = 31 → Cp g 14 m_L_law mc ms Q1 1216 [(0, vr 0), (1, vr 3), (2, vr 139), (3, vi (i : Int))] [] (TT Ls tl) I L (RR tl)) : Cp g 14 m_L_law mc ms Q1 18 [(0, vr 0), (1, vr 3), (2, vr 139), (3, vi (i : Int))] [] (TT Ls tl) I L (RR tl) := by
  have hs := sand31 (A0 i)
  refine r_iload_n d_L_law_18 rfl ?_
  refine r_aload_n d_L_law_19 rfl ?_
  refine r_alen d_L_law_20 (tt_0 _ _) (by omega) ?_
  refine r_bipush d_L_law_21 (by decide) ?_
  refine r_isub d_L_law_23 ?_
  refine r_icmp_gt d_L_law_24 (by omega) (by omega) (fun c => absurd c (by omega)) (fun _ => ?_)
  refine r_aload_n d_L_law_27 rfl ?_
  refine r_iload_n d_L_law_28 rfl ?_
  refine r_ialdJ (j := i) d_L_law_29 (tt_0 _ _) rfl (by omega) (hn := (by omega)) (kk := ?_)
  rw [hI0]
  refine r_bipush d_L_law_30 (by decide) ?_
  refine r_iand d_L_law_32 ?_
  refine r_sw d_L_law_33 (by omega) (fun h1 h2 => ?_) (fun h => ?_)
  · obtain ⟨v, hv⟩ : ∃ v : Nat, sand (A0 i) 31 = (v : Int) := ⟨(sand (A0 i) 31).toNat, by omega⟩
    rw [show (sand (A0 i) 31 - 0).toNat = v by omega]
    exact k1 v (by omega) hv
  · exact k2 (by omega)
theorem law_ex (hi : Ls < i + 6) (hLs : Ls ≤ 3072) (hib : i ≤ 4000) : Cp g 14 m_L_law 0 0 Q1 18 [(0, vr 0), (1, vr 3), (2, vr 139), (3, vi (i : Int))] [] (TT Ls tl) I L (RR tl) := by
  refine r_iload_n d_L_law_18 rfl ?_
  refine r_aload_n d_L_law_19 rfl ?_
  refine r_alen d_L_law_20 (tt_0 _ _) (by omega) ?_
  refine r_bipush d_L_law_21 (by decide) ?_
  refine r_isub d_L_law_23 ?_
  refine r_icmp_gt d_L_law_24 (by omega) (by omega) (fun _ => ?_) (fun c => absurd c (by omega))
  refine r_iconst d_L_law_1222 ?_
  refine r_zret d_L_law_1223 rfl (by omega) ?_
  rfl
theorem law_loop (hLs : Ls ≤ 3072) (hA0 : ∀ j, i32 (A0 j)) : ∀ (k i u : Nat) (pg : Nat → Int) (len : Nat), Ls < i + 6 + 6 * k → i ≤ 4000 → u ≤ 8 → ∃ mc ms, mc ≤ 3 * (8 - u) ∧ ms ≤ 20 * (8 - u) ∧ LOP g Ls A0 i u pg len mc ms := by
  intro k
  induction k with
  | zero =>
    intro i u pg len hi hib hu
    exact ⟨0, 0, by omega, by omega, fun q kept ℓi xi σ ℓ nr nw ng tl ukd unn utr utw I L _ _ => law_ex (by omega) hLs hib⟩
  | succ k ih =>
    intro i u pg len hi hib hu8
    by_cases hi6 : i + 6 ≤ Ls
    · have hs := sand31 (A0 i)
      obtain ⟨v, hv⟩ : ∃ v : Nat, sand (A0 i) 31 = (v : Int) := ⟨(sand (A0 i) 31).toNat, by omega⟩
      have hv31 : v ≤ 31 := by omega
      have sw : ∀ (mc ms v' : Nat) (hv' : sand (A0 i) 31 = (v' : Int)) (h30 : v' ≤ 30), (∀ (q kept ℓi : Int) (xi : Nat → Int) (σ : Sg) (ℓ : Int) (nr nw ng : Nat) (tl : List Nat) (ukd unn : Nat → Int) (utr utw : Nat → Nat → Nat) (I L : sI), tl.length = u → LW A0 pg len q kept ℓi xi i σ ℓ nr nw ng tl ukd unn utr utw I L → Cp g 14 m_L_law mc ms Q1 ([172, 225, 238, 261, 274, 287, 320, 353, 386, 419, 452, 485, 508, 541, 594, 657, 700, 743, 786, 849, 902, 955, 988, 1031, 1054, 1087, 1130, 1153, 1166, 1179, 1202].getD v' 0) [(0, vr 0), (1, vr 3), (2, vr 139), (3, vi (i : Int))] [] (TT Ls tl) I L (RR tl)) → LOP g Ls A0 i u pg len mc ms := by
        intro mc ms v' hv' h30 hall q kept ℓi xi σ ℓ nr nw ng tl ukd unn utr utw I L hu hL
        refine law_hd hi6 hLs hL.2.2.2.1 (fun v2 h2 hv2 => ?_) (fun h => absurd h (by omega))
        have e : v2 = v' := by omega
        rw [e]
        exact hall q kept ℓi xi σ ℓ nr nw ng tl ukd unn utr utw I L hu hL
      rcases (show v = 0 ∨ v = 1 ∨ v = 2 ∨ v = 3 ∨ v = 4 ∨ v = 5 ∨ v = 6 ∨ v = 7 ∨ v = 8 ∨ v = 9 ∨ v = 10 ∨ v = 11 ∨ v = 12 ∨ v = 13 ∨ v = 14 ∨ v = 15 ∨ v = 16 ∨ v = 17 ∨ v = 18 ∨ v = 19 ∨ v = 20 ∨ v = 21 ∨ v = 22 ∨ v = 23 ∨ v = 24 ∨ v = 25 ∨ v = 26 ∨ v = 27 ∨ v = 28 ∨ v = 29 ∨ v = 30 ∨ v = 31 by omega) with rfl | rfl | rfl | rfl | rfl | rfl | rfl | rfl | rfl | rfl | rfl | rfl | rfl | rfl | rfl | rfl | rfl | rfl | rfl | rfl | rfl | rfl | rfl | rfl | rfl | rfl | rfl | rfl | rfl | rfl | rfl | rfl
      · obtain ⟨mc, ms, m1, m2, hL⟩ := ih (i + 6) u (letA pg len (lwd A0 i)).1 (letA pg len (lwd A0 i)).2 (by omega) (by omega) hu8
        exact ⟨mc, ms, by omega, by omega, sw _ _ _ hv (by decide) (fun q kept ℓi xi σ ℓ nr nw ng tl ukd unn utr utw I L hu h => law_0 hi6 hLs hA0 hu h (kon_of hL))⟩
      · obtain ⟨mc, ms, m1, m2, hL⟩ := ih (i + 6) u pg 0 (by omega) (by omega) hu8
        exact ⟨mc, ms, by omega, by omega, sw _ _ _ hv (by decide) (fun q kept ℓi xi σ ℓ nr nw ng tl ukd unn utr utw I L hu h => law_1 hi6 hLs hA0 hu h (kon_of hL))⟩
      · obtain ⟨mc, ms, m1, m2, hL⟩ := ih (i + 6) u pg len (by omega) (by omega) hu8
        exact ⟨mc, ms, by omega, by omega, sw _ _ _ hv (by decide) (fun q kept ℓi xi σ ℓ nr nw ng tl ukd unn utr utw I L hu h => law_2 hi6 hLs hA0 hu h (kon_of hL))⟩
      · by_cases ho : hOK pg len
        · skip
          obtain ⟨mc, ms, m1, m2, hL⟩ := ih (i + 6) u pg 0 (by omega) (by omega) hu8
          exact ⟨mc, ms, by omega, by omega, sw _ _ _ hv (by decide) (fun q kept ℓi xi σ ℓ nr nw ng tl ukd unn utr utw I L hu h => law_3_yes hi6 hLs hA0 hu h ho (kon_of hL))⟩
        · skip
          obtain ⟨mc, ms, m1, m2, hL⟩ := ih (i + 6) u pg len (by omega) (by omega) hu8
          exact ⟨mc, ms, by omega, by omega, sw _ _ _ hv (by decide) (fun q kept ℓi xi σ ℓ nr nw ng tl ukd unn utr utw I L hu h => law_3_no hi6 hLs hA0 hu h ho (kon_of hL))⟩
      · by_cases ho : 0 < len ∧ (∃ s, stpT pg len len s) ∧ u < 8
        · obtain ⟨h0, ⟨s, hst⟩, c8⟩ := ho
          have hn8 : s.2.2.length ≤ 8 := by have := (TIV_run len s hst.1).2.1; omega
          obtain ⟨mc, ms, m1, m2, hL⟩ := ih (i + 6) (u + 1) pg 0 (by omega) (by omega) (by omega)
          exact ⟨mc + 3, ms + (0 + s.2.2.length + s.2.2.length + 4), by omega, by omega, sw _ _ _ hv (by decide) (fun q kept ℓi xi σ ℓ nr nw ng tl ukd unn utr utw I L hu h => law_4_yes hi6 hLs hA0 hu h h0 hst c8 rfl (kon_of hL))⟩
        · skip
          obtain ⟨mc, ms, m1, m2, hL⟩ := ih (i + 6) u pg len (by omega) (by omega) hu8
          exact ⟨mc, ms, by omega, by omega, sw _ _ _ hv (by decide) (fun q kept ℓi xi σ ℓ nr nw ng tl ukd unn utr utw I L hu h => law_4_no hi6 hLs hA0 hu h ho (kon_of hL))⟩
      · by_cases ho : rlF (A0 (i + 1)) (A0 (i + 2)) u = 0
        · have c8 : u < 8 := by
            apply Classical.byContradiction
            intro hn
            unfold rlF at ho
            by_cases hcond : (0 ≤ A0 (i + 1) ∧ A0 (i + 1) ≤ 5) ∧ (0 ≤ A0 (i + 2) ∧ A0 (i + 2) ≤ (if A0 (i + 1) = 5 then 1 else 0))
            · rw [if_pos hcond, if_neg hn] at ho; exact absurd ho (by decide)
            · rw [if_neg hcond] at ho; exact absurd ho (by decide)
          obtain ⟨mc, ms, m1, m2, hL⟩ := ih (i + 6) (u + 1) pg len (by omega) (by omega) (by omega)
          exact ⟨mc + 3, ms + 4, by omega, by omega, sw _ _ _ hv (by decide) (fun q kept ℓi xi σ ℓ nr nw ng tl ukd unn utr utw I L hu h => law_5_yes hi6 hLs hA0 hu h ho (kon_of hL))⟩
        · skip
          obtain ⟨mc, ms, m1, m2, hL⟩ := ih (i + 6) u pg len (by omega) (by omega) hu8
          exact ⟨mc, ms, by omega, by omega, sw _ _ _ hv (by decide) (fun q kept ℓi xi σ ℓ nr nw ng tl ukd unn utr utw I L hu h => law_5_no hi6 hLs hA0 hu h ho (kon_of hL))⟩
      · obtain ⟨mc, ms, m1, m2, hL⟩ := ih (i + 6) u pg len (by omega) (by omega) hu8
        exact ⟨mc, ms, by omega, by omega, sw _ _ _ hv (by decide) (fun q kept ℓi xi σ ℓ nr nw ng tl ukd unn utr utw I L hu h => law_6 hi6 hLs hA0 hu h (kon_of hL))⟩
      · obtain ⟨mc, ms, m1, m2, hL⟩ := ih (i + 6) u pg len (by omega) (by omega) hu8
        exact ⟨mc, ms, by omega, by omega, sw _ _ _ hv (by decide) (fun q kept ℓi xi σ ℓ nr nw ng tl ukd unn utr utw I L hu h => law_7 hi6 hLs hA0 hu h (kon_of hL))⟩
      · obtain ⟨mc, ms, m1, m2, hL⟩ := ih (i + 6) u pg len (by omega) (by omega) hu8
        exact ⟨mc, ms, by omega, by omega, sw _ _ _ hv (by decide) (fun q kept ℓi xi σ ℓ nr nw ng tl ukd unn utr utw I L hu h => law_8 hi6 hLs hA0 hu h (kon_of hL))⟩
      · obtain ⟨mc, ms, m1, m2, hL⟩ := ih (i + 6) u pg len (by omega) (by omega) hu8
        exact ⟨mc, ms, by omega, by omega, sw _ _ _ hv (by decide) (fun q kept ℓi xi σ ℓ nr nw ng tl ukd unn utr utw I L hu h => law_9 hi6 hLs hA0 hu h (kon_of hL))⟩
      · obtain ⟨mc, ms, m1, m2, hL⟩ := ih (i + 6) u pg len (by omega) (by omega) hu8
        exact ⟨mc, ms, by omega, by omega, sw _ _ _ hv (by decide) (fun q kept ℓi xi σ ℓ nr nw ng tl ukd unn utr utw I L hu h => law_10 hi6 hLs hA0 hu h (kon_of hL))⟩
      · obtain ⟨mc, ms, m1, m2, hL⟩ := ih (i + 6) u pg len (by omega) (by omega) hu8
        exact ⟨mc, ms, by omega, by omega, sw _ _ _ hv (by decide) (fun q kept ℓi xi σ ℓ nr nw ng tl ukd unn utr utw I L hu h => law_11 hi6 hLs hA0 hu h (kon_of hL))⟩
      · obtain ⟨mc, ms, m1, m2, hL⟩ := ih (i + 6) u pg len (by omega) (by omega) hu8
        exact ⟨mc, ms, by omega, by omega, sw _ _ _ hv (by decide) (fun q kept ℓi xi σ ℓ nr nw ng tl ukd unn utr utw I L hu h => law_12 hi6 hLs hA0 hu h (kon_of hL))⟩
      · obtain ⟨mc, ms, m1, m2, hL⟩ := ih (i + 6) u pg len (by omega) (by omega) hu8
        exact ⟨mc, ms, by omega, by omega, sw _ _ _ hv (by decide) (fun q kept ℓi xi σ ℓ nr nw ng tl ukd unn utr utw I L hu h => law_13 hi6 hLs hA0 hu h (kon_of hL))⟩
      · obtain ⟨mc, ms, m1, m2, hL⟩ := ih (i + 6) u pg len (by omega) (by omega) hu8
        exact ⟨mc, ms, by omega, by omega, sw _ _ _ hv (by decide) (fun q kept ℓi xi σ ℓ nr nw ng tl ukd unn utr utw I L hu h => law_14 hi6 hLs hA0 hu h (kon_of hL))⟩
      · obtain ⟨mc, ms, m1, m2, hL⟩ := ih (i + 6) u pg len (by omega) (by omega) hu8
        exact ⟨mc, ms, by omega, by omega, sw _ _ _ hv (by decide) (fun q kept ℓi xi σ ℓ nr nw ng tl ukd unn utr utw I L hu h => law_15 hi6 hLs hA0 hu h (kon_of hL))⟩
      · obtain ⟨mc, ms, m1, m2, hL⟩ := ih (i + 6) u pg len (by omega) (by omega) hu8
        exact ⟨mc, ms, by omega, by omega, sw _ _ _ hv (by decide) (fun q kept ℓi xi σ ℓ nr nw ng tl ukd unn utr utw I L hu h => law_16 hi6 hLs hA0 hu h (kon_of hL))⟩
      · obtain ⟨mc, ms, m1, m2, hL⟩ := ih (i + 6) u pg len (by omega) (by omega) hu8
        exact ⟨mc, ms, by omega, by omega, sw _ _ _ hv (by decide) (fun q kept ℓi xi σ ℓ nr nw ng tl ukd unn utr utw I L hu h => law_17 hi6 hLs hA0 hu h (kon_of hL))⟩
      · obtain ⟨mc, ms, m1, m2, hL⟩ := ih (i + 6) u pg len (by omega) (by omega) hu8
        exact ⟨mc, ms, by omega, by omega, sw _ _ _ hv (by decide) (fun q kept ℓi xi σ ℓ nr nw ng tl ukd unn utr utw I L hu h => law_18 hi6 hLs hA0 hu h (kon_of hL))⟩
      · obtain ⟨mc, ms, m1, m2, hL⟩ := ih (i + 6) u pg len (by omega) (by omega) hu8
        exact ⟨mc, ms, by omega, by omega, sw _ _ _ hv (by decide) (fun q kept ℓi xi σ ℓ nr nw ng tl ukd unn utr utw I L hu h => law_19 hi6 hLs hA0 hu h (kon_of hL))⟩
      · obtain ⟨mc, ms, m1, m2, hL⟩ := ih (i + 6) u pg len (by omega) (by omega) hu8
        exact ⟨mc, ms, by omega, by omega, sw _ _ _ hv (by decide) (fun q kept ℓi xi σ ℓ nr nw ng tl ukd unn utr utw I L hu h => law_20 hi6 hLs hA0 hu h (kon_of hL))⟩
      · obtain ⟨mc, ms, m1, m2, hL⟩ := ih (i + 6) u pg len (by omega) (by omega) hu8
        exact ⟨mc, ms, by omega, by omega, sw _ _ _ hv (by decide) (fun q kept ℓi xi σ ℓ nr nw ng tl ukd unn utr utw I L hu h => law_21 hi6 hLs hA0 hu h (kon_of hL))⟩
      · obtain ⟨mc, ms, m1, m2, hL⟩ := ih (i + 6) u pg len (by omega) (by omega) hu8
        exact ⟨mc, ms, by omega, by omega, sw _ _ _ hv (by decide) (fun q kept ℓi xi σ ℓ nr nw ng tl ukd unn utr utw I L hu h => law_22 hi6 hLs hA0 hu h (kon_of hL))⟩
      · obtain ⟨mc, ms, m1, m2, hL⟩ := ih (i + 6) u pg len (by omega) (by omega) hu8
        exact ⟨mc, ms, by omega, by omega, sw _ _ _ hv (by decide) (fun q kept ℓi xi σ ℓ nr nw ng tl ukd unn utr utw I L hu h => law_23 hi6 hLs hA0 hu h (kon_of hL))⟩
      · obtain ⟨mc, ms, m1, m2, hL⟩ := ih (i + 6) u pg len (by omega) (by omega) hu8
        exact ⟨mc, ms, by omega, by omega, sw _ _ _ hv (by decide) (fun q kept ℓi xi σ ℓ nr nw ng tl ukd unn utr utw I L hu h => law_24 hi6 hLs hA0 hu h (kon_of hL))⟩
      · obtain ⟨mc, ms, m1, m2, hL⟩ := ih (i + 6) u pg len (by omega) (by omega) hu8
        exact ⟨mc, ms, by omega, by omega, sw _ _ _ hv (by decide) (fun q kept ℓi xi σ ℓ nr nw ng tl ukd unn utr utw I L hu h => law_25 hi6 hLs hA0 hu h (kon_of hL))⟩
      · obtain ⟨mc, ms, m1, m2, hL⟩ := ih (i + 6) u pg len (by omega) (by omega) hu8
        exact ⟨mc, ms, by omega, by omega, sw _ _ _ hv (by decide) (fun q kept ℓi xi σ ℓ nr nw ng tl ukd unn utr utw I L hu h => law_26 hi6 hLs hA0 hu h (kon_of hL))⟩
      · obtain ⟨mc, ms, m1, m2, hL⟩ := ih (i + 6) u pg len (by omega) (by omega) hu8
        exact ⟨mc, ms, by omega, by omega, sw _ _ _ hv (by decide) (fun q kept ℓi xi σ ℓ nr nw ng tl ukd unn utr utw I L hu h => law_27 hi6 hLs hA0 hu h (kon_of hL))⟩
      · obtain ⟨mc, ms, m1, m2, hL⟩ := ih (i + 6) u pg len (by omega) (by omega) hu8
        exact ⟨mc, ms, by omega, by omega, sw _ _ _ hv (by decide) (fun q kept ℓi xi σ ℓ nr nw ng tl ukd unn utr utw I L hu h => law_28 hi6 hLs hA0 hu h (kon_of hL))⟩
      · obtain ⟨mc, ms, m1, m2, hL⟩ := ih (i + 6) u pg len (by omega) (by omega) hu8
        exact ⟨mc, ms, by omega, by omega, sw _ _ _ hv (by decide) (fun q kept ℓi xi σ ℓ nr nw ng tl ukd unn utr utw I L hu h => law_29 hi6 hLs hA0 hu h (kon_of hL))⟩
      · obtain ⟨mc, ms, m1, m2, hL⟩ := ih (i + 6) u pg len (by omega) (by omega) hu8
        exact ⟨mc, ms, by omega, by omega, sw _ _ _ hv (by decide) (fun q kept ℓi xi σ ℓ nr nw ng tl ukd unn utr utw I L hu h => law_30 hi6 hLs hA0 hu h (kon_of hL))⟩
      · obtain ⟨mc, ms, m1, m2, hL⟩ := ih (i + 6) u pg len (by omega) (by omega) hu8
        exact ⟨mc, ms, m1, m2, fun q kept ℓi xi σ ℓ nr nw ng tl ukd unn utr utw I L hu h => law_hd hi6 hLs h.2.2.2.1 (fun v2 h2 hv2 => absurd hv2 (by omega)) (fun _ => kon_of hL q kept ℓi xi σ ℓ nr nw ng tl ukd unn utr utw I L hu ⟨h.1, h.2.1, h.2.2.1, RST_fr h.2.2.2 rfl (fun _ _ => rfl) rfl rfl rfl (fun _ _ => rfl) rfl rfl h.2.2.2.2.2.2.1 (by omega)⟩)⟩
    · exact ⟨0, 0, by omega, by omega, fun q kept ℓi xi σ ℓ nr nw ng tl ukd unn utr utw I L _ _ => law_ex (by omega) hLs hib⟩
end L9zb
