/-! the next order, as the reference finds it -/
def pvO (a : Nat → Nat) : Nat → Nat
  | 0 => 0
  | k + 1 => if a (k + 1) < a k then pvO a k else k + 1
def jdO (a : Nat → Nat) (p : Nat) : Nat → Nat
  | 0 => 0
  | j + 1 => if a (j + 1) < a p then jdO a p j else j + 1
def swO (a : Nat → Nat) (i j : Nat) : Nat → Nat := fun k => if k = j then a i else if k = i then a j else a k
def rvO : Nat → (Nat → Nat) → Nat → Nat → Nat → Nat
  | 0, a, _, _ => a
  | f + 1, a, p, q => if p < q then rvO f (swO a p q) (p + 1) (q - 1) else a
def nxO (n : Nat) (a : Nat → Nat) : Nat → Nat := rvO 8 (swO a (pvO a (n - 1) - 1) (jdO a (pvO a (n - 1) - 1) (n - 1))) (pvO a (n - 1)) (n - 1)
def chkO (n : Nat) : List (List Nat) → Bool
  | [] => true
  | [l] => pvO (fun k => l.getD k 0) (n - 1) == 0
  | l :: m :: t => pvO (fun k => l.getD k 0) (n - 1) != 0 && ((List.range n).map (nxO n (fun k => l.getD k 0)) == m) && chkO n (m :: t)
theorem chk_all : ∀ n : Nat, n < 7 → (n = 0 ∨ (chkO n (ODR n) = true ∧ (ODR n)[0]? = some (List.range n))) := by decide +kernel
theorem chk_step {n : Nat} : ∀ (W : List (List Nat)) (i : Nat) (l : List Nat), chkO n W = true → W[i]? = some l → (∀ m, W[i + 1]? = some m → pvO (fun k => l.getD k 0) (n - 1) ≠ 0 ∧ (List.range n).map (nxO n (fun k => l.getD k 0)) = m) ∧ (W[i + 1]? = none → pvO (fun k => l.getD k 0) (n - 1) = 0)
  | [], i, l, _, h => by simp at h
  | [x], i, l, hc, h => by
    cases i with
    | zero =>
      have : x = l := by simpa using h
      subst this
      exact ⟨fun m hm => by simp at hm, fun _ => by simpa [chkO] using hc⟩
    | succ i => simp at h
  | x :: y :: t, i, l, hc, h => by
    have hc2 : (pvO (fun k => x.getD k 0) (n - 1) != 0 && ((List.range n).map (nxO n (fun k => x.getD k 0)) == y) && chkO n (y :: t)) = true := hc
    rw [Bool.and_eq_true, Bool.and_eq_true] at hc2
    cases i with
    | zero =>
      have : x = l := by simpa using h
      subst this
      refine ⟨fun m hm => ?_, fun hm => by simp at hm⟩
      have : y = m := by simpa using hm
      subst this
      exact ⟨by simpa using hc2.1.1, by simpa using hc2.1.2⟩
    | succ i => exact chk_step (y :: t) i l hc2.2 (by simpa using h)
theorem pv_le {a : Nat → Nat} : ∀ k, pvO a k ≤ k
  | 0 => Nat.le_refl 0
  | k + 1 => by unfold pvO; have := pv_le (a := a) k; split <;> omega
section X87
variable {g : sG} {Ls : Nat} {tl : List Nat} {T : sT} {R : sR} {I L : sI} {σ δ : Sg} {ℓ ab : Int} {n : Nat}
theorem x_swap {i j : Nat} (hi : i < 8) (hj : j < 8) : Mc g 0 m_X8_swap 0 0 [vr 139, vi (i : Int), vi (j : Int)] (TT Ls tl) I L (RR tl) (qV fun T' I' L' R' => T' = TT Ls tl ∧ R' = RR tl ∧ L' = L ∧ I' = up2 (up2 I 180 i (I 180 j)) 180 j (I 180 i)) := by
  refine Mc_of rfl (Nat.le_of_ble_eq_true rfl) ?_
  refine r_aload_n d_X8_swap_0 rfl ?_
  refine r_getr d_X8_swap_1 f_X8_139 (tt_139 _ _) (by decide) rfl (rr_139_62 _) ?_
  refine r_iload_n d_X8_swap_4 rfl ?_
  refine r_ialdJ d_X8_swap_5 (tt_180 _ _) rfl (by omega) (kk := ?_)
  refine r_istore_n d_X8_swap_6 (by decide) ?_
  refine r_aload_n d_X8_swap_7 rfl ?_
  refine r_getr d_X8_swap_8 f_X8_139 (tt_139 _ _) (by decide) rfl (rr_139_62 _) ?_
  refine r_iload_n d_X8_swap_11 rfl ?_
  refine r_aload_n d_X8_swap_12 rfl ?_
  refine r_getr d_X8_swap_13 f_X8_139 (tt_139 _ _) (by decide) rfl (rr_139_62 _) ?_
  refine r_iload_n d_X8_swap_16 rfl ?_
  refine r_ialdJ d_X8_swap_17 (tt_180 _ _) rfl (by omega) (kk := ?_)
  refine r_iastJ d_X8_swap_18 (tt_180 _ _) (by omega) rfl (by omega) (kk := ?_)
  refine r_aload_n d_X8_swap_19 rfl ?_
  refine r_getr d_X8_swap_20 f_X8_139 (tt_139 _ _) (by decide) rfl (rr_139_62 _) ?_
  refine r_iload_n d_X8_swap_23 rfl ?_
  refine r_iload_n d_X8_swap_24 rfl ?_
  refine r_iastJ d_X8_swap_25 (tt_180 _ _) (by omega) rfl (by omega) (kk := ?_)
  refine r_vret d_X8_swap_26 rfl ?_
  exact ⟨rfl, rfl, rfl, rfl, rfl⟩
theorem x_nextOrder (h0 : 0 < n) (h8 : n ≤ 8) (hn : I 139 0 = (n : Int)) {a : Nat → Nat} (ha : ∀ k, k < n → I 180 k = (a k : Int) ∧ a k < 100) : Mc g 1 m_X8_nextOrder 0 0 [vr 139] (TT Ls tl) I L (RR tl) (qI fun z T' I' L' R' => T' = TT Ls tl ∧ R' = RR tl ∧ L' = L ∧ frb 180 181 I I' ∧ z = (if pvO a (n - 1) = 0 then 0 else 1) ∧ (pvO a (n - 1) ≠ 0 → ∀ k, k < n → I' 180 k = (nxO n a k : Int))) := by
  refine Mc_of rfl (Nat.le_of_ble_eq_true rfl) ?_
  obtain ⟨Q, hQ⟩ : ∃ Q : sQ, Q = (qI fun z T' I' L' R' => T' = TT Ls tl ∧ R' = RR tl ∧ L' = L ∧ frb 180 181 I I' ∧ z = (if pvO a (n - 1) = 0 then 0 else 1) ∧ (pvO a (n - 1) ≠ 0 → ∀ k, k < n → I' 180 k = (nxO n a k : Int))) := ⟨_, rfl⟩
  rw [← hQ]
  have turn : ∀ (f p q i j : Nat) (b : Nat → Nat) (I1 : sI), frb 180 181 I I1 → (∀ k, k < n → I1 180 k = (b k : Int)) → pvO a (n - 1) ≠ 0 → 0 < p → p ≤ q + 1 → q < n → q ≤ p + f → rvO f b p q = nxO n a → Cp g 1 m_X8_nextOrder 0 0 Q 86 [(0, vr 139), (1, vi (i : Int)), (2, vi (j : Int)), (3, vi (p : Int)), (4, vi (q : Int))] [] (TT Ls tl) I1 L (RR tl) := by
    intro f
    induction f with
    | zero =>
      intro p q i j b I1 fr hb hv hp hpq hq hf hr
      have hr2 : b = nxO n a := hr
      refine r_iload_n d_X8_nextOrder_86 rfl ?_
      refine r_iload d_X8_nextOrder_87 rfl ?_
      refine r_icmp_ge d_X8_nextOrder_89 (by omega) (by omega) (fun c89 => ?_) (fun c89 => absurd c89 (by omega))
      refine r_iconst d_X8_nextOrder_108 ?_
      refine r_zret d_X8_nextOrder_109 rfl (by omega) ?_
      rw [hQ]
      exact ⟨_, rfl, rfl, rfl, rfl, fr, by rw [if_neg hv], fun _ k hk => by rw [← hr2]; exact hb k hk⟩
    | succ f ih =>
      intro p q i j b I1 fr hb hv hp hpq hq hf hr
      have hr1 : (if p < q then rvO f (swO b p q) (p + 1) (q - 1) else b) = nxO n a := hr
      by_cases hlt : p < q
      · rw [if_pos hlt] at hr1
        have hbp := hb p (by omega)
        have hbq := hb q (by omega)
        have eq1 : ((q - 1 : Nat) : Int) = (q : Int) - 1 := by omega
        refine r_iload_n d_X8_nextOrder_86 rfl ?_
        refine r_iload d_X8_nextOrder_87 rfl ?_
        refine r_icmp_ge d_X8_nextOrder_89 (by omega) (by omega) (fun c89 => absurd c89 (by omega)) (fun c89 => ?_)
        refine r_aload_n d_X8_nextOrder_92 rfl ?_
        refine r_iload_n d_X8_nextOrder_93 rfl ?_
        refine r_iload d_X8_nextOrder_94 rfl ?_
        refine r_V2v d_X8_nextOrder_96 (w_X8_357 _ rfl) (tt_139 _ _) rfl rfl (x_swap (by omega) (by omega)) (by decide) (Nat.le_of_ble_eq_true rfl) (fun T96 I96 L96 R96 h96 => ?_)
        obtain ⟨rfl, rfl, rfl, rfl⟩ := h96
        refine r_iinc d_X8_nextOrder_99 rfl (by decide) ?_
        refine r_iinc d_X8_nextOrder_102 rfl (by decide) ?_
        refine r_goto d_X8_nextOrder_105 ?_
        refine CpL (ih (p + 1) (q - 1) i j (swO b p q) _ (fun a ha => by rw [up2_ne _ _ (by omega), up2_ne _ _ (by omega)]; exact fr a ha) (fun k hk => ?_) hv (by omega) (by omega) (by omega) (by omega) hr1) (by repeat (first | exact trivial | refine ⟨rfl, ?_⟩ | refine ⟨by rw [eq1]; rfl, ?_⟩))
        unfold swO
        by_cases e1 : k = q
        · rw [if_pos e1, e1, up2_at]; exact hbp
        · rw [if_neg e1, up2_nj _ _ e1]
          by_cases e2 : k = p
          · rw [if_pos e2, e2, up2_at]; exact hbq
          · rw [if_neg e2, up2_nj _ _ e2]; exact hb k hk
      · rw [if_neg hlt] at hr1
        refine r_iload_n d_X8_nextOrder_86 rfl ?_
        refine r_iload d_X8_nextOrder_87 rfl ?_
        refine r_icmp_ge d_X8_nextOrder_89 (by omega) (by omega) (fun c89 => ?_) (fun c89 => absurd c89 (by omega))
        refine r_iconst d_X8_nextOrder_108 ?_
        refine r_zret d_X8_nextOrder_109 rfl (by omega) ?_
        rw [hQ]
        exact ⟨_, rfl, rfl, rfl, rfl, fr, by rw [if_neg hv], fun _ k hk => by rw [← hr1]; exact hb k hk⟩
  have seek : ∀ (i : Nat), pvO a (n - 1) = i + 1 → i + 1 < n → ¬ a (i + 1) < a i → ∀ (j : Nat), i + 1 ≤ j → j < n → jdO a i (n - 1) = jdO a i j → Cp g 1 m_X8_nextOrder 0 0 Q 47 [(0, vr 139), (1, vi (i : Int)), (2, vi (j : Int))] [] (TT Ls tl) I L (RR tl) := by
    intro i hpv hin hle j
    obtain ⟨ai, ai2⟩ := ha i (by omega)
    induction j with
    | zero => intro h; omega
    | succ j ih =>
      intro hj hjn hd
      obtain ⟨aj, aj2⟩ := ha (j + 1) hjn
      have hd2 : jdO a i (n - 1) = if a (j + 1) < a i then jdO a i j else j + 1 := hd
      by_cases hlt : a (j + 1) < a i
      · rw [if_pos hlt] at hd2
        have e77 : (j : Int) + 1 + -1 = (j : Int) := by omega
        have hne : j ≠ i := fun e => hle (by rw [← e]; rw [e] at hlt ⊢; exact hlt)
        refine r_aload_n d_X8_nextOrder_47 rfl ?_
        refine r_getr d_X8_nextOrder_48 f_X8_139 (tt_139 _ _) (by decide) rfl (rr_139_62 _) ?_
        refine r_iload_n d_X8_nextOrder_51 rfl ?_
        rw [show ((j + 1 : Nat) : Int) = (j : Int) + 1 from rfl]
        refine r_ialdJ (j := j + 1) d_X8_nextOrder_52 (tt_180 _ _) (by omega) (by omega) (kk := ?_)
        rw [aj]
        refine r_aload_n d_X8_nextOrder_53 rfl ?_
        refine r_getr d_X8_nextOrder_54 f_X8_139 (tt_139 _ _) (by decide) rfl (rr_139_62 _) ?_
        refine r_iload_n d_X8_nextOrder_57 rfl ?_
        refine r_ialdJ d_X8_nextOrder_58 (tt_180 _ _) rfl (by omega) (kk := ?_)
        rw [ai]
        refine r_icmp_ge d_X8_nextOrder_59 (by omega) (by omega) (fun c59 => absurd c59 (by omega)) (fun c59 => ?_)
        refine r_iinc d_X8_nextOrder_62 rfl (by decide) ?_
        refine r_goto d_X8_nextOrder_65 ?_
        exact CpL (ih (by omega) (by omega) hd2) (by repeat (first | exact trivial | refine ⟨rfl, ?_⟩ | refine ⟨by rw [e77]; rfl, ?_⟩))
      · rw [if_neg hlt] at hd2
        have en : ((n - 1 : Nat) : Int) = (n : Int) - 1 := by omega
        refine r_aload_n d_X8_nextOrder_47 rfl ?_
        refine r_getr d_X8_nextOrder_48 f_X8_139 (tt_139 _ _) (by decide) rfl (rr_139_62 _) ?_
        refine r_iload_n d_X8_nextOrder_51 rfl ?_
        refine r_ialdJ (j := j + 1) d_X8_nextOrder_52 (tt_180 _ _) (by omega) (by omega) (kk := ?_)
        rw [aj]
        refine r_aload_n d_X8_nextOrder_53 rfl ?_
        refine r_getr d_X8_nextOrder_54 f_X8_139 (tt_139 _ _) (by decide) rfl (rr_139_62 _) ?_
        refine r_iload_n d_X8_nextOrder_57 rfl ?_
        refine r_ialdJ d_X8_nextOrder_58 (tt_180 _ _) rfl (by omega) (kk := ?_)
        rw [ai]
        refine r_icmp_ge d_X8_nextOrder_59 (by omega) (by omega) (fun c59 => ?_) (fun c59 => absurd c59 (by omega))
        refine r_aload_n d_X8_nextOrder_68 rfl ?_
        refine r_iload_n d_X8_nextOrder_69 rfl ?_
        refine r_iload_n d_X8_nextOrder_70 rfl ?_
        refine r_V2v d_X8_nextOrder_71 (w_X8_357 _ rfl) (tt_139 _ _) rfl rfl (x_swap (i := i) (j := j + 1) (by omega) (by omega)) (by decide) (Nat.le_of_ble_eq_true rfl) (fun T71 I71 L71 R71 h71 => ?_)
        obtain ⟨rfl, rfl, rfl, rfl⟩ := h71
        refine r_iload_n d_X8_nextOrder_74 rfl ?_
        refine r_iconst d_X8_nextOrder_75 ?_
        refine r_iadd d_X8_nextOrder_76 ?_
        refine r_istore_n d_X8_nextOrder_77 (by decide) ?_
        refine r_aload_n d_X8_nextOrder_78 rfl ?_
        refine r_geti d_X8_nextOrder_79 f_X8_232 (tt_139 _ _) (by decide) (by decide) ?_
        rw [show up2 (up2 I 180 i (I 180 (j + 1))) 180 (j + 1) (I 180 i) 139 0 = (n : Int) by rw [up2_ne _ _ (by decide), up2_ne _ _ (by decide)]; exact hn]
        refine r_iconst d_X8_nextOrder_82 ?_
        refine r_isub d_X8_nextOrder_83 ?_
        refine r_istore d_X8_nextOrder_84 (by decide) ?_
        refine CpL (turn 8 (i + 1) (n - 1) i (j + 1) (swO a i (j + 1)) _ (fun a ha => by rw [up2_ne _ _ (by omega), up2_ne _ _ (by omega)]) (fun k hk => ?_) (by omega) (by omega) (by omega) (by omega) (by omega) (by unfold nxO; rw [hpv, Nat.add_sub_cancel, hd2])) (by repeat (first | exact trivial | refine ⟨rfl, ?_⟩ | refine ⟨by rw [en]; rfl, ?_⟩))
        unfold swO
        by_cases e1 : k = j + 1
        · rw [if_pos e1, e1, up2_at]; exact ai
        · rw [if_neg e1, up2_nj _ _ e1]
          by_cases e2 : k = i
          · rw [if_pos e2, e2, up2_at]; exact aj
          · rw [if_neg e2, up2_nj _ _ e2]; exact (ha k hk).1
  have pivot : ∀ k, k < n → pvO a (n - 1) = pvO a k → Cp g 1 m_X8_nextOrder 0 0 Q 7 [(0, vr 139), (1, vi ((k : Int) - 1))] [] (TT Ls tl) I L (RR tl) := by
    intro k
    induction k with
    | zero =>
      intro hk hp
      have hp2 : pvO a (n - 1) = 0 := hp
      refine r_iload_n d_X8_nextOrder_7 rfl ?_
      refine r_if_lt d_X8_nextOrder_8 (by omega) (fun c8 => ?_) (fun c8 => absurd c8 (by omega))
      refine r_iload_n d_X8_nextOrder_34 rfl ?_
      refine r_if_ge d_X8_nextOrder_35 (by omega) (fun c35 => absurd c35 (by omega)) (fun c35 => ?_)
      refine r_iconst d_X8_nextOrder_38 ?_
      refine r_zret d_X8_nextOrder_39 rfl (by omega) ?_
      rw [hQ]
      exact ⟨_, rfl, rfl, rfl, rfl, frb_rf, by rw [if_pos hp2], fun h => absurd hp2 h⟩
    | succ k ih =>
      intro hk hp
      have hp2 : pvO a (n - 1) = if a (k + 1) < a k then pvO a k else k + 1 := hp
      obtain ⟨ai, ai2⟩ := ha k (by omega)
      obtain ⟨aj, aj2⟩ := ha (k + 1) hk
      have e9 : ((k + 1 : Nat) : Int) - 1 = (k : Int) := by omega
      rw [e9]
      by_cases hlt : a (k + 1) < a k
      · rw [if_pos hlt] at hp2
        refine r_iload_n d_X8_nextOrder_7 rfl ?_
        refine r_if_lt d_X8_nextOrder_8 (by omega) (fun c8 => absurd c8 (by omega)) (fun c8 => ?_)
        refine r_aload_n d_X8_nextOrder_11 rfl ?_
        refine r_getr d_X8_nextOrder_12 f_X8_139 (tt_139 _ _) (by decide) rfl (rr_139_62 _) ?_
        refine r_iload_n d_X8_nextOrder_15 rfl ?_
        refine r_ialdJ d_X8_nextOrder_16 (tt_180 _ _) rfl (by omega) (kk := ?_)
        rw [ai]
        refine r_aload_n d_X8_nextOrder_17 rfl ?_
        refine r_getr d_X8_nextOrder_18 f_X8_139 (tt_139 _ _) (by decide) rfl (rr_139_62 _) ?_
        refine r_iload_n d_X8_nextOrder_21 rfl ?_
        refine r_iconst d_X8_nextOrder_22 ?_
        refine r_iadd d_X8_nextOrder_23 ?_
        refine r_ialdJ (j := k + 1) d_X8_nextOrder_24 (tt_180 _ _) (by omega) (by omega) (kk := ?_)
        rw [aj]
        refine r_icmp_le d_X8_nextOrder_25 (by omega) (by omega) (fun c25 => absurd c25 (by omega)) (fun c25 => ?_)
        refine r_iinc d_X8_nextOrder_28 rfl (by decide) ?_
        refine r_goto d_X8_nextOrder_31 ?_
        exact CpL (ih (by omega) hp2) (by repeat (first | exact trivial | refine ⟨rfl, ?_⟩))
      · rw [if_neg hlt] at hp2
        have en : ((n - 1 : Nat) : Int) = (n : Int) - 1 := by omega
        refine r_iload_n d_X8_nextOrder_7 rfl ?_
        refine r_if_lt d_X8_nextOrder_8 (by omega) (fun c8 => absurd c8 (by omega)) (fun c8 => ?_)
        refine r_aload_n d_X8_nextOrder_11 rfl ?_
        refine r_getr d_X8_nextOrder_12 f_X8_139 (tt_139 _ _) (by decide) rfl (rr_139_62 _) ?_
        refine r_iload_n d_X8_nextOrder_15 rfl ?_
        refine r_ialdJ d_X8_nextOrder_16 (tt_180 _ _) rfl (by omega) (kk := ?_)
        rw [ai]
        refine r_aload_n d_X8_nextOrder_17 rfl ?_
        refine r_getr d_X8_nextOrder_18 f_X8_139 (tt_139 _ _) (by decide) rfl (rr_139_62 _) ?_
        refine r_iload_n d_X8_nextOrder_21 rfl ?_
        refine r_iconst d_X8_nextOrder_22 ?_
        refine r_iadd d_X8_nextOrder_23 ?_
        refine r_ialdJ (j := k + 1) d_X8_nextOrder_24 (tt_180 _ _) (by omega) (by omega) (kk := ?_)
        rw [aj]
        refine r_icmp_le d_X8_nextOrder_25 (by omega) (by omega) (fun c25 => ?_) (fun c25 => absurd c25 (by omega))
        refine r_iload_n d_X8_nextOrder_34 rfl ?_
        refine r_if_ge d_X8_nextOrder_35 (by omega) (fun c35 => ?_) (fun c35 => absurd c35 (by omega))
        refine r_aload_n d_X8_nextOrder_40 rfl ?_
        refine r_geti d_X8_nextOrder_41 f_X8_232 (tt_139 _ _) (by decide) (by decide) ?_
        rw [hn]
        refine r_iconst d_X8_nextOrder_44 ?_
        refine r_isub d_X8_nextOrder_45 ?_
        refine r_istore_n d_X8_nextOrder_46 (by decide) ?_
        exact CpL (seek k hp2 hk hlt (n - 1) (by omega) (by omega) rfl) (by repeat (first | exact trivial | refine ⟨rfl, ?_⟩ | refine ⟨by rw [en]; rfl, ?_⟩))
  have e2 : (((n - 1 : Nat) : Int) - 1) = (n : Int) - 2 := by omega
  refine r_aload_n d_X8_nextOrder_0 rfl ?_
  refine r_geti d_X8_nextOrder_1 f_X8_232 (tt_139 _ _) (by decide) (by decide) ?_
  rw [hn]
  refine r_iconst d_X8_nextOrder_4 ?_
  refine r_isub d_X8_nextOrder_5 ?_
  refine r_istore_n d_X8_nextOrder_6 (by decide) ?_
  exact CpL (pivot (n - 1) (by omega) rfl) (by repeat (first | exact trivial | refine ⟨rfl, ?_⟩ | refine ⟨by rw [e2]; rfl, ?_⟩))
end X87
