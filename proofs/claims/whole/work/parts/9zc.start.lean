/-! the law from its entry -/
def sI0 (A0 : Nat → Int) : sI := fun a j => if a = 0 then A0 j else if a = 1 then (j : Int) else 0
def sL0 : sI := fun a j => if a = 2 then sRank j else 0
theorem sI0_z {A0 : Nat → Int} {n : Nat} (h : 3 ≤ n) : zrf (sI0 A0) n = sI0 A0 := by
  funext x j
  unfold zrf
  split
  · next hx => unfold sI0; rw [if_neg (by omega), if_neg (by omega)]
  · rfl
theorem sL0_z {n : Nat} (h : 3 ≤ n) : zrf sL0 n = sL0 := by
  funext x j
  unfold zrf
  split
  · next hx => unfold sL0; rw [if_neg (by omega)]
  · rfl
theorem rOf_mem : ∀ {l : List (Nat × Nat × Nat)} {a k : Nat}, rOf l a k ≠ none → ∃ e ∈ l, e.1 = a ∧ e.2.1 = k
  | [], _, _, h => absurd rfl h
  | e :: l, a, k, h => by
    by_cases c : e.1 = a ∧ e.2.1 = k
    · exact ⟨e, List.mem_cons_self, c⟩
    · have h2 : up2 (rOf l) e.1 e.2.1 (some e.2.2) a k ≠ none := h
      have e2 : up2 (rOf l) e.1 e.2.1 (some e.2.2) a k = rOf l a k := by
        unfold up2
        by_cases c1 : a = e.1
        · rw [if_pos c1, if_neg (fun q => c ⟨c1.symm, q.symm⟩)]
        · rw [if_neg c1]
      rw [e2] at h2
      obtain ⟨x, x1, x2⟩ := rOf_mem h2
      exact ⟨x, List.mem_cons_of_mem _ x1, x2⟩
theorem rl_sl : rl_113.all (fun e => decide (e.2.1 < (RRt.getD e.1 []).length)) = true := by decide +kernel
def chkR : List (List (Option Nat)) → Nat → Bool
  | [], _ => true
  | r :: rs, a => (List.range r.length).all (fun k => rOf rl_113 a k == r.getD k none) && chkR rs (a + 1)
theorem chk_at : ∀ (rs : List (List (Option Nat))) (a : Nat), chkR rs a = true → ∀ i k, k < (rs.getD i []).length → rOf rl_113 (a + i) k = (rs.getD i []).getD k none
  | [], a, _, i, k, hk => absurd hk (by simp)
  | r :: rs, a, h, i, k, hk => by
    have h' : ((List.range r.length).all (fun k => rOf rl_113 a k == r.getD k none) && chkR rs (a + 1)) = true := h
    rw [Bool.and_eq_true] at h'
    cases i with
    | zero => exact beq_iff_eq.mp (List.all_eq_true.mp h'.1 k (List.mem_range.mpr hk))
    | succ i =>
      have := chk_at rs (a + 1) h'.2 i k hk
      rw [show a + (i + 1) = a + 1 + i by omega]
      exact this
set_option maxRecDepth 20000 in
theorem chk_ok : chkR RRt 0 = true := by decide +kernel
theorem RRt_62 : RRt.getD 62 [] = [] := rfl
theorem rl_RR {a : Nat} (ha : a < 186) : rOf rl_113 a = RR [] a := by
  funext k
  have e : RR [] a k = (RRt.getD a []).getD k none := by
    unfold RR
    rw [if_pos ha]
    split
    · next h => rw [h, RRt_62]; rfl
    · rfl
  rw [e]
  by_cases hk : k < (RRt.getD a []).length
  · have := chk_at RRt 0 chk_ok a k hk
    rw [Nat.zero_add] at this
    exact this
  · have e2 : (RRt.getD a []).getD k none = none := by
      rw [List.getD_eq_getElem?_getD, List.getElem?_eq_none (by omega)]; rfl
    rw [e2]
    apply Classical.byContradiction
    intro hn
    obtain ⟨x, x1, x2, x3⟩ := rOf_mem hn
    have h2 := of_decide_eq_true (List.all_eq_true.mp rl_sl x x1)
    rw [x2, x3] at h2
    exact hk h2
theorem tk_186 {Ls : Nat} : tk 186 Ls = TT Ls [] := by
  unfold tk TT
  rw [List.take_of_length_le (by rw [TT0_len]; omega)]
  simp
theorem rk_eq : ∀ j, j < 8 → sRank j = rkS j := by decide
theorem LW_0 {A0 : Nat → Int} {pg xi : Nat → Int} {I : sI} (hI : I = up2 (up2 (up2 (sI0 A0) 63 0 2) 139 17 2) 139 55 (-1)) : LW A0 pg 0 0 0 0 xi 0 (fun _ _ => -1) 2 0 0 0 [] (fun _ => 0) (fun _ => 0) (fun _ _ => 0) (fun _ _ => 0) I sL0 := by
  subst hI
  have no : ∀ {P : Nat → Prop} (r : Nat), r < 0 → P r := fun r h => absurd h (by omega)
  have hSV : SV (fun _ _ => -1) 2 0 0 := ⟨by omega, by omega, fun r h => absurd h (by omega), fun r h => absurd h (by omega), by omega, by omega⟩
  refine ⟨⟨⟨⟨by omega, by omega, by omega, fun r h => absurd h (by omega), fun r h => absurd h (by omega), fun r h => absurd h (by omega), by decide⟩, hSV, ?_, ?_, ?_, ?_, ?_, ?_⟩, ?_⟩, ?_, fun h => absurd h (by omega), ?_⟩
  · exact ⟨rfl, rfl, rfl, rfl, fun r h => absurd h (by omega), fun r h => absurd h (by omega), fun r h => absurd h (by omega), fun r h => absurd h (by omega)⟩
  · exact ⟨fun r h => absurd h (by omega), ⟨fun _ => 0, fun r h => absurd h (by omega), fun i j h1 h2 => absurd h2 (by omega)⟩, fun r h => absurd h (by omega), rfl⟩
  · exact ⟨rfl, fun r h => absurd h (by omega), rfl, rfl, fun r h => absurd h (by omega), fun r h => absurd h (by omega)⟩
  · exact KNX_none rfl rfl
  · exact fun j hj => rk_eq j hj
  · exact fun j hj => rfl
  · exact ⟨rfl, by decide, fun q hq => absurd hq (by show ¬ q < 0; omega)⟩
  · exact ⟨⟨hSV, by omega, fun r h => absurd h (by omega), by decide⟩, by omega, fun r _ => ⟨rfl, rfl⟩, ⟨fun _ => 0, fun r h => absurd h (by omega), fun i j h1 h2 => absurd h2 (by omega)⟩, ⟨rfl, rfl, fun r h => absurd h (by omega), fun r h => absurd h (by omega), fun r h => absurd h (by omega)⟩, rfl, rfl, KNM_none rfl rfl, ⟨rfl, by decide, fun q hq => absurd hq (by show ¬ q < 0; omega)⟩⟩
  · exact ⟨rfl, PGL_0 rfl, PGM_0 rfl, ⟨rfl, rfl, by omega, by omega⟩, rfl, Or.inl rfl, Or.inl rfl, ⟨Int.le_refl 0, Int.le_refl 0⟩, Int.le_refl 0, ⟨fun _ h => absurd (show (0 : Int) = 1 from h.1) (by decide), fun _ => rfl⟩, fun h => absurd rfl h⟩
theorem law_start {g : sG} {Ls : Nat} {A0 : Nat → Int} (hLs : Ls ≤ 3072) (hA0 : ∀ j, i32 (A0 j)) : ∃ mc ms, mc ≤ 300 ∧ ms ≤ 12000 ∧ Cp g 14 m_L_law mc ms Q1 0 [(0, vr 0)] [] (tk 3 Ls) (sI0 A0) sL0 (rOf rl_0) := by
  obtain ⟨mc, ms, m1, m2, hL⟩ := law_loop (g := g) hLs hA0 512 0 0 (fun _ => 0) 0 (by omega) (by omega) (by omega)
  refine ⟨mc + 46 + 1 + 135 + 1, ms + 2979 + 74 + 6753 + 13, by omega, by omega, ?_⟩
  refine k_new (c := 7) (n0 := 3) (T' := tk 4 Ls) d_L_law_0 rfl rfl (n_L_7 _ rfl) (by decide) rfl rfl (sI0_z (by decide)) (sL0_z (by decide)) (rnf_rOf (l := rl_0) (by decide)) ?_
  refine r_dup d_L_law_3 rfl ?_
  refine r_I0v (mc := mc + 46 + 1) (ms := ms + 2979 + 74) (mc2 := 135) (ms2 := 6753) d_L_law_4 (w_L_9 _ rfl) (k_X7_init_3 (I := sI0 A0) (L := sL0) (fun n hn => sI0_z (by omega)) (fun n hn => sL0_z (by omega))) (by decide) (Nat.le_of_ble_eq_true rfl) (fun T4 I4 L4 R4 h4 => ?_)
  obtain ⟨rfl, i4, e4, rfl⟩ := h4
  subst i4 e4
  refine r_astore_n d_L_law_7 (by decide) ?_
  refine k_new (c := 8) (n0 := 139) (T' := tk 140 Ls) d_L_law_8 rfl rfl (n_L_10 _ rfl) (by decide) rfl rfl (zrf_up (by decide) (sI0_z (by decide))) (sL0_z (by decide)) (rnf_rOf (l := rl_67) (by decide)) ?_
  refine r_dup d_L_law_11 rfl ?_
  refine r_I0v (mc := mc) (ms := ms) (mc2 := 46) (ms2 := 2979) d_L_law_12 (w_L_12 _ rfl) (k_X8_init_139 (I := up2 (sI0 A0) 63 0 2) (L := sL0) (fun n hn => zrf_up (by omega) (sI0_z (by omega))) (fun n hn => sL0_z (by omega))) (by decide) (Nat.le_of_ble_eq_true rfl) (fun T12 I12 L12 R12 h12 => ?_)
  obtain ⟨rfl, i12, e12, rfl⟩ := h12
  subst e12
  refine r_astore_n d_L_law_15 (by decide) ?_
  refine r_iconst d_L_law_16 ?_
  refine r_istore_n d_L_law_17 (by decide) ?_
  rw [tk_186]
  refine Cp_mem (I := I12) (L := sL0) (R := RR []) (by rw [TT_len]; omega) (fun a ha => ⟨rfl, rfl, rl_RR (by rw [TT_len] at ha; exact ha)⟩) ?_
  exact CpL (hL 0 0 0 (fun _ => 0) _ _ _ _ _ [] _ _ _ _ I12 sL0 rfl (LW_0 i12.symm)) (by repeat (first | exact trivial | refine ⟨rfl, ?_⟩))
