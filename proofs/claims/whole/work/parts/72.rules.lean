theorem tapp {T N : sT} {a : Nat} {x : Nat × Nat} (h : T[a]? = some x) : (T ++ N)[a]? = some x := by
  rw [List.getElem?_append_left (List.getElem?_eq_some_iff.mp h).1]; exact h
theorem tlast {T : sT} {x : Nat × Nat} : (T ++ [x])[T.length]? = some x := by rw [List.getElem?_append_right (Nat.le_refl _), Nat.sub_self]; rfl
/-- what is beyond the cells does not matter -/
theorem sws_congr {g : sG} {T : sT} {I L I' L' : sI} {R R' : sR} (h : ∀ a, a < T.length → I' a = I a ∧ L' a = L a ∧ R' a = R a) : sws g T I' L' R' = sws g T I L R := by
  unfold sws
  apply List.map_congr_left
  intro q hq
  have hq2 := List.mem_range.mp hq
  obtain ⟨h1, h2, h3⟩ := h (q + 3) (by omega)
  rw [scell_congr h1 h2 h3]
theorem Cp_mem {g : sG} {d : Nat} {M : sM} {mc ms : Nat} {Q : sQ} {pc : Nat} {ls : List (Nat × sV)} {st : List sV} {T : sT} {I L I' L' : sI} {R R' : sR} (h3 : 3 ≤ T.length) (h : ∀ a, a < T.length → I' a = I a ∧ L' a = L a ∧ R' a = R a) (k : Cp g d M mc ms Q pc ls st T I L R) : Cp g d M mc ms Q pc ls st T I' L' R' := by
  intro p e Rm s m args below meth c H locs cells slots lR hc hH
  obtain ⟨q1, q2, q3⟩ := hH
  refine k p e Rm s m args below meth c H locs cells slots lR hc ⟨sXt_put q1 (fun x hx => ((h x (by omega)).1).symm) (fun x hx => ((h x (by omega)).2.1).symm), q2, ?_⟩
  rw [sws_congr h] at q3
  exact q3
theorem TT_snoc {Ls n : Nat} {tl : List Nat} : TT Ls tl ++ [(6, 4)] ++ [(10, n)] ++ [(10, n)] = TT Ls (tl ++ [n]) := by
  unfold TT
  rw [List.flatMap_append]
  simp
/-- one rule more -/
def upN {α : Type} (f : Nat → α) (n : Nat) (x : α) : Nat → α := fun i => if i = n then x else f i
theorem upN_at {α : Type} {f : Nat → α} {n : Nat} {x : α} : upN f n x n = x := if_pos rfl
theorem upN_ne {α : Type} {f : Nat → α} {n i : Nat} {x : α} (h : i ≠ n) : upN f n x i = f i := if_neg h
theorem XS_rule {σ : Sg} {ℓ : Int} {nr nw ng n : Nat} {tl : List Nat} {ukd unn : Nat → Int} {utr utw : Nat → Nat → Nat} {I L I' L' : sI} {kd nn : Int} {tr tw : Nat → Nat} (h : XS σ ℓ nr nw ng tl ukd unn utr utw I L) (hl : tl.length < 8) (f : ∀ a, ¬ (a = 3 ∨ a = 4 ∨ a = 6 ∨ a = 7) → a < 186 + 3 * tl.length → I' a = I a) (f4 : I' 3 4 = (tl.length : Int) + 1) (fL : L' 2 = L 2) (hn : n ≤ 8) (hk : 0 ≤ kd ∧ kd ≤ 6) (hnn : 0 ≤ nn ∧ nn ≤ 1) (e0 : I' (186 + 3 * tl.length) 0 = kd) (e1 : I' (186 + 3 * tl.length) 1 = nn) (et : ∀ i, i < n → I' (186 + 3 * tl.length + 1) i = (tr i : Int) ∧ I' (186 + 3 * tl.length + 2) i = (tw i : Int) ∧ tr i < 8 ∧ tw i < 3) : XS σ ℓ nr nw ng (tl ++ [n]) (upN ukd tl.length kd) (upN unn tl.length nn) (upN utr tl.length tr) (upN utw tl.length tw) I' L' := by
  obtain ⟨⟨b1, b2, b3, b4, b5, b6, b7, b8⟩, r1, r2, r3⟩ := h
  obtain ⟨v1, v2, v3, v4, v5, v6, v7⟩ := id b1
  have h4 := b2.2.1
  refine ⟨⟨b1, b2, HX_63 b1 b3 (fun a h1 h2 => f a (by omega) (by omega)), HS_834 b4 (fun a h1 h2 => f a (by omega) (by omega)), ?_, KNX_frb b6 (fun a ha => f a (by omega) (by omega)), fun j hj => by rw [fL]; exact b7 j hj, fun j hj => by rw [f 1 (by omega) (by omega)]; exact b8 j hj⟩, by rw [f4, List.length_append]; show _ = ((tl.length + 1 : Nat) : Int); omega, by rw [List.length_append]; show tl.length + 1 ≤ 8; omega, fun q hq => ?_⟩
  · obtain ⟨q1, q2, q3, q4, q5, q6⟩ := b5
    exact ⟨by rw [f 8 (by omega) (by omega)]; exact q1, fun r hr k hk => by rw [f (10 + r) (by omega) (by omega)]; exact q2 r hr k hk, by rw [f 63 (by omega) (by omega)]; exact q3, by rw [f 63 (by omega) (by omega)]; exact q4, fun w hw k hk => by rw [f (65 + w) (by omega) (by omega)]; exact q5 w hw k hk, fun w hw => by rw [f 69 (by omega) (by omega)]; exact q6 w hw⟩
  · rw [List.length_append] at hq
    have hq2 : q < tl.length + 1 := hq
    by_cases e : q = tl.length
    · subst e
      rw [upN_at, upN_at, upN_at, upN_at]
      have eg : (tl ++ [n]).getD tl.length 0 = n := by rw [List.getD_eq_getElem?_getD, List.getElem?_append_right (Nat.le_refl _), Nat.sub_self]; rfl
      rw [eg]
      exact ⟨by rw [List.getElem?_append_right (Nat.le_refl _), Nat.sub_self]; rfl, hn, e0, e1, hk, hnn, et⟩
    · rw [upN_ne e, upN_ne e, upN_ne e, upN_ne e]
      have hlt : q < tl.length := by omega
      have eg : (tl ++ [n]).getD q 0 = tl.getD q 0 := by rw [List.getD_eq_getElem?_getD, List.getD_eq_getElem?_getD, List.getElem?_append_left hlt]
      rw [eg]
      obtain ⟨u1, u2, u3, u4, u5, u6, u7⟩ := r3 q hlt
      refine ⟨by rw [List.getElem?_append_left hlt]; exact u1, u2, by rw [f _ (by omega) (by omega)]; exact u3, by rw [f _ (by omega) (by omega)]; exact u4, u5, u6, fun i hi => ?_⟩
      rw [f (186 + 3 * q + 1) (by omega) (by omega), f (186 + 3 * q + 2) (by omega) (by omega)]
      exact u7 i hi
section P72
variable {g : sG} {d : Nat} {M : sM} {mc ms : Nat} {Q : sQ} {pc pc' : Nat} {ls : List (Nat × sV)} {st : List sV} {T : sT} {I L : sI} {R : sR}
theorem r_putiF {idx c k n a : Nat} {x : Int} {fin : Bool} (hd : sD M.2.1 pc 3 pc' (.putfield idx)) (hf : sFL M.1.cls idx c k fin) (hfi : fin = false ∨ M.1.name = "<init>" ∧ ∀ q, vwCl[c]? = some q → q.1 = M.1.cls) (hT : T[a]? = some (c, n)) (hk : k < n) (hty : sfk (sTy c k) = 0 ∨ (sfk (sTy c k) = 3 ∧ (x = 0 ∨ x = 1))) (kk : Cp g d M mc ms Q pc' ls st T (up2 I a k x) L R) : Cp g d M mc ms Q pc ls (vi x :: vr a :: st) T I L R := by
  refine r_put hd hf hfi hT hk (v := vi x) (I' := up2 I a k x) (L' := L) (R' := R) ?_ ?_ ?_ (fun j hj => ⟨up2_nj I x hj, rfl, rfl⟩) (fun y hy => ⟨up2_ne I x hy, rfl, rfl⟩) kk
  · rw [up2_at]
    generalize sTy c k = t at hty
    cases t <;> simp [sfk] at hty <;> rfl
  · generalize sTy c k = t at hty
    cases t <;> simp [sfk] at hty <;> first | rfl | (rcases hty with rfl | rfl <;> rfl)
  · generalize sTy c k = t at hty
    cases t <;> simp [sfk] at hty <;> first | rfl | (rcases hty with rfl | rfl <;> rfl)
theorem Cp_ms {ms' : Nat} (h : ms ≤ ms') (k : Cp g d M mc ms Q pc ls st T I L R) : Cp g d M mc ms' Q pc ls st T I L R := by
  intro p e Rm s m args below meth c H locs cells slots lR hc hH hS hcl hsl
  exact k p e Rm s m args below meth c H locs cells slots lR hc hH hS hcl (by omega)
end P72
section C72
variable {g : sG} {Ls : Nat} {tl : List Nat} {I L : sI} {T : sT} {R : sR} {σ : Sg} {ℓ : Int} {nr nw ng : Nat} {ukd unn : Nat → Int} {utr utw : Nat → Nat → Nat}
theorem c_Rule {a b c : Nat} {kd nn : Int} (hT : T[a]? = some (6, 4)) : Mc g 1 m_X6_init 0 0 [vr a, vi kd, vi nn, vr b, vr c] T I L R (qV fun T' I' L' R' => T' = T ∧ I' = up2 (up2 I a 0 kd) a 1 nn ∧ L' = L ∧ R' = up2 (up2 R a 2 (some b)) a 3 (some c)) := by
  refine Mc_of rfl (Nat.le_of_ble_eq_true rfl) ?_
  refine r_aload_n d_X6_init_0 rfl ?_
  refine r_oinit d_X6_init_1 (w_X6_3 _ rfl) (by decide) (Nat.le_of_ble_eq_true rfl) ?_
  refine r_aload_n d_X6_init_4 rfl ?_
  refine r_iload_n d_X6_init_5 rfl ?_
  refine r_putiF d_X6_init_6 f_X6_9 (Or.inr ⟨rfl, by decide⟩) hT (by decide) (Or.inl rfl) ?_
  refine r_aload_n d_X6_init_9 rfl ?_
  refine r_iload_n d_X6_init_10 rfl ?_
  refine r_putiF d_X6_init_11 f_X6_15 (Or.inr ⟨rfl, by decide⟩) hT (by decide) (Or.inl rfl) ?_
  refine r_aload_n d_X6_init_14 rfl ?_
  refine r_aload_n d_X6_init_15 rfl ?_
  refine r_putr d_X6_init_16 f_X6_18 (Or.inr ⟨rfl, by decide⟩) hT (by decide) rfl ?_
  refine r_aload_n d_X6_init_19 rfl ?_
  refine r_aload d_X6_init_20 rfl ?_
  refine r_putr d_X6_init_22 f_X6_22 (Or.inr ⟨rfl, by decide⟩) hT (by decide) rfl ?_
  refine r_vret d_X6_init_25 rfl ?_
  exact ⟨rfl, rfl, rfl, rfl, rfl⟩
theorem c_addRule {a n : Nat} (hT3 : T[3]? = some (7, 13)) (hT62 : T[62]? = some (15, 8)) (hTa : T[a]? = some (6, 4)) (hr : R 3 3 = some 62) (hn : I 3 4 = (n : Int)) (hn8 : n < 8) : Mc g 0 m_X7_addRule 0 0 [vr 3, vr a] T I L R (qI fun z T' I' L' R' => z = (n : Int) ∧ T' = T ∧ I' = up2 I 3 4 ((n : Int) + 1) ∧ L' = L ∧ R' = up2 R 62 n (some a)) := by
  refine Mc_of rfl (Nat.le_of_ble_eq_true rfl) ?_
  refine r_aload_n d_X7_addRule_0 rfl ?_
  refine r_getr d_X7_addRule_1 f_X7_28 hT3 (by decide) rfl hr ?_
  refine r_aload_n d_X7_addRule_4 rfl ?_
  refine r_geti d_X7_addRule_5 f_X7_97 hT3 (by decide) (by decide) ?_
  refine r_aload_n d_X7_addRule_8 rfl ?_
  rw [hn]
  refine r_aast d_X7_addRule_9 hT62 (by omega) hTa (kk := ?_)
  rw [Int.toNat_natCast]
  refine r_aload_n d_X7_addRule_10 rfl ?_
  refine r_dup d_X7_addRule_11 rfl ?_
  refine r_geti d_X7_addRule_12 f_X7_97 hT3 (by decide) (by decide) ?_
  refine r_iconst d_X7_addRule_15 ?_
  refine r_iadd d_X7_addRule_16 ?_
  rw [hn]
  refine r_puti d_X7_addRule_17 f_X7_97 hT3 (by decide) (Or.inl rfl) ?_
  refine r_aload_n d_X7_addRule_20 rfl ?_
  refine r_geti d_X7_addRule_21 f_X7_97 hT3 (by decide) (by decide) ?_
  refine r_iconst d_X7_addRule_24 ?_
  refine r_isub d_X7_addRule_25 ?_
  rw [up2_at]
  refine r_iret d_X7_addRule_26 rfl ?_
  exact ⟨_, rfl, by omega, rfl, rfl, rfl, rfl⟩
theorem c_cutToTold {sa n : Nat} (hT4 : T[4]? = some (5, 7)) (hTs : T[sa]? = some (10, 8)) (hn : I 4 6 = (n : Int)) (hn8 : n ≤ 8) : Mc g 1 m_X5_cutToTold 1 (0 + n) [vr 4, vr sa] T I L R (qR fun z T' I' L' R' => z = T.length ∧ T' = T ++ [(10, n)] ∧ (∀ a, a < T.length → I' a = I a ∧ L' a = L a ∧ R' a = R a) ∧ (∀ j, j < n → I' T.length j = I sa j) ∧ (∀ k, R' T.length k = none)) := by
  refine Mc_of rfl (Nat.le_of_ble_eq_true rfl) ?_
  have hsl : sa < T.length := (List.getElem?_eq_some_iff.mp hTs).1
  have h4l : 4 < T.length := (List.getElem?_eq_some_iff.mp hT4).1
  have loop : ∀ (k b : Nat) (I1 : sI), b + k = n → (∀ a, a < T.length → I1 a = I a) → (∀ j, j < b → I1 T.length j = I sa j) → Cp g 1 m_X5_cutToTold 0 0 (qR fun z T' I' L' R' => z = T.length ∧ T' = T ++ [(10, n)] ∧ (∀ a, a < T.length → I' a = I a ∧ L' a = L a ∧ R' a = R a) ∧ (∀ j, j < n → I' T.length j = I sa j) ∧ (∀ k, R' T.length k = none)) 13 [(0, vr 4), (1, vr sa), (2, vr T.length), (3, vi (b : Int))] [] (T ++ [(10, n)]) I1 (zrf L T.length) (rnf R T.length) := by
    intro k
    induction k with
    | zero =>
      intro b I1 hbk f hj
      refine r_iload_n d_X5_cutToTold_13 rfl ?_
      refine r_aload_n d_X5_cutToTold_14 rfl ?_
      refine r_alen d_X5_cutToTold_15 tlast (by decide) ?_
      refine r_icmp_ge d_X5_cutToTold_16 (by omega) (by omega) (fun c16 => ?_) (fun c16 => absurd c16 (by omega))
      refine r_aload_n d_X5_cutToTold_37 rfl ?_
      refine r_aret d_X5_cutToTold_38 rfl ?_
      exact ⟨_, rfl, rfl, rfl, fun a ha => ⟨f a ha, zrf_lt ha, rnf_lt ha⟩, fun j hj2 => hj j (by omega), fun k => by unfold rnf; rw [if_pos (Nat.le_refl _)]⟩
    | succ k ih =>
      intro b I1 hbk f hj
      have es : I1 sa b = I sa b := by rw [f sa hsl]
      refine r_iload_n d_X5_cutToTold_13 rfl ?_
      refine r_aload_n d_X5_cutToTold_14 rfl ?_
      refine r_alen d_X5_cutToTold_15 tlast (by decide) ?_
      refine r_icmp_ge d_X5_cutToTold_16 (by omega) (by omega) (fun c16 => absurd c16 (by omega)) (fun c16 => ?_)
      refine r_iload_n d_X5_cutToTold_19 rfl ?_
      refine r_aload_n d_X5_cutToTold_20 rfl ?_
      refine r_alen d_X5_cutToTold_21 (tapp hTs) (by decide) ?_
      refine r_icmp_ge d_X5_cutToTold_22 (by omega) (by omega) (fun c22 => absurd c22 (by omega)) (fun c22 => ?_)
      refine r_aload_n d_X5_cutToTold_25 rfl ?_
      refine r_iload_n d_X5_cutToTold_26 rfl ?_
      refine r_aload_n d_X5_cutToTold_27 rfl ?_
      refine r_iload_n d_X5_cutToTold_28 rfl ?_
      refine r_ialdJ d_X5_cutToTold_29 (tapp hTs) rfl (by omega) (kk := ?_)
      rw [es]
      refine r_iastJ d_X5_cutToTold_30 tlast (by omega) rfl (by omega) (hn := (by omega)) (kk := ?_)
      refine r_iinc d_X5_cutToTold_31 rfl (by decide) ?_
      refine r_goto d_X5_cutToTold_34 ?_
      refine CpL (ih (b + 1) _ (by omega) (fun a ha => by rw [up2_ne _ _ (by omega)]; exact f a ha) (fun j hj2 => ?_)) (by repeat (first | exact trivial | refine ⟨rfl, ?_⟩))
      by_cases e : j = b
      · rw [e, up2_at]
      · rw [up2_nj _ _ e]; exact hj j (by omega)
  refine r_iconst d_X5_cutToTold_0 ?_
  refine r_aload_n d_X5_cutToTold_1 rfl ?_
  refine r_geti d_X5_cutToTold_2 f_X5_105 hT4 (by decide) (by decide) ?_
  rw [hn]
  refine r_mmax d_X5_cutToTold_5 (w_X5_116 _ rfl) (by decide) (Nat.le_of_ble_eq_true rfl) (by omega) (by omega) ?_
  rw [show (if (0 : Int) < (n : Int) then (n : Int) else 0) = (n : Int) by split <;> omega]
  refine r_newa (kd := 10) d_X5_cutToTold_8 (Or.inl ⟨rfl, rfl⟩) ac_int (by omega) (Int.toNat_natCast n) ?_
  refine r_astore_n d_X5_cutToTold_10 (by decide) ?_
  refine r_iconst d_X5_cutToTold_11 ?_
  refine r_istore_n d_X5_cutToTold_12 (by decide) ?_
  exact CpL (loop n 0 _ (by omega) (fun a ha => zrf_lt ha) (fun j h => absurd h (by omega))) (by repeat (first | exact trivial | refine ⟨rfl, ?_⟩))
theorem c_toldRooms {n : Nat} (hT4 : T[4]? = some (5, 7)) (hTs : T[6]? = some (10, 8)) (hr : R 4 4 = some 6) (hn : I 4 6 = (n : Int)) (hn8 : n ≤ 8) : Mc g 2 m_X5_toldRooms 1 (0 + n) [vr 4] T I L R (qR fun z T' I' L' R' => z = T.length ∧ T' = T ++ [(10, n)] ∧ (∀ a, a < T.length → I' a = I a ∧ L' a = L a ∧ R' a = R a) ∧ (∀ j, j < n → I' T.length j = I 6 j) ∧ (∀ k, R' T.length k = none)) := by
  refine Mc_of rfl (Nat.le_of_ble_eq_true rfl) ?_
  have hcut := c_cutToTold (g := g) (L := L) (R := R) hT4 hTs hn hn8
  rw [Nat.zero_add] at hcut
  refine r_aload_n d_X5_toldRooms_0 rfl ?_
  refine r_aload_n d_X5_toldRooms_1 rfl ?_
  refine r_getr d_X5_toldRooms_2 f_X5_15 hT4 (by decide) rfl hr ?_
  refine r_V1r d_X5_toldRooms_5 (w_X5_112 _ rfl) hT4 rfl rfl hcut (by decide) (Nat.le_of_ble_eq_true rfl) (fun z5 T5 I5 L5 R5 h5 => ?_)
  refine r_aret d_X5_toldRooms_8 rfl ?_
  exact ⟨_, rfl, h5⟩
theorem c_toldWomen {n : Nat} (hT4 : T[4]? = some (5, 7)) (hTs : T[7]? = some (10, 8)) (hr : R 4 5 = some 7) (hn : I 4 6 = (n : Int)) (hn8 : n ≤ 8) : Mc g 2 m_X5_toldWomen 1 (0 + n) [vr 4] T I L R (qR fun z T' I' L' R' => z = T.length ∧ T' = T ++ [(10, n)] ∧ (∀ a, a < T.length → I' a = I a ∧ L' a = L a ∧ R' a = R a) ∧ (∀ j, j < n → I' T.length j = I 7 j) ∧ (∀ k, R' T.length k = none)) := by
  refine Mc_of rfl (Nat.le_of_ble_eq_true rfl) ?_
  have hcut := c_cutToTold (g := g) (L := L) (R := R) hT4 hTs hn hn8
  rw [Nat.zero_add] at hcut
  refine r_aload_n d_X5_toldWomen_0 rfl ?_
  refine r_aload_n d_X5_toldWomen_1 rfl ?_
  refine r_getr d_X5_toldWomen_2 f_X5_19 hT4 (by decide) rfl hr ?_
  refine r_V1r d_X5_toldWomen_5 (w_X5_112 _ rfl) hT4 rfl rfl hcut (by decide) (Nat.le_of_ble_eq_true rfl) (fun z5 T5 I5 L5 R5 h5 => ?_)
  refine r_aret d_X5_toldWomen_8 rfl ?_
  exact ⟨_, rfl, h5⟩
end C72
