/-! what a call is worth -/
theorem and_bit {w b : Nat} : w &&& 2 ^ b = if w.testBit b = true then 2 ^ b else 0 := by
  refine Nat.eq_of_testBit_eq (fun i => ?_)
  rw [Nat.testBit_and, Nat.testBit_two_pow]
  by_cases hb : w.testBit b = true
  · rw [if_pos hb, Nat.testBit_two_pow]
    by_cases e : b = i
    · subst e; simp [hb]
    · simp [e]
  · rw [if_neg hb, Nat.zero_testBit]
    by_cases e : b = i
    · subst e
      have hb2 : w.testBit b = false := by cases h : w.testBit b with
        | true => exact absurd h hb
        | false => rfl
      rw [hb2]; rfl
    · simp [e]
theorem mn_ext {F G : Nat → Int} {N : Nat} (h : ∀ i, i < N → F i = G i) (hN : 0 < N) : mnV F N = G (amin (fun _ => true) G N).toNat := by
  unfold mnV
  rw [if_neg (by omega), amin_ext h]
  obtain ⟨b, b1, b2, -⟩ := amin_one (key := G) (n := N) hN
  rw [b1, Int.toNat_natCast]
  exact h b b2
theorem mn_low {F : Nat → Int} {N : Nat} (hN : 0 < N) : (∀ i, i < N → mnV F N ≤ F i) ∧ ∃ b, b < N ∧ mnV F N = F b := by
  obtain ⟨b, b1, b2, b3, -⟩ := amin_one (key := F) (n := N) hN
  have e : mnV F N = F b := by unfold mnV; rw [if_neg (by omega), b1, Int.toNat_natCast]
  rw [e]
  exact ⟨b3, b, b2, rfl⟩
theorem worth_nn {T S La : Nat → Int} {N : Nat} (hN : 0 < N) (h : ∀ i, T i = S i + La i) : 0 ≤ mnV T N - mnV S N - mnV La N := by
  obtain ⟨-, b, b1, b2⟩ := mn_low (F := T) hN
  have h1 := (mn_low (F := S) hN).1 b b1
  have h2 := (mn_low (F := La) hN).1 b b1
  rw [b2, h b]
  omega
theorem WRT_of {σ : Sg} {ℓ ab : Int} {nr nW ng : Nat} {how : Int} {C : List Nat → Nat → Int} (hr : ∀ r, r < nr → RV σ r) (hc : CAN σ nr) (h3 : chn σ nr ≤ 3) (hC : CCX σ ℓ ab nr nW ng how C) (h7 : nr < 7) (hCS : ∀ l ∈ ODR nr, ∀ way, way < 2 ^ chn σ nr → CS σ nr ng (lofS σ ℓ ab nW l (opS σ way) 3) how (C l way)) {room : Nat} (hm : room < nr) (hm4 : σ 4 room ≠ -1) (hm6 : σ 6 room = -1) : WRT σ ℓ ab nr nW ng how (chn σ room) (mnV (fun i => sumN (fun w => wtM σ w nr * C ((ODR nr).getD i []) w) (2 ^ chn σ nr)) (ODR nr).length - mnV (fun i => soS9 σ nr (chn σ room) (C ((ODR nr).getD i [])) (2 ^ chn σ nr)) (ODR nr).length - mnV (fun i => laS9 σ nr (chn σ room) (C ((ODR nr).getD i [])) (2 ^ chn σ nr)) (ODR nr).length) := by
  obtain ⟨I0, hI⟩ : ∃ I0 : sI, I0 = fun a k => if a = 132 then wtX σ k nr else C ((ODR nr).getD k []) (a - 124) := ⟨_, rfl⟩
  obtain ⟨l1, l2⟩ := ODR_len nr h7
  have h8 := p2 h3
  have e0 : ∀ way i, way < 2 ^ chn σ nr → I0 (124 + way) i = C ((ODR nr).getD i []) way := fun way i hw => by
    rw [hI]
    show (if 124 + way = 132 then wtX σ i nr else C ((ODR nr).getD i []) (124 + way - 124)) = _
    rw [if_neg (by omega), Nat.add_sub_cancel_left]
  have hrow : ∀ way, I0 132 way = wtX σ way nr := fun way => by rw [hI]; rfl
  have sm := fun (i : Nat) (hi : i < (ODR nr).length) (mask bits : Nat) (hmm : ∀ a b, SMW σ nr a b → (a &&& mask = bits ↔ b &&& mask = bits)) => sm_eq hr hc h3 hC (l := (ODR nr).getD i []) (fun x hx => dfs_mem nr _ _ (ODR_get hi).1 x hx) (hCS _ (ODR_get hi).1) (i := i) (fun way hw => ⟨hrow way, fun _ => e0 way i hw⟩) hmm
  have tb : ∀ a b, SMW σ nr a b → a.testBit (chn σ room) = b.testBit (chn σ room) := fun a b h => h room hm hm4 hm6
  have p0 : 0 < 2 ^ chn σ room := Nat.two_pow_pos _
  refine ⟨I0, fun way hw => ⟨hrow way, fun _ i l hl => ?_⟩, ?_⟩
  · have hi : i < (ODR nr).length := by
      rcases Nat.lt_or_ge i (ODR nr).length with q | q
      · exact q
      · rw [List.getElem?_eq_none q] at hl; cases hl
    obtain ⟨m1, m2⟩ := ODR_get hi
    rw [m2] at hl
    have := Option.some.inj hl
    rw [e0 way i hw, this]
    exact hCS l (by rw [← this]; exact m1) way hw
  · unfold leS lsS
    congr 1
    · congr 1
      · refine mn_ext (G := fun i => smS I0 0 0 i (2 ^ chn σ nr)) (fun i hi => ?_) (show 0 < (ODR nr).length by omega)
        show _ = smS I0 0 0 i (2 ^ chn σ nr)
        rw [sm i hi 0 0 (fun a b _ => by simp)]
        exact sumN_eq _ (fun w _ => by simp)
      · refine mn_ext (G := fun i => smS I0 (2 ^ chn σ room) 0 i (2 ^ chn σ nr)) (fun i hi => ?_) (show 0 < (ODR nr).length by omega)
        show _ = smS I0 (2 ^ chn σ room) 0 i (2 ^ chn σ nr)
        rw [sm i hi (2 ^ chn σ room) 0 (fun a b h => by rw [and_bit, and_bit, tb a b h])]
        unfold soS9
        refine sumN_eq _ (fun w _ => ?_)
        show (if w.testBit (chn σ room) = true then 0 else wtM σ w nr * C ((ODR nr).getD i []) w) = (if w &&& 2 ^ chn σ room = 0 then wtM σ w nr * C ((ODR nr).getD i []) w else 0)
        rw [and_bit]
        by_cases hb : w.testBit (chn σ room) = true
        · rw [if_pos hb, if_pos hb, if_neg (by omega)]
        · rw [if_neg hb, if_neg hb, if_pos rfl]
    · refine mn_ext (G := fun i => smS I0 (2 ^ chn σ room) (2 ^ chn σ room) i (2 ^ chn σ nr)) (fun i hi => ?_) (show 0 < (ODR nr).length by omega)
      show _ = smS I0 (2 ^ chn σ room) (2 ^ chn σ room) i (2 ^ chn σ nr)
      rw [sm i hi (2 ^ chn σ room) (2 ^ chn σ room) (fun a b h => by rw [and_bit, and_bit, tb a b h])]
      unfold laS9
      refine sumN_eq _ (fun w _ => ?_)
      show (if w.testBit (chn σ room) = true then wtM σ w nr * C ((ODR nr).getD i []) w else 0) = (if w &&& 2 ^ chn σ room = 2 ^ chn σ room then wtM σ w nr * C ((ODR nr).getD i []) w else 0)
      rw [and_bit]
      by_cases hb : w.testBit (chn σ room) = true
      · rw [if_pos hb, if_pos hb, if_pos rfl]
      · rw [if_neg hb, if_neg hb, if_neg (by omega)]
theorem WRT_uq {σ : Sg} {ℓ ab : Int} {nr nW ng : Nat} {how : Int} {bit : Nat} {z z' : Int} (hS : SV σ ℓ nr nW) (hg8 : ng ≤ 8) (hg : ∀ q, q < ng → GV σ q) (h7 : nr < 7) (h : WRT σ ℓ ab nr nW ng how bit z) (h' : WRT σ ℓ ab nr nW ng how bit z') : z = z' := by
  obtain ⟨I0, a1, rfl⟩ := h
  obtain ⟨I1, b1, rfl⟩ := h'
  obtain ⟨l1, l2⟩ := ODR_len nr h7
  have e : ∀ mask bits, leS I0 (2 ^ chn σ nr) (ODR nr).length mask bits = leS I1 (2 ^ chn σ nr) (ODR nr).length mask bits := fun mask bits => by
    unfold leS lsS
    rw [amin_ext (fun i hi => sm_uq hS hg8 hg a1 b1 hi)]
    obtain ⟨b, b1', b2, -⟩ := amin_one (key := fun i => smS I1 mask bits i (2 ^ chn σ nr)) (n := (ODR nr).length) (by omega)
    rw [b1', Int.toNat_natCast]
    exact sm_uq hS hg8 hg a1 b1 b2
  rw [e, e, e]
