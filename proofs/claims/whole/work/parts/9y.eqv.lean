/-! rows of equal numbers; the letters' automaton does not look at what was in its rows -/
section P9y
variable {g : sG} {d : Nat} {M : sM} {mc ms : Nat} {Q : sQ} {pc pc' tgt : Nat} {ls : List (Nat × sV)} {st : List sV} {T : sT} {I L : sI} {R : sR}
theorem r_icmp_same {x : Int} (hd : sJ M.2.1 pc pc' tgt (.if_icmp .eq)) (k : Cp g d M mc ms Q tgt ls st T I L R) : Cp g d M mc ms Q pc ls (vi x :: vi x :: st) T I L R := by
  intro p e Rm s m args below meth c H locs cells slots lR X hH hS hc hs hl
  obtain ⟨off, hd, rfl, ht⟩ := hd
  exact lv_icmp_eq X.1 X.2.1 hd ht (fun h => k p e Rm s m args below meth c H locs cells slots lR X hH hS hc hs hl) (fun h => absurd rfl h)
theorem r_lcmp_same {x : Int} (hd : sD M.2.1 pc 1 pc' .lcmp) (k : Cp g d M mc ms Q pc' ls (vi 0 :: st) T I L R) : Cp g d M mc ms Q pc ls (vl x :: vl x :: st) T I L R := by
  intro p e Rm s m args below meth c H locs cells slots lR X hH hS hc hs hl
  obtain ⟨hd, rfl⟩ := hd
  refine W.lcmp X.1 X.2.1 hd ?_
  have e9 : lg_cmp (Int64.ofInt x) (Int64.ofInt x) = Int32.ofInt 0 := by
    unfold lg_cmp
    have h2 : ¬ Int64.ofInt x < Int64.ofInt x := Int64.lt_irrefl
    simp only [gt_iff_lt, h2, if_true, if_false]; rfl
  rw [e9]
  exact k p e Rm s m args below meth c H locs cells slots lR X hH hS hc hs hl
end P9y
theorem sand31 (z : Int) : 0 ≤ sand z 31 ∧ sand z 31 ≤ 31 := by
  unfold sand
  have e1 : (Int32.ofInt 31).toBitVec.toNat = 2 ^ 5 - 1 := by decide
  have e3 : (Int32.ofInt z &&& Int32.ofInt 31).toBitVec.toNat = (Int32.ofInt z).toBitVec.toNat % 32 := by
    show (_ &&& _ : BitVec 32).toNat = _
    rw [BitVec.toNat_and, e1, Nat.and_two_pow_sub_one_eq_mod]
  have := toInt_of_nat e3 (by omega)
  omega
def EQA (D D' : Sg) : Prop := (D' 20 0 = D 20 0 ∧ D' 20 1 = D 20 1 ∧ D' 20 2 = D 20 2 ∧ D' 20 3 = D 20 3 ∧ D' 20 7 = D 20 7) ∧ (NSA D → D' 20 4 = D 20 4 ∧ D' 20 5 = D 20 5 ∧ D' 20 6 = D 20 6) ∧ ((D 20 7 = 5 ∨ D 20 7 = 6) → D' 3 (lcA D 0) = D 3 (lcA D 0))
theorem eqa_bg {D D' : Sg} (h : EQA D D') {lo hi s : Int} (hs : ¬ (s = 5 ∨ s = 6)) : EQA (scA (bgA D lo hi) 7 s) (scA (bgA D' lo hi) 7 s) := ⟨⟨h.1.1, h.1.2.1, h.1.2.2.1, h.1.2.2.2.1, rfl⟩, fun _ => ⟨rfl, rfl, rfl⟩, fun q => absurd q hs⟩
theorem eqa_mk {E E' : Sg} {s : Int} (e0 : E' 20 0 = E 20 0) (e1 : E' 20 1 = E 20 1) (e2 : E' 20 2 = E 20 2) (e3 : E' 20 3 = E 20 3) (e7 : E 20 7 = s) (e7' : E' 20 7 = s) (hs : ¬ (s = 4 ∨ s = 7 ∨ s = 12 ∨ s = 14 ∨ s = 20)) (h3 : (s = 5 ∨ s = 6) → E' 3 (lcA E 0) = E 3 (lcA E 0)) : EQA E E' := ⟨⟨e0, e1, e2, e3, by rw [e7, e7']⟩, fun q => by unfold NSA at q; rw [e7] at q; exact absurd q hs, fun q => h3 (by rw [e7] at q; exact q)⟩
set_option maxHeartbeats 1600000 in
theorem eqa_step {D D' : Sg} {c : Int} (h : EQA D D') : (mstA D c = none ∧ mstA D' c = none) ∨ ∃ E E', mstA D c = some E ∧ mstA D' c = some E' ∧ EQA E E' := by
  obtain ⟨⟨e0, e1, e2, e3, e7⟩, hn, h3⟩ := id h
  have el : lcA D' 0 = lcA D 0 := by unfold lcA; rw [e0]
  have el1 : lcA D' 1 = lcA D 1 := by unfold lcA; rw [e1]
  have el2 : lcA D' 2 = lcA D 2 := by unfold lcA; rw [e2]
  by_cases hs : NSA D
  · have hs' : NSA D' := by unfold NSA; rw [e7]; exact hs
    obtain ⟨e4, e5, e6⟩ := hn hs
    have ef : ftA D' c = ftA D c := by unfold ftA; rw [e4, e5, e6]
    by_cases hf : ftA D c = true
    · refine Or.inr ⟨_, _, mst_ft hs hf, mst_ft hs' (by rw [ef]; exact hf), ⟨e0, e1, e2, e3, e7⟩, fun _ => ⟨?_, e5, e6⟩, fun q => ?_⟩
      · show (if D' 20 4 = -1 then c - 48 else D' 20 4 * 10 + (c - 48)) = (if D 20 4 = -1 then c - 48 else D 20 4 * 10 + (c - 48))
        rw [e4]
      · have q2 : D 20 7 = 5 ∨ D 20 7 = 6 := q
        unfold NSA at hs
        omega
    · have hf2 : ftA D c = false := Bool.eq_false_iff.mpr hf
      by_cases hv : D 20 4 < D 20 5
      · exact Or.inl ⟨mst_no hs hf2 hv, mst_no hs' (by rw [ef]; exact hf2) (by rw [e4, e5]; exact hv)⟩
      · rw [mst_end hs hf2 hv, mst_end hs' (by rw [ef]; exact hf2) (by rw [e4, e5]; exact hv)]
        have cp : ∀ k, cplA D' 20 k = D' 20 k := fun k => by rw [cpl20]
        have cq : ∀ k, cplA D 20 k = D 20 k := fun k => by rw [cpl20]
        unfold endA
        rw [e7, e3, e0, e1, e2, e4, el1]
        by_cases h47 : D 20 7 = 4 ∨ D 20 7 = 7
        · rw [if_pos h47, if_pos h47]
          by_cases q1 : D 20 7 = 4 ∧ c = 47 ∧ D 20 3 < 3
          · rw [if_pos q1, if_pos q1]
            refine Or.inr ⟨_, _, rfl, rfl, eqa_mk (s := 5) ?_ ?_ ?_ rfl rfl rfl (by decide) (fun _ => ?_)⟩
            · show cplA D' 20 0 = cplA D 20 0; rw [cp, cq]; exact e0
            · show cplA D' 20 1 = cplA D 20 1; rw [cp, cq]; exact e1
            · show cplA D' 20 2 = cplA D 20 2; rw [cp, cq]; exact e2
            · show cplA D' 3 ((cplA D 20 0).toNat - 1) = cplA D 3 ((cplA D 20 0).toNat - 1)
              rw [cq]
              unfold cplA
              rw [e7, if_pos q1.1, if_pos q1.1, el, e4]
              have a1 : up2 D' 3 (lcA D 0) (D 20 4) 3 ((D 20 0).toNat - 1) = D 20 4 := up2_at _ _ _ _
              have a2 : up2 D 3 (lcA D 0) (D 20 4) 3 ((D 20 0).toNat - 1) = D 20 4 := up2_at _ _ _ _
              rw [a1, a2]
          · rw [if_neg q1, if_neg q1]
            by_cases q2 : c = 44
            · rw [if_pos q2, if_pos q2]
              by_cases q3 : D 20 0 < 8
              · rw [if_pos q3, if_pos q3]
                refine Or.inr ⟨_, _, rfl, rfl, eqa_mk (s := 0) ?_ ?_ ?_ ?_ rfl rfl (by decide) (fun q => absurd q (by decide))⟩
                · show cplA D' 20 0 = cplA D 20 0; rw [cp, cq]; exact e0
                · show cplA D' 20 1 = cplA D 20 1; rw [cp, cq]; exact e1
                · show cplA D' 20 2 = cplA D 20 2; rw [cp, cq]; exact e2
                · show cplA D' 20 3 = cplA D 20 3; rw [cp, cq]; exact e3
              · rw [if_neg q3, if_neg q3]; exact Or.inl ⟨rfl, rfl⟩
            · rw [if_neg q2, if_neg q2]
              by_cases q3 : c = 59
              · rw [if_pos q3, if_pos q3]
                refine Or.inr ⟨_, _, rfl, rfl, eqa_mk (s := 10) ?_ ?_ ?_ ?_ rfl rfl (by decide) (fun q => absurd q (by decide))⟩
                · show cplA D' 20 0 = cplA D 20 0; rw [cp, cq]; exact e0
                · show cplA D' 20 1 = cplA D 20 1; rw [cp, cq]; exact e1
                · show cplA D' 20 2 = cplA D 20 2; rw [cp, cq]; exact e2
                · show cplA D' 20 3 = cplA D 20 3; rw [cp, cq]; exact e3
              · rw [if_neg q3, if_neg q3]; exact Or.inl ⟨rfl, rfl⟩
        · rw [if_neg h47, if_neg h47]
          by_cases h12 : D 20 7 = 12
          · rw [if_pos h12, if_pos h12]
            by_cases q2 : c = 116
            · rw [if_pos q2, if_pos q2]
              exact Or.inr ⟨_, _, rfl, rfl, ⟨⟨e0, e1, e2, e3, rfl⟩, fun _ => ⟨rfl, rfl, rfl⟩, fun q => absurd q (by show ¬ ((14 : Int) = 5 ∨ (14 : Int) = 6); decide)⟩⟩
            · rw [if_neg q2, if_neg q2]; exact Or.inl ⟨rfl, rfl⟩
          · rw [if_neg h12, if_neg h12]
            by_cases h14 : D 20 7 = 14
            · rw [if_pos h14, if_pos h14]
              by_cases q2 : c = 44
              · rw [if_pos q2, if_pos q2]
                by_cases q3 : D 20 1 < 3
                · rw [if_pos q3, if_pos q3]
                  exact Or.inr ⟨_, _, rfl, rfl, eqa_mk (s := 10) e0 e1 e2 e3 rfl rfl (by decide) (fun q => absurd q (by decide))⟩
                · rw [if_neg q3, if_neg q3]; exact Or.inl ⟨rfl, rfl⟩
              · rw [if_neg q2, if_neg q2]
                by_cases q3 : c = 59
                · rw [if_pos q3, if_pos q3]
                  exact Or.inr ⟨_, _, rfl, rfl, ⟨⟨e0, e1, e2, e3, rfl⟩, fun _ => ⟨rfl, rfl, rfl⟩, fun q => absurd q (by show ¬ ((20 : Int) = 5 ∨ (20 : Int) = 6); decide)⟩⟩
                · rw [if_neg q3, if_neg q3]; exact Or.inl ⟨rfl, rfl⟩
            · rw [if_neg h14, if_neg h14]
              by_cases q2 : (97 ≤ c ∧ c ≤ 100) ∨ c = 120
              · rw [if_pos q2, if_pos q2]
                exact Or.inr ⟨_, _, rfl, rfl, eqa_mk (s := 21) e0 e1 rfl e3 rfl rfl (by decide) (fun q => absurd q (by decide))⟩
              · rw [if_neg q2, if_neg q2]; exact Or.inl ⟨rfl, rfl⟩
  · have hs' : ¬ NSA D' := by unfold NSA; rw [e7]; exact hs
    rw [mst_pln hs, mst_pln hs']
    unfold plnA
    rw [e7, e0, e1, e2, el, el2]
    by_cases s0 : D 20 7 = 0
    · rw [if_pos s0, if_pos s0]
      by_cases q : 49 ≤ c ∧ c ≤ 54
      · rw [if_pos q, if_pos q]
        exact Or.inr ⟨_, _, rfl, rfl, eqa_mk (s := 1) rfl e1 e2 e3 rfl rfl (by decide) (fun q => absurd q (by decide))⟩
      · rw [if_neg q, if_neg q]; exact Or.inl ⟨rfl, rfl⟩
    · rw [if_neg s0, if_neg s0]
      by_cases s1 : D 20 7 = 1
      · rw [if_pos s1, if_pos s1]
        by_cases q : 97 ≤ c ∧ c ≤ 100
        · rw [if_pos q, if_pos q]
          exact Or.inr ⟨_, _, rfl, rfl, eqa_mk (s := 2) e0 e1 e2 e3 rfl rfl (by decide) (fun q => absurd q (by decide))⟩
        · rw [if_neg q, if_neg q]; exact Or.inl ⟨rfl, rfl⟩
      · rw [if_neg s1, if_neg s1]
        by_cases s2 : D 20 7 = 2
        · rw [if_pos s2, if_pos s2]
          by_cases q : 49 ≤ c ∧ c ≤ 57
          · rw [if_pos q, if_pos q]
            exact Or.inr ⟨_, _, rfl, rfl, eqa_mk (s := 3) e0 e1 e2 e3 rfl rfl (by decide) (fun q => absurd q (by decide))⟩
          · rw [if_neg q, if_neg q]; exact Or.inl ⟨rfl, rfl⟩
        · rw [if_neg s2, if_neg s2]
          by_cases s3 : D 20 7 = 3
          · rw [if_pos s3, if_pos s3]
            by_cases q : c = 103
            · rw [if_pos q, if_pos q]
              exact Or.inr ⟨_, _, rfl, rfl, eqa_bg h (by decide)⟩
            · rw [if_neg q, if_neg q]; exact Or.inl ⟨rfl, rfl⟩
          · rw [if_neg s3, if_neg s3]
            by_cases s4 : D 20 7 = 5
            · rw [if_pos s4, if_pos s4]
              by_cases q : 49 ≤ c ∧ c ≤ 57
              · rw [if_pos q, if_pos q]
                exact Or.inr ⟨_, _, rfl, rfl, eqa_mk (s := 6) e0 e1 e2 e3 rfl rfl (by decide) (fun _ => h3 (by omega))⟩
              · rw [if_neg q, if_neg q]; exact Or.inl ⟨rfl, rfl⟩
            · rw [if_neg s4, if_neg s4]
              by_cases s5 : D 20 7 = 6
              · rw [if_pos s5, if_pos s5]
                by_cases q : c = 103
                · rw [if_pos q, if_pos q]
                  rw [h3 (by omega)]
                  exact Or.inr ⟨_, _, rfl, rfl, eqa_bg h (by decide)⟩
                · rw [if_neg q, if_neg q]; exact Or.inl ⟨rfl, rfl⟩
              · rw [if_neg s5, if_neg s5]
                by_cases s6 : D 20 7 = 10
                · rw [if_pos s6, if_pos s6]
                  by_cases q : 49 ≤ c ∧ c ≤ 54
                  · rw [if_pos q, if_pos q]
                    exact Or.inr ⟨_, _, rfl, rfl, eqa_mk (s := 11) e0 rfl e2 e3 rfl rfl (by decide) (fun q => absurd q (by decide))⟩
                  · rw [if_neg q, if_neg q]; exact Or.inl ⟨rfl, rfl⟩
                · rw [if_neg s6, if_neg s6]
                  by_cases s7 : D 20 7 = 11
                  · rw [if_pos s7, if_pos s7]
                    by_cases q : c = 102
                    · rw [if_pos q, if_pos q]
                      exact Or.inr ⟨_, _, rfl, rfl, eqa_bg h (by decide)⟩
                    · rw [if_neg q, if_neg q]; exact Or.inl ⟨rfl, rfl⟩
                  · rw [if_neg s7, if_neg s7]
                    by_cases s8 : D 20 7 = 21 ∧ c = 104
                    · rw [if_pos s8, if_pos s8]
                      exact Or.inr ⟨_, _, rfl, rfl, eqa_mk (s := 22) e0 e1 e2 e3 rfl rfl (by decide) (fun q => absurd q (by decide))⟩
                    · rw [if_neg s8, if_neg s8]
                      by_cases s9 : D 20 7 = 21 ∨ D 20 7 = 22
                      · rw [if_pos s9, if_pos s9]
                        by_cases q : 49 ≤ c ∧ c ≤ 57
                        · rw [if_pos q, if_pos q]
                          exact Or.inr ⟨_, _, rfl, rfl, eqa_mk (s := 23) e0 e1 e2 e3 rfl rfl (by decide) (fun q => absurd q (by decide))⟩
                        · rw [if_neg q, if_neg q]; exact Or.inl ⟨rfl, rfl⟩
                      · rw [if_neg s9, if_neg s9]
                        by_cases q : c = 44 ∧ D 20 2 < 8
                        · rw [if_pos q, if_pos q]
                          exact Or.inr ⟨_, _, rfl, rfl, eqa_bg h (by decide)⟩
                        · rw [if_neg q, if_neg q]; exact Or.inl ⟨rfl, rfl⟩
theorem eqa_run {pg : Nat → Int} {D0 D0' : Sg} (h : EQA D0 D0') : ∀ k, (runA pg D0 k = none ∧ runA pg D0' k = none) ∨ ∃ D D', runA pg D0 k = some D ∧ runA pg D0' k = some D' ∧ EQA D D'
  | 0 => Or.inr ⟨D0, D0', rfl, rfl, h⟩
  | k + 1 => by
    have e1 : runA pg D0 (k + 1) = (match runA pg D0 k with
      | none => none
      | some E => mstA E (pg k)) := rfl
    have e2 : runA pg D0' (k + 1) = (match runA pg D0' k with
      | none => none
      | some E => mstA E (pg k)) := rfl
    rcases eqa_run (pg := pg) h k with ⟨a, b⟩ | ⟨D, D', a, b, hE⟩
    · rw [e1, e2, a, b]; exact Or.inl ⟨rfl, rfl⟩
    · rw [e1, e2, a, b]; exact eqa_step hE
def D00 : Sg := fun k _ => if k = 4 then -1 else 0
theorem ini00 : iniA D00 := ⟨rfl, rfl, rfl, rfl, rfl⟩
/-- the page tells a house -/
def hOK (pg : Nat → Int) (len : Nat) : Prop := ∃ D, runA pg D00 len = some D ∧ D 20 7 = 23
theorem eqa_ini {D D' : Sg} (h : iniA D) (h' : iniA D') : EQA D D' := by
  obtain ⟨a0, a1, a2, a3, a7⟩ := h
  obtain ⟨b0, b1, b2, b3, b7⟩ := h'
  exact eqa_mk (s := 0) (by rw [a0, b0]) (by rw [a1, b1]) (by rw [a2, b2]) (by rw [a3, b3]) a7 b7 (by decide) (fun q => absurd q (by decide))
theorem hOK_of {pg : Nat → Int} {len p : Nat} {D0 D : Sg} (h0 : iniA D0) (h : stpA pg len D0 p D) : (p = len ∧ D 20 7 = 23) ↔ hOK pg len := by
  constructor
  · intro q
    have hr := h.1
    rw [q.1] at hr
    rcases eqa_run (pg := pg) (eqa_ini h0 ini00) len with ⟨a, -⟩ | ⟨E, E', a, b, hE⟩
    · rw [hr] at a; cases a
    · rw [hr] at a
      have e := Option.some.inj a
      subst e
      exact ⟨E', b, by rw [hE.1.2.2.2.2]; exact q.2⟩
  · intro q
    obtain ⟨E, a, e23⟩ := q
    rcases eqa_run (pg := pg) (eqa_ini ini00 h0) len with ⟨b, -⟩ | ⟨F, F', b, c, hE⟩
    · rw [a] at b; cases b
    · rw [a] at b
      have e := Option.some.inj b
      subst e
      obtain ⟨ep, eD⟩ := stp_uq h ⟨c, Nat.le_refl _, Or.inl rfl⟩
      exact ⟨ep, by rw [eD, hE.1.2.2.2.2]; exact e23⟩
/-! how often one may ask -/
section B9y
variable {σ : Sg} {ℓ : Int} {nr nw ng : Nat} {tl : List Nat} {ukd unn : Nat → Int} {utr utw : Nat → Nat → Nat} {z q q1 : Int}
theorem bBest {how i : Int} (hq : 0 ≤ q ∧ q ≤ 16) (h : aBest σ ℓ nr nw ng how i q z q1) : 0 ≤ q1 ∧ q1 ≤ 16 := by
  by_cases c : bfS nr how i q = 0
  · have e := (h.2 c).1
    have : q < 16 := by
      apply Classical.byContradiction
      intro n
      unfold bfS at c
      by_cases c1 : 0 < nr
      · rw [if_pos c1] at c
        by_cases c2 : (how = 0 ∨ how = 1) ∧ (0 ≤ i ∧ i < 6)
        · rw [if_pos c2, if_neg (fun q => n q.2)] at c; exact absurd c (by decide)
        · rw [if_neg c2] at c; exact absurd c (by decide)
      · rw [if_neg c1] at c; exact absurd c (by decide)
    omega
  · have e := (h.1 c).2
    omega
theorem bCall {how room part : Int} (hq : 0 ≤ q ∧ q ≤ 16) (h : aCall σ ℓ nr nw ng how room part q z q1) : 0 ≤ q1 ∧ q1 ≤ 16 := by
  by_cases c : cfS σ nr how room part q = 0
  · have e := (h.2 c).1
    have : q < 16 := by
      apply Classical.byContradiction
      intro n
      unfold cfS at c
      by_cases c1 : (0 ≤ room ∧ room < nr) ∧ (σ 6 room.toNat = -1 ∧ σ 4 room.toNat ≠ -1)
      · rw [if_pos c1] at c
        by_cases c2 : (how = 0 ∨ how = 1) ∧ (part = 0 ∨ part = 1)
        · rw [if_pos c2, if_neg (fun q => n q.2)] at c; exact absurd c (by decide)
        · rw [if_neg c2] at c; exact absurd c (by decide)
      · rw [if_neg c1] at c; exact absurd c (by decide)
    omega
  · have e := (h.1 c).2
    omega
theorem bCalled {how : Int} (hq : 0 ≤ q ∧ q ≤ 16) (h : aCalled σ ℓ nr nw ng how q z q1) : 0 ≤ q1 ∧ q1 ≤ 16 := by
  by_cases c : dfC nr how q = 0
  · have e := (h.2 c).1
    have : q < 16 := by
      apply Classical.byContradiction
      intro n
      unfold dfC at c
      by_cases c1 : 0 < nr
      · rw [if_pos c1] at c
        by_cases c2 : how = 0 ∨ how = 1
        · rw [if_pos c2, if_neg (fun q => n q.2)] at c; exact absurd c (by decide)
        · rw [if_neg c2] at c; exact absurd c (by decide)
      · rw [if_neg c1] at c; exact absurd c (by decide)
    omega
  · have e := (h.1 c).2
    omega
theorem bWhich {how : Int} (hq : 0 ≤ q ∧ q ≤ 16) (h : aWhich σ ℓ nr nw ng tl ukd unn utr utw how q z q1) : 0 ≤ q1 ∧ q1 ≤ 16 := by
  by_cases c : whF nr how q = 0
  · have e := (h.2 c).1
    have : q < 16 := by
      apply Classical.byContradiction
      intro n
      unfold whF at c
      by_cases c1 : 0 < nr
      · rw [if_pos c1] at c
        by_cases c2 : how = 0 ∨ how = 1
        · rw [if_pos c2, if_neg n] at c; exact absurd c (by decide)
        · rw [if_neg c2] at c; exact absurd c (by decide)
      · rw [if_neg c1] at c; exact absurd c (by decide)
    omega
  · have e := (h.1 c).2
    omega
theorem bMissed {rule how : Int} (hq : 0 ≤ q ∧ q ≤ 16) (h : aMissed σ ℓ nr nw ng tl ukd unn utr utw rule how q z q1) : 0 ≤ q1 ∧ q1 ≤ 16 := by
  by_cases c : mfS tl.length nr rule how q = 0
  · have e := (h.2 c).1
    have : q < 16 := by
      apply Classical.byContradiction
      intro n
      unfold mfS at c
      by_cases c1 : rfS tl.length nr rule how = 0
      · rw [if_pos c1, if_neg n] at c; exact absurd c (by decide)
      · rw [if_neg c1] at c; exact absurd c c1
    omega
  · have e := (h.1 c).2
    omega
theorem bMore {rule how part : Int} (hq : 0 ≤ q ∧ q ≤ 16) (h : aMore σ ℓ nr nw ng tl ukd unn utr utw rule how part q z q1) : 0 ≤ q1 ∧ q1 ≤ 16 := by
  by_cases c : ofS tl.length nr rule how part q = 0
  · have e := (h.2 c).1
    have : q < 16 := by
      apply Classical.byContradiction
      intro n
      unfold ofS at c
      by_cases c1 : 0 ≤ rule ∧ rule < (tl.length : Int)
      · rw [if_pos c1] at c
        by_cases c2 : 0 < nr
        · rw [if_pos c2] at c
          by_cases c3 : (how = 0 ∨ how = 1) ∧ (part = 0 ∨ part = 1)
          · rw [if_pos c3, if_neg n] at c; exact absurd c (by decide)
          · rw [if_neg c3] at c; exact absurd c (by decide)
        · rw [if_neg c2] at c; exact absurd c (by decide)
      · rw [if_neg c1] at c; exact absurd c (by decide)
    omega
  · have e := (h.1 c).2
    omega
end B9y
