/-! how the reference reads a house: what holds of the automaton's memory -/
def IVN (n0 n1 n2 n3 n4 n5 n6 n7 : Int) : Prop := (0 ≤ n0 ∧ n0 ≤ 8) ∧ (0 ≤ n1 ∧ n1 ≤ 3) ∧ (0 ≤ n2 ∧ n2 ≤ 8) ∧ (0 ≤ n3 ∧ n3 ≤ 3) ∧ ((n7 = 0 ∧ n0 < 8) ∨ ((1 ≤ n7 ∧ n7 ≤ 7) ∧ 1 ≤ n0) ∨ (n7 = 10 ∧ n1 < 3) ∨ ((n7 = 11 ∨ n7 = 12 ∨ n7 = 14) ∧ 1 ≤ n1) ∨ (n7 = 20 ∧ n2 < 8) ∨ ((21 ≤ n7 ∧ n7 ≤ 23) ∧ 1 ≤ n2)) ∧ ((n7 = 4 ∨ n7 = 7 ∨ n7 = 12 ∨ n7 = 14 ∨ n7 = 20) → (-1 ≤ n4 ∧ n4 ≤ 99) ∧ (0 ≤ n5 ∧ n5 ≤ 100) ∧ (0 ≤ n6 ∧ n6 ≤ 44)) ∧ (n7 ≤ 7 → n1 = 0) ∧ (n7 ≤ 14 → n2 = 0)
def IVA (D : Sg) : Prop := IVN (D 20 0) (D 20 1) (D 20 2) (D 20 3) (D 20 4) (D 20 5) (D 20 6) (D 20 7) ∧ ((D 20 7 = 5 ∨ D 20 7 = 6) → 0 ≤ D 3 (lcA D 0) ∧ D 3 (lcA D 0) ≤ 99) ∧ ∀ i : Nat, D 20 0 ≤ (i : Int) → D 4 i = -1
theorem iva_ini {D : Sg} (h : iniA D) (h4 : ∀ i, D 4 i = -1) : IVA D := by
  obtain ⟨e0, e1, e2, e3, e7⟩ := h
  refine ⟨?_, fun h => by omega, fun i _ => h4 i⟩
  unfold IVN
  omega
set_option maxHeartbeats 1600000 in
theorem iva_step {D E : Sg} {c : Int} (h : IVA D) (hc : 0 ≤ c ∧ c ≤ 126) (hm : mstA D c = some E) : IVA E := by
  obtain ⟨hn, h3, h4⟩ := h
  unfold IVN at hn
  unfold mstA at hm
  split at hm
  · next hs =>
    split at hm
    · next hf =>
      have e := Option.some.inj hm
      subst e
      unfold ftA at hf
      rw [decide_eq_true_iff] at hf
      unfold gwA
      have hv : -1 ≤ (if D 20 4 = -1 then c - 48 else D 20 4 * 10 + (c - 48)) ∧ (if D 20 4 = -1 then c - 48 else D 20 4 * 10 + (c - 48)) ≤ 99 := by split <;> omega
      generalize (if D 20 4 = -1 then c - 48 else D 20 4 * 10 + (c - 48)) = v at *
      refine ⟨?_, ?_, fun i hi => h4 i hi⟩
      · show IVN (D 20 0) (D 20 1) (D 20 2) (D 20 3) v (D 20 5) (D 20 6) (D 20 7)
        unfold IVN
        omega
      · show (D 20 7 = 5 ∨ D 20 7 = 6) → _
        intro h
        omega
    · split at hm
      · cases hm
      · next hv =>
        unfold endA at hm
        split at hm
        · next h47 =>
          have row4 : ∀ i : Nat, D 20 0 ≤ (i : Int) → cplA D 4 i = -1 := fun i hi => by
            unfold cplA
            split
            · rw [up2_ne _ _ (by decide)]; exact h4 i hi
            · have hl : i ≠ lcA D 0 := by unfold lcA; omega
              rw [up2_nj _ _ hl]; exact h4 i hi
          have c20 : cplA D 20 = D 20 := by
            unfold cplA
            split
            · rw [up2_ne _ _ (by decide)]
            · rw [up2_ne _ _ (by decide)]
          split at hm
          · next hq =>
            have e := Option.some.inj hm
            subst e
            have ec : cplA D = up2 D 3 (lcA D 0) (D 20 4) := by unfold cplA; rw [if_pos hq.1]
            refine ⟨?_, fun _ => ?_, fun i hi => ?_⟩
            · show IVN (cplA D 20 0) (cplA D 20 1) (cplA D 20 2) (D 20 3 + 1) (cplA D 20 4) (cplA D 20 5) (cplA D 20 6) 5
              rw [c20]
              unfold IVN
              omega
            · show 0 ≤ cplA D 3 ((cplA D 20 0).toNat - 1) ∧ cplA D 3 ((cplA D 20 0).toNat - 1) ≤ 99
              rw [c20, ec]
              have e2 : up2 D 3 (lcA D 0) (D 20 4) 3 ((D 20 0).toNat - 1) = D 20 4 := up2_at _ _ _ _
              rw [e2]
              omega
            · have hi2 : cplA D 20 0 ≤ (i : Int) := hi
              rw [c20] at hi2
              exact row4 i hi2
          · split at hm
            · split at hm
              · have e := Option.some.inj hm
                subst e
                refine ⟨?_, ?_, fun i hi => ?_⟩
                · show IVN (cplA D 20 0) (cplA D 20 1) (cplA D 20 2) (cplA D 20 3) (cplA D 20 4) (cplA D 20 5) (cplA D 20 6) 0
                  rw [c20]
                  unfold IVN
                  omega
                · show ((0 : Int) = 5 ∨ (0 : Int) = 6) → _
                  intro h; omega
                · have hi2 : cplA D 20 0 ≤ (i : Int) := hi
                  rw [c20] at hi2
                  exact row4 i hi2
              · cases hm
            · split at hm
              · have e := Option.some.inj hm
                subst e
                refine ⟨?_, ?_, fun i hi => ?_⟩
                · show IVN (cplA D 20 0) (cplA D 20 1) (cplA D 20 2) (cplA D 20 3) (cplA D 20 4) (cplA D 20 5) (cplA D 20 6) 10
                  rw [c20]
                  unfold IVN
                  omega
                · show ((10 : Int) = 5 ∨ (10 : Int) = 6) → _
                  intro h; omega
                · have hi2 : cplA D 20 0 ≤ (i : Int) := hi
                  rw [c20] at hi2
                  exact row4 i hi2
              · cases hm
        · split at hm
          · split at hm
            · have e := Option.some.inj hm
              subst e
              refine ⟨?_, ?_, fun i hi => h4 i hi⟩
              · show IVN (D 20 0) (D 20 1) (D 20 2) (D 20 3) (-1) (D 20 4 + 1) 44 14
                unfold IVN
                omega
              · show ((14 : Int) = 5 ∨ (14 : Int) = 6) → _
                intro h; omega
            · cases hm
          · split at hm
            · split at hm
              · split at hm
                · have e := Option.some.inj hm
                  subst e
                  refine ⟨?_, ?_, fun i hi => h4 i hi⟩
                  · show IVN (D 20 0) (D 20 1) (D 20 2) (D 20 3) (D 20 4) (D 20 5) (D 20 6) 10
                    unfold IVN
                    omega
                  · show ((10 : Int) = 5 ∨ (10 : Int) = 6) → _
                    intro h; omega
                · cases hm
              · split at hm
                · have e := Option.some.inj hm
                  subst e
                  refine ⟨?_, ?_, fun i hi => h4 i hi⟩
                  · show IVN (D 20 0) (D 20 1) (D 20 2) (D 20 3) (-1) 0 44 20
                    unfold IVN
                    omega
                  · show ((20 : Int) = 5 ∨ (20 : Int) = 6) → _
                    intro h; omega
                · cases hm
            · split at hm
              · have e := Option.some.inj hm
                subst e
                refine ⟨?_, ?_, fun i hi => h4 i hi⟩
                · show IVN (D 20 0) (D 20 1) (D 20 2 + 1) (D 20 3) (D 20 4) (D 20 5) (D 20 6) 21
                  unfold IVN
                  omega
                · show ((21 : Int) = 5 ∨ (21 : Int) = 6) → _
                  intro h; omega
              · cases hm
  · next hs =>
    unfold plnA at hm
    by_cases s0 : D 20 7 = 0
    · rw [if_pos s0] at hm
      by_cases q : 49 ≤ c ∧ c ≤ 54
      · rw [if_pos q] at hm
        have e := Option.some.inj hm
        subst e
        refine ⟨?_, ?_, fun i hi => ?_⟩
        · show IVN (D 20 0 + 1) (D 20 1) (D 20 2) (D 20 3) (D 20 4) (D 20 5) (D 20 6) 1
          unfold IVN
          omega
        · show ((1 : Int) = 5 ∨ (1 : Int) = 6) → _
          intro h; omega
        · have hi2 : D 20 0 + 1 ≤ (i : Int) := hi
          show up2 (up2 D 0 (D 20 0).toNat (c - 48)) 4 (D 20 0).toNat (-1) 4 i = -1
          rw [up2_nj _ _ (by omega), up2_ne _ _ (by decide)]
          exact h4 i (by omega)
      · rw [if_neg q] at hm
        cases hm
    · rw [if_neg s0] at hm
      by_cases s1 : D 20 7 = 1
      · rw [if_pos s1] at hm
        by_cases q : 97 ≤ c ∧ c ≤ 100
        · rw [if_pos q] at hm
          have e := Option.some.inj hm
          subst e
          refine ⟨?_, ?_, fun i hi => h4 i hi⟩
          · show IVN (D 20 0) (D 20 1) (D 20 2) (D 20 3) (D 20 4) (D 20 5) (D 20 6) 2
            unfold IVN
            omega
          · show ((2 : Int) = 5 ∨ (2 : Int) = 6) → _
            intro h; omega
        · rw [if_neg q] at hm
          cases hm
      · rw [if_neg s1] at hm
        by_cases s2 : D 20 7 = 2
        · rw [if_pos s2] at hm
          by_cases q : 49 ≤ c ∧ c ≤ 57
          · rw [if_pos q] at hm
            have e := Option.some.inj hm
            subst e
            refine ⟨?_, ?_, fun i hi => h4 i hi⟩
            · show IVN (D 20 0) (D 20 1) (D 20 2) (D 20 3) (D 20 4) (D 20 5) (D 20 6) 3
              unfold IVN
              omega
            · show ((3 : Int) = 5 ∨ (3 : Int) = 6) → _
              intro h; omega
          · rw [if_neg q] at hm
            cases hm
        · rw [if_neg s2] at hm
          by_cases s3 : D 20 7 = 3
          · rw [if_pos s3] at hm
            by_cases q : c = 103
            · rw [if_pos q] at hm
              have e := Option.some.inj hm
              subst e
              refine ⟨?_, ?_, fun i hi => h4 i hi⟩
              · show IVN (D 20 0) (D 20 1) (D 20 2) (D 20 3) (-1) 0 40 4
                unfold IVN
                omega
              · show ((4 : Int) = 5 ∨ (4 : Int) = 6) → _
                intro h; omega
            · rw [if_neg q] at hm
              cases hm
          · rw [if_neg s3] at hm
            by_cases s4 : D 20 7 = 5
            · rw [if_pos s4] at hm
              by_cases q : 49 ≤ c ∧ c ≤ 57
              · rw [if_pos q] at hm
                have e := Option.some.inj hm
                subst e
                refine ⟨?_, fun _ => ?_, fun i hi => h4 i hi⟩
                · show IVN (D 20 0) (D 20 1) (D 20 2) (D 20 3) (D 20 4) (D 20 5) (D 20 6) 6
                  unfold IVN
                  omega
                · show 0 ≤ D 3 (lcA D 0) ∧ D 3 (lcA D 0) ≤ 99
                  exact h3 (by omega)
              · rw [if_neg q] at hm
                cases hm
            · rw [if_neg s4] at hm
              by_cases s5 : D 20 7 = 6
              · rw [if_pos s5] at hm
                by_cases q : c = 103
                · rw [if_pos q] at hm
                  have e := Option.some.inj hm
                  subst e
                  have h3' := h3 (by omega)
                  refine ⟨?_, ?_, fun i hi => h4 i hi⟩
                  · show IVN (D 20 0) (D 20 1) (D 20 2) (D 20 3) (-1) (D 3 (lcA D 0) + 1) 41 7
                    unfold IVN
                    omega
                  · show ((7 : Int) = 5 ∨ (7 : Int) = 6) → _
                    intro h; omega
                · rw [if_neg q] at hm
                  cases hm
              · rw [if_neg s5] at hm
                by_cases s6 : D 20 7 = 10
                · rw [if_pos s6] at hm
                  by_cases q : 49 ≤ c ∧ c ≤ 54
                  · rw [if_pos q] at hm
                    have e := Option.some.inj hm
                    subst e
                    refine ⟨?_, ?_, fun i hi => h4 i hi⟩
                    · show IVN (D 20 0) (D 20 1 + 1) (D 20 2) (D 20 3) (D 20 4) (D 20 5) (D 20 6) 11
                      unfold IVN
                      omega
                    · show ((11 : Int) = 5 ∨ (11 : Int) = 6) → _
                      intro h; omega
                  · rw [if_neg q] at hm
                    cases hm
                · rw [if_neg s6] at hm
                  by_cases s7 : D 20 7 = 11
                  · rw [if_pos s7] at hm
                    by_cases q : c = 102
                    · rw [if_pos q] at hm
                      have e := Option.some.inj hm
                      subst e
                      refine ⟨?_, ?_, fun i hi => h4 i hi⟩
                      · show IVN (D 20 0) (D 20 1) (D 20 2) (D 20 3) (-1) 0 40 12
                        unfold IVN
                        omega
                      · show ((12 : Int) = 5 ∨ (12 : Int) = 6) → _
                        intro h; omega
                    · rw [if_neg q] at hm
                      cases hm
                  · rw [if_neg s7] at hm
                    by_cases s8 : D 20 7 = 21 ∧ c = 104
                    · rw [if_pos s8] at hm
                      have e := Option.some.inj hm
                      subst e
                      refine ⟨?_, ?_, fun i hi => h4 i hi⟩
                      · show IVN (D 20 0) (D 20 1) (D 20 2) (D 20 3) (D 20 4) (D 20 5) (D 20 6) 22
                        unfold IVN
                        omega
                      · show ((22 : Int) = 5 ∨ (22 : Int) = 6) → _
                        intro h; omega
                    · rw [if_neg s8] at hm
                      by_cases s9 : D 20 7 = 21 ∨ D 20 7 = 22
                      · rw [if_pos s9] at hm
                        by_cases q : 49 ≤ c ∧ c ≤ 57
                        · rw [if_pos q] at hm
                          have e := Option.some.inj hm
                          subst e
                          refine ⟨?_, ?_, fun i hi => h4 i hi⟩
                          · show IVN (D 20 0) (D 20 1) (D 20 2) (D 20 3) (D 20 4) (D 20 5) (D 20 6) 23
                            unfold IVN
                            omega
                          · show ((23 : Int) = 5 ∨ (23 : Int) = 6) → _
                            intro h; omega
                        · rw [if_neg q] at hm
                          cases hm
                      · rw [if_neg s9] at hm
                        by_cases q : c = 44 ∧ D 20 2 < 8
                        · rw [if_pos q] at hm
                          have e := Option.some.inj hm
                          subst e
                          refine ⟨?_, ?_, fun i hi => h4 i hi⟩
                          · show IVN (D 20 0) (D 20 1) (D 20 2) (D 20 3) (-1) 0 44 20
                            unfold IVN
                            omega
                          · show ((20 : Int) = 5 ∨ (20 : Int) = 6) → _
                            intro h; omega
                        · rw [if_neg q] at hm
                          cases hm
/-- rows and counts of the automaton, in the reference's memory -/
def ARM (D : Sg) (I : sI) : Prop := (I 159 = D 0 ∧ I 160 = D 1 ∧ I 161 = D 2 ∧ I 162 = D 3 ∧ I 164 = D 5 ∧ I 165 = D 7 ∧ I 166 = D 8 ∧ I 167 = D 9 ∧ I 168 = D 10 ∧ I 169 = D 11 ∧ I 170 = D 12 ∧ I 171 = D 13) ∧ (∀ i : Nat, (i : Int) < D 20 0 → I 163 i = D 4 i) ∧ (I 139 32 = D 20 0 ∧ I 139 33 = D 20 1 ∧ I 139 34 = D 20 2 ∧ I 139 35 = D 20 3)
/-- the number at hand -/
def NBM (D : Sg) (I : sI) : Prop := I 139 49 = D 20 4 ∧ I 139 50 = D 20 5 ∧ I 139 51 = D 20 6
def AMX (D : Sg) (I : sI) : Prop := ARM D I ∧ (NSA D → NBM D I)
/-- what reading may change -/
def FHM (I I' : sI) : Prop := (∀ a, a ≠ 139 → (a < 159 ∨ 172 ≤ a) → I' a = I a) ∧ (∀ k, (k < 30 ∨ (35 < k ∧ k < 49) ∨ 51 < k) → I' 139 k = I 139 k)
theorem FHM_rf {I : sI} : FHM I I := ⟨fun _ _ _ => rfl, fun _ _ => rfl⟩
theorem FHM_tr {I J K : sI} (h : FHM I J) (k : FHM J K) : FHM I K := ⟨fun a h1 h2 => (k.1 a h1 h2).trans (h.1 a h1 h2), fun x hx => (k.2 x hx).trans (h.2 x hx)⟩
theorem FHM_row {I J : sI} (h : FHM I J) {a i : Nat} {v : Int} (ha : 159 ≤ a ∧ a < 172) : FHM I (up2 J a i v) := ⟨fun b h1 h2 => by rw [up2_ne _ _ (by omega)]; exact h.1 b h1 h2, fun k hk => by rw [up2_ne _ _ (by omega)]; exact h.2 k hk⟩
theorem FHM_sl {I J : sI} (h : FHM I J) {i : Nat} {v : Int} (hi : (30 ≤ i ∧ i ≤ 35) ∨ (49 ≤ i ∧ i ≤ 51)) : FHM I (up2 J 139 i v) := ⟨fun b h1 h2 => by rw [up2_ne _ _ h1]; exact h.1 b h1 h2, fun k hk => by rw [up2_nj _ _ (by omega)]; exact h.2 k hk⟩
theorem up2_row {α : Type} {f g : Nat → Nat → α} {a b i : Nat} {v : α} (h : f a = g b) : up2 f a i v a = up2 g b i v b := by
  funext j
  unfold up2
  rw [if_pos rfl, if_pos rfl, h]
section A9s
variable {D : Sg} {I : sI} {x : Int}
theorem ARM_sc (h : ARM D I) {j : Nat} (hj : 4 ≤ j) : ARM (scA D j x) I := by
  obtain ⟨a, b, e1, e2, e3, e4⟩ := h
  have q : ∀ k, k < 4 → scA D j x 20 k = D 20 k := fun k hk => sc_nj (by omega)
  exact ⟨a, fun i hi => b i (by rw [q 0 (by decide)] at hi; exact hi), by rw [q 0 (by decide)]; exact e1, by rw [q 1 (by decide)]; exact e2, by rw [q 2 (by decide)]; exact e3, by rw [q 3 (by decide)]; exact e4⟩
theorem ARM_num (h : ARM D I) {j : Nat} (hj : 35 < j) : ARM D (up2 I 139 j x) := by
  obtain ⟨a, b, e1, e2, e3, e4⟩ := h
  refine ⟨?_, fun i hi => ?_, ?_⟩
  · rw [up2_ne _ _ (by decide), up2_ne _ _ (by decide), up2_ne _ _ (by decide), up2_ne _ _ (by decide), up2_ne _ _ (by decide), up2_ne _ _ (by decide), up2_ne _ _ (by decide), up2_ne _ _ (by decide), up2_ne _ _ (by decide), up2_ne _ _ (by decide), up2_ne _ _ (by decide), up2_ne _ _ (by decide)]
    exact a
  · rw [up2_ne _ _ (by decide)]; exact b i hi
  · rw [up2_nj _ _ (by omega), up2_nj _ _ (by omega), up2_nj _ _ (by omega), up2_nj _ _ (by omega)]
    exact ⟨e1, e2, e3, e4⟩
theorem ARM_bg (h : ARM D I) {lo hi : Int} : ARM (bgA D lo hi) (up2 (up2 (up2 I 139 49 (-1)) 139 50 lo) 139 51 hi) := ARM_num (ARM_num (ARM_num (ARM_sc (ARM_sc (ARM_sc h (by decide)) (by decide)) (by decide)) (by decide)) (by decide)) (by decide)
theorem NBM_bg {lo hi : Int} : NBM (bgA D lo hi) (up2 (up2 (up2 I 139 49 (-1)) 139 50 lo) 139 51 hi) := ⟨by rw [up2_nj _ _ (by decide), up2_nj _ _ (by decide), up2_at]; rfl, by rw [up2_nj _ _ (by decide), up2_at]; rfl, by rw [up2_at]; rfl⟩
theorem AMX_bg (h : ARM D I) {lo hi s : Int} : AMX (scA (bgA D lo hi) 7 s) (up2 (up2 (up2 I 139 49 (-1)) 139 50 lo) 139 51 hi) := ⟨ARM_sc (ARM_bg h) (by decide), fun _ => NBM_bg⟩
theorem ARM_cnt (h : ARM D I) {j : Nat} (hj : j = 1 ∨ j = 2 ∨ j = 3) : ARM (scA D j x) (up2 I 139 (32 + j) x) := by
  obtain ⟨a, b, e1, e2, e3, e4⟩ := h
  refine ⟨?_, fun i hi => ?_, ?_⟩
  · rw [up2_ne _ _ (by decide), up2_ne _ _ (by decide), up2_ne _ _ (by decide), up2_ne _ _ (by decide), up2_ne _ _ (by decide), up2_ne _ _ (by decide), up2_ne _ _ (by decide), up2_ne _ _ (by decide), up2_ne _ _ (by decide), up2_ne _ _ (by decide), up2_ne _ _ (by decide), up2_ne _ _ (by decide)]
    exact a
  · rw [up2_ne _ _ (by decide)]
    rw [sc_nj (by omega)] at hi
    exact b i hi
  · rcases hj with rfl | rfl | rfl
    · exact ⟨e1, rfl, e3, e4⟩
    · exact ⟨e1, e2, rfl, e4⟩
    · exact ⟨e1, e2, e3, rfl⟩
theorem ARM_new (h : ARM D I) {n : Nat} (hn : D 20 0 = (n : Int)) (h4 : I 163 n = D 4 n) : ARM (scA D 0 (D 20 0 + 1)) (up2 I 139 32 (D 20 0 + 1)) := by
  obtain ⟨a, b, e1, e2, e3, e4⟩ := h
  refine ⟨?_, fun i hi => ?_, ⟨rfl, e2, e3, e4⟩⟩
  · rw [up2_ne _ _ (by decide), up2_ne _ _ (by decide), up2_ne _ _ (by decide), up2_ne _ _ (by decide), up2_ne _ _ (by decide), up2_ne _ _ (by decide), up2_ne _ _ (by decide), up2_ne _ _ (by decide), up2_ne _ _ (by decide), up2_ne _ _ (by decide), up2_ne _ _ (by decide), up2_ne _ _ (by decide)]
    exact a
  · rw [up2_ne _ _ (by decide)]
    have hi2 : (i : Int) < D 20 0 + 1 := hi
    by_cases e : i = n
    · rw [e]; exact h4
    · exact b i (by omega)
theorem ARM_159 (h : ARM D I) {i : Nat} {v : Int} : ARM (up2 D 0 i v) (up2 I 159 i v) := by
  obtain ⟨⟨a0, a1, a2, a3, a4, a5, a6, a7, a8, a9, a10, a11⟩, b, e⟩ := h
  exact ⟨⟨up2_row a0, by rw [up2_ne _ _ (by decide), up2_ne _ _ (by decide)]; exact a1, by rw [up2_ne _ _ (by decide), up2_ne _ _ (by decide)]; exact a2, by rw [up2_ne _ _ (by decide), up2_ne _ _ (by decide)]; exact a3, by rw [up2_ne _ _ (by decide), up2_ne _ _ (by decide)]; exact a4, by rw [up2_ne _ _ (by decide), up2_ne _ _ (by decide)]; exact a5, by rw [up2_ne _ _ (by decide), up2_ne _ _ (by decide)]; exact a6, by rw [up2_ne _ _ (by decide), up2_ne _ _ (by decide)]; exact a7, by rw [up2_ne _ _ (by decide), up2_ne _ _ (by decide)]; exact a8, by rw [up2_ne _ _ (by decide), up2_ne _ _ (by decide)]; exact a9, by rw [up2_ne _ _ (by decide), up2_ne _ _ (by decide)]; exact a10, by rw [up2_ne _ _ (by decide), up2_ne _ _ (by decide)]; exact a11⟩, fun i hi => by rw [up2_ne _ _ (by decide), up2_ne _ _ (by decide)]; exact b i hi, by rw [up2_ne _ _ (by decide), up2_ne _ _ (by decide)]; exact e⟩
theorem ARM_160 (h : ARM D I) {i : Nat} {v : Int} : ARM (up2 D 1 i v) (up2 I 160 i v) := by
  obtain ⟨⟨a0, a1, a2, a3, a4, a5, a6, a7, a8, a9, a10, a11⟩, b, e⟩ := h
  exact ⟨⟨by rw [up2_ne _ _ (by decide), up2_ne _ _ (by decide)]; exact a0, up2_row a1, by rw [up2_ne _ _ (by decide), up2_ne _ _ (by decide)]; exact a2, by rw [up2_ne _ _ (by decide), up2_ne _ _ (by decide)]; exact a3, by rw [up2_ne _ _ (by decide), up2_ne _ _ (by decide)]; exact a4, by rw [up2_ne _ _ (by decide), up2_ne _ _ (by decide)]; exact a5, by rw [up2_ne _ _ (by decide), up2_ne _ _ (by decide)]; exact a6, by rw [up2_ne _ _ (by decide), up2_ne _ _ (by decide)]; exact a7, by rw [up2_ne _ _ (by decide), up2_ne _ _ (by decide)]; exact a8, by rw [up2_ne _ _ (by decide), up2_ne _ _ (by decide)]; exact a9, by rw [up2_ne _ _ (by decide), up2_ne _ _ (by decide)]; exact a10, by rw [up2_ne _ _ (by decide), up2_ne _ _ (by decide)]; exact a11⟩, fun i hi => by rw [up2_ne _ _ (by decide), up2_ne _ _ (by decide)]; exact b i hi, by rw [up2_ne _ _ (by decide), up2_ne _ _ (by decide)]; exact e⟩
theorem ARM_161 (h : ARM D I) {i : Nat} {v : Int} : ARM (up2 D 2 i v) (up2 I 161 i v) := by
  obtain ⟨⟨a0, a1, a2, a3, a4, a5, a6, a7, a8, a9, a10, a11⟩, b, e⟩ := h
  exact ⟨⟨by rw [up2_ne _ _ (by decide), up2_ne _ _ (by decide)]; exact a0, by rw [up2_ne _ _ (by decide), up2_ne _ _ (by decide)]; exact a1, up2_row a2, by rw [up2_ne _ _ (by decide), up2_ne _ _ (by decide)]; exact a3, by rw [up2_ne _ _ (by decide), up2_ne _ _ (by decide)]; exact a4, by rw [up2_ne _ _ (by decide), up2_ne _ _ (by decide)]; exact a5, by rw [up2_ne _ _ (by decide), up2_ne _ _ (by decide)]; exact a6, by rw [up2_ne _ _ (by decide), up2_ne _ _ (by decide)]; exact a7, by rw [up2_ne _ _ (by decide), up2_ne _ _ (by decide)]; exact a8, by rw [up2_ne _ _ (by decide), up2_ne _ _ (by decide)]; exact a9, by rw [up2_ne _ _ (by decide), up2_ne _ _ (by decide)]; exact a10, by rw [up2_ne _ _ (by decide), up2_ne _ _ (by decide)]; exact a11⟩, fun i hi => by rw [up2_ne _ _ (by decide), up2_ne _ _ (by decide)]; exact b i hi, by rw [up2_ne _ _ (by decide), up2_ne _ _ (by decide)]; exact e⟩
theorem ARM_162 (h : ARM D I) {i : Nat} {v : Int} : ARM (up2 D 3 i v) (up2 I 162 i v) := by
  obtain ⟨⟨a0, a1, a2, a3, a4, a5, a6, a7, a8, a9, a10, a11⟩, b, e⟩ := h
  exact ⟨⟨by rw [up2_ne _ _ (by decide), up2_ne _ _ (by decide)]; exact a0, by rw [up2_ne _ _ (by decide), up2_ne _ _ (by decide)]; exact a1, by rw [up2_ne _ _ (by decide), up2_ne _ _ (by decide)]; exact a2, up2_row a3, by rw [up2_ne _ _ (by decide), up2_ne _ _ (by decide)]; exact a4, by rw [up2_ne _ _ (by decide), up2_ne _ _ (by decide)]; exact a5, by rw [up2_ne _ _ (by decide), up2_ne _ _ (by decide)]; exact a6, by rw [up2_ne _ _ (by decide), up2_ne _ _ (by decide)]; exact a7, by rw [up2_ne _ _ (by decide), up2_ne _ _ (by decide)]; exact a8, by rw [up2_ne _ _ (by decide), up2_ne _ _ (by decide)]; exact a9, by rw [up2_ne _ _ (by decide), up2_ne _ _ (by decide)]; exact a10, by rw [up2_ne _ _ (by decide), up2_ne _ _ (by decide)]; exact a11⟩, fun i hi => by rw [up2_ne _ _ (by decide), up2_ne _ _ (by decide)]; exact b i hi, by rw [up2_ne _ _ (by decide), up2_ne _ _ (by decide)]; exact e⟩
theorem ARM_164 (h : ARM D I) {i : Nat} {v : Int} : ARM (up2 D 5 i v) (up2 I 164 i v) := by
  obtain ⟨⟨a0, a1, a2, a3, a4, a5, a6, a7, a8, a9, a10, a11⟩, b, e⟩ := h
  exact ⟨⟨by rw [up2_ne _ _ (by decide), up2_ne _ _ (by decide)]; exact a0, by rw [up2_ne _ _ (by decide), up2_ne _ _ (by decide)]; exact a1, by rw [up2_ne _ _ (by decide), up2_ne _ _ (by decide)]; exact a2, by rw [up2_ne _ _ (by decide), up2_ne _ _ (by decide)]; exact a3, up2_row a4, by rw [up2_ne _ _ (by decide), up2_ne _ _ (by decide)]; exact a5, by rw [up2_ne _ _ (by decide), up2_ne _ _ (by decide)]; exact a6, by rw [up2_ne _ _ (by decide), up2_ne _ _ (by decide)]; exact a7, by rw [up2_ne _ _ (by decide), up2_ne _ _ (by decide)]; exact a8, by rw [up2_ne _ _ (by decide), up2_ne _ _ (by decide)]; exact a9, by rw [up2_ne _ _ (by decide), up2_ne _ _ (by decide)]; exact a10, by rw [up2_ne _ _ (by decide), up2_ne _ _ (by decide)]; exact a11⟩, fun i hi => by rw [up2_ne _ _ (by decide), up2_ne _ _ (by decide)]; exact b i hi, by rw [up2_ne _ _ (by decide), up2_ne _ _ (by decide)]; exact e⟩
theorem ARM_165 (h : ARM D I) {i : Nat} {v : Int} : ARM (up2 D 7 i v) (up2 I 165 i v) := by
  obtain ⟨⟨a0, a1, a2, a3, a4, a5, a6, a7, a8, a9, a10, a11⟩, b, e⟩ := h
  exact ⟨⟨by rw [up2_ne _ _ (by decide), up2_ne _ _ (by decide)]; exact a0, by rw [up2_ne _ _ (by decide), up2_ne _ _ (by decide)]; exact a1, by rw [up2_ne _ _ (by decide), up2_ne _ _ (by decide)]; exact a2, by rw [up2_ne _ _ (by decide), up2_ne _ _ (by decide)]; exact a3, by rw [up2_ne _ _ (by decide), up2_ne _ _ (by decide)]; exact a4, up2_row a5, by rw [up2_ne _ _ (by decide), up2_ne _ _ (by decide)]; exact a6, by rw [up2_ne _ _ (by decide), up2_ne _ _ (by decide)]; exact a7, by rw [up2_ne _ _ (by decide), up2_ne _ _ (by decide)]; exact a8, by rw [up2_ne _ _ (by decide), up2_ne _ _ (by decide)]; exact a9, by rw [up2_ne _ _ (by decide), up2_ne _ _ (by decide)]; exact a10, by rw [up2_ne _ _ (by decide), up2_ne _ _ (by decide)]; exact a11⟩, fun i hi => by rw [up2_ne _ _ (by decide), up2_ne _ _ (by decide)]; exact b i hi, by rw [up2_ne _ _ (by decide), up2_ne _ _ (by decide)]; exact e⟩
theorem ARM_166 (h : ARM D I) {i : Nat} {v : Int} : ARM (up2 D 8 i v) (up2 I 166 i v) := by
  obtain ⟨⟨a0, a1, a2, a3, a4, a5, a6, a7, a8, a9, a10, a11⟩, b, e⟩ := h
  exact ⟨⟨by rw [up2_ne _ _ (by decide), up2_ne _ _ (by decide)]; exact a0, by rw [up2_ne _ _ (by decide), up2_ne _ _ (by decide)]; exact a1, by rw [up2_ne _ _ (by decide), up2_ne _ _ (by decide)]; exact a2, by rw [up2_ne _ _ (by decide), up2_ne _ _ (by decide)]; exact a3, by rw [up2_ne _ _ (by decide), up2_ne _ _ (by decide)]; exact a4, by rw [up2_ne _ _ (by decide), up2_ne _ _ (by decide)]; exact a5, up2_row a6, by rw [up2_ne _ _ (by decide), up2_ne _ _ (by decide)]; exact a7, by rw [up2_ne _ _ (by decide), up2_ne _ _ (by decide)]; exact a8, by rw [up2_ne _ _ (by decide), up2_ne _ _ (by decide)]; exact a9, by rw [up2_ne _ _ (by decide), up2_ne _ _ (by decide)]; exact a10, by rw [up2_ne _ _ (by decide), up2_ne _ _ (by decide)]; exact a11⟩, fun i hi => by rw [up2_ne _ _ (by decide), up2_ne _ _ (by decide)]; exact b i hi, by rw [up2_ne _ _ (by decide), up2_ne _ _ (by decide)]; exact e⟩
theorem ARM_167 (h : ARM D I) {i : Nat} {v : Int} : ARM (up2 D 9 i v) (up2 I 167 i v) := by
  obtain ⟨⟨a0, a1, a2, a3, a4, a5, a6, a7, a8, a9, a10, a11⟩, b, e⟩ := h
  exact ⟨⟨by rw [up2_ne _ _ (by decide), up2_ne _ _ (by decide)]; exact a0, by rw [up2_ne _ _ (by decide), up2_ne _ _ (by decide)]; exact a1, by rw [up2_ne _ _ (by decide), up2_ne _ _ (by decide)]; exact a2, by rw [up2_ne _ _ (by decide), up2_ne _ _ (by decide)]; exact a3, by rw [up2_ne _ _ (by decide), up2_ne _ _ (by decide)]; exact a4, by rw [up2_ne _ _ (by decide), up2_ne _ _ (by decide)]; exact a5, by rw [up2_ne _ _ (by decide), up2_ne _ _ (by decide)]; exact a6, up2_row a7, by rw [up2_ne _ _ (by decide), up2_ne _ _ (by decide)]; exact a8, by rw [up2_ne _ _ (by decide), up2_ne _ _ (by decide)]; exact a9, by rw [up2_ne _ _ (by decide), up2_ne _ _ (by decide)]; exact a10, by rw [up2_ne _ _ (by decide), up2_ne _ _ (by decide)]; exact a11⟩, fun i hi => by rw [up2_ne _ _ (by decide), up2_ne _ _ (by decide)]; exact b i hi, by rw [up2_ne _ _ (by decide), up2_ne _ _ (by decide)]; exact e⟩
theorem ARM_168 (h : ARM D I) {i : Nat} {v : Int} : ARM (up2 D 10 i v) (up2 I 168 i v) := by
  obtain ⟨⟨a0, a1, a2, a3, a4, a5, a6, a7, a8, a9, a10, a11⟩, b, e⟩ := h
  exact ⟨⟨by rw [up2_ne _ _ (by decide), up2_ne _ _ (by decide)]; exact a0, by rw [up2_ne _ _ (by decide), up2_ne _ _ (by decide)]; exact a1, by rw [up2_ne _ _ (by decide), up2_ne _ _ (by decide)]; exact a2, by rw [up2_ne _ _ (by decide), up2_ne _ _ (by decide)]; exact a3, by rw [up2_ne _ _ (by decide), up2_ne _ _ (by decide)]; exact a4, by rw [up2_ne _ _ (by decide), up2_ne _ _ (by decide)]; exact a5, by rw [up2_ne _ _ (by decide), up2_ne _ _ (by decide)]; exact a6, by rw [up2_ne _ _ (by decide), up2_ne _ _ (by decide)]; exact a7, up2_row a8, by rw [up2_ne _ _ (by decide), up2_ne _ _ (by decide)]; exact a9, by rw [up2_ne _ _ (by decide), up2_ne _ _ (by decide)]; exact a10, by rw [up2_ne _ _ (by decide), up2_ne _ _ (by decide)]; exact a11⟩, fun i hi => by rw [up2_ne _ _ (by decide), up2_ne _ _ (by decide)]; exact b i hi, by rw [up2_ne _ _ (by decide), up2_ne _ _ (by decide)]; exact e⟩
theorem ARM_169 (h : ARM D I) {i : Nat} {v : Int} : ARM (up2 D 11 i v) (up2 I 169 i v) := by
  obtain ⟨⟨a0, a1, a2, a3, a4, a5, a6, a7, a8, a9, a10, a11⟩, b, e⟩ := h
  exact ⟨⟨by rw [up2_ne _ _ (by decide), up2_ne _ _ (by decide)]; exact a0, by rw [up2_ne _ _ (by decide), up2_ne _ _ (by decide)]; exact a1, by rw [up2_ne _ _ (by decide), up2_ne _ _ (by decide)]; exact a2, by rw [up2_ne _ _ (by decide), up2_ne _ _ (by decide)]; exact a3, by rw [up2_ne _ _ (by decide), up2_ne _ _ (by decide)]; exact a4, by rw [up2_ne _ _ (by decide), up2_ne _ _ (by decide)]; exact a5, by rw [up2_ne _ _ (by decide), up2_ne _ _ (by decide)]; exact a6, by rw [up2_ne _ _ (by decide), up2_ne _ _ (by decide)]; exact a7, by rw [up2_ne _ _ (by decide), up2_ne _ _ (by decide)]; exact a8, up2_row a9, by rw [up2_ne _ _ (by decide), up2_ne _ _ (by decide)]; exact a10, by rw [up2_ne _ _ (by decide), up2_ne _ _ (by decide)]; exact a11⟩, fun i hi => by rw [up2_ne _ _ (by decide), up2_ne _ _ (by decide)]; exact b i hi, by rw [up2_ne _ _ (by decide), up2_ne _ _ (by decide)]; exact e⟩
theorem ARM_170 (h : ARM D I) {i : Nat} {v : Int} : ARM (up2 D 12 i v) (up2 I 170 i v) := by
  obtain ⟨⟨a0, a1, a2, a3, a4, a5, a6, a7, a8, a9, a10, a11⟩, b, e⟩ := h
  exact ⟨⟨by rw [up2_ne _ _ (by decide), up2_ne _ _ (by decide)]; exact a0, by rw [up2_ne _ _ (by decide), up2_ne _ _ (by decide)]; exact a1, by rw [up2_ne _ _ (by decide), up2_ne _ _ (by decide)]; exact a2, by rw [up2_ne _ _ (by decide), up2_ne _ _ (by decide)]; exact a3, by rw [up2_ne _ _ (by decide), up2_ne _ _ (by decide)]; exact a4, by rw [up2_ne _ _ (by decide), up2_ne _ _ (by decide)]; exact a5, by rw [up2_ne _ _ (by decide), up2_ne _ _ (by decide)]; exact a6, by rw [up2_ne _ _ (by decide), up2_ne _ _ (by decide)]; exact a7, by rw [up2_ne _ _ (by decide), up2_ne _ _ (by decide)]; exact a8, by rw [up2_ne _ _ (by decide), up2_ne _ _ (by decide)]; exact a9, up2_row a10, by rw [up2_ne _ _ (by decide), up2_ne _ _ (by decide)]; exact a11⟩, fun i hi => by rw [up2_ne _ _ (by decide), up2_ne _ _ (by decide)]; exact b i hi, by rw [up2_ne _ _ (by decide), up2_ne _ _ (by decide)]; exact e⟩
theorem ARM_171 (h : ARM D I) {i : Nat} {v : Int} : ARM (up2 D 13 i v) (up2 I 171 i v) := by
  obtain ⟨⟨a0, a1, a2, a3, a4, a5, a6, a7, a8, a9, a10, a11⟩, b, e⟩ := h
  exact ⟨⟨by rw [up2_ne _ _ (by decide), up2_ne _ _ (by decide)]; exact a0, by rw [up2_ne _ _ (by decide), up2_ne _ _ (by decide)]; exact a1, by rw [up2_ne _ _ (by decide), up2_ne _ _ (by decide)]; exact a2, by rw [up2_ne _ _ (by decide), up2_ne _ _ (by decide)]; exact a3, by rw [up2_ne _ _ (by decide), up2_ne _ _ (by decide)]; exact a4, by rw [up2_ne _ _ (by decide), up2_ne _ _ (by decide)]; exact a5, by rw [up2_ne _ _ (by decide), up2_ne _ _ (by decide)]; exact a6, by rw [up2_ne _ _ (by decide), up2_ne _ _ (by decide)]; exact a7, by rw [up2_ne _ _ (by decide), up2_ne _ _ (by decide)]; exact a8, by rw [up2_ne _ _ (by decide), up2_ne _ _ (by decide)]; exact a9, by rw [up2_ne _ _ (by decide), up2_ne _ _ (by decide)]; exact a10, up2_row a11⟩, fun i hi => by rw [up2_ne _ _ (by decide), up2_ne _ _ (by decide)]; exact b i hi, by rw [up2_ne _ _ (by decide), up2_ne _ _ (by decide)]; exact e⟩
theorem ARM_163 (h : ARM D I) {i : Nat} {v : Int} : ARM (up2 D 4 i v) (up2 I 163 i v) := by
  obtain ⟨⟨a0, a1, a2, a3, a4, a5, a6, a7, a8, a9, a10, a11⟩, b, e⟩ := h
  refine ⟨⟨by rw [up2_ne _ _ (by decide), up2_ne _ _ (by decide)]; exact a0, by rw [up2_ne _ _ (by decide), up2_ne _ _ (by decide)]; exact a1, by rw [up2_ne _ _ (by decide), up2_ne _ _ (by decide)]; exact a2, by rw [up2_ne _ _ (by decide), up2_ne _ _ (by decide)]; exact a3, by rw [up2_ne _ _ (by decide), up2_ne _ _ (by decide)]; exact a4, by rw [up2_ne _ _ (by decide), up2_ne _ _ (by decide)]; exact a5, by rw [up2_ne _ _ (by decide), up2_ne _ _ (by decide)]; exact a6, by rw [up2_ne _ _ (by decide), up2_ne _ _ (by decide)]; exact a7, by rw [up2_ne _ _ (by decide), up2_ne _ _ (by decide)]; exact a8, by rw [up2_ne _ _ (by decide), up2_ne _ _ (by decide)]; exact a9, by rw [up2_ne _ _ (by decide), up2_ne _ _ (by decide)]; exact a10, by rw [up2_ne _ _ (by decide), up2_ne _ _ (by decide)]; exact a11⟩, fun j hj => ?_, by rw [up2_ne _ _ (by decide), up2_ne _ _ (by decide)]; exact e⟩
  rw [up2_ne (a := 4) _ _ (by decide)] at hj
  by_cases e : j = i
  · rw [e, up2_at, up2_at]
  · rw [up2_nj _ _ e, up2_nj _ _ e]; exact b j hj
end A9s
