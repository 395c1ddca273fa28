/-! the wise giving: rooms put to places one by one, with prices; G gains, u prices of rooms, v of places, a the room at a place -/
def LVL (P : Nat) (S : Nat → Prop) (G : Nat → Nat → Int) (u v a : Nat → Int) (E : Int) : Prop :=
  (∀ j, j < P → a j = -1 ∨ ∃ r : Nat, a j = (r : Int) ∧ S r) ∧
  (∀ i j, i < P → j < P → a i = a j → a i ≠ -1 → i = j) ∧
  (∀ r : Nat, S r → ∃ j, j < P ∧ a j = (r : Int)) ∧
  (∀ r j : Nat, S r → j < P → G r j + u r + v j ≤ 0) ∧
  (∀ r j : Nat, S r → j < P → a j = (r : Int) → G r j + u r + v j = 0) ∧
  (∀ j, j < P → (-E ≤ v j ∧ v j ≤ 0) ∧ (a j = -1 → v j = 0)) ∧
  (∀ r, S r → -E ≤ u r ∧ u r ≤ 0) ∧ (∃ j, j < P ∧ v j = 0)
/-- the search is through: seen places D, reach rc, before bf, the end en; dist of the new room is 0, of the room at a seen place its reach -/
def DJ (P : Nat) (S : Nat → Prop) (G : Nat → Nat → Int) (u v a : Nat → Int) (r : Nat) (D : Nat → Prop) (rc bf : Nat → Int) (en : Nat) : Prop :=
  en < P ∧ a en = -1 ∧ ¬ D en ∧
  (∀ j, j < P → D j → a j ≠ -1 ∧ rc j ≤ rc en) ∧
  (∀ j, j < P → ¬ D j → rc en ≤ rc j) ∧
  (∀ j, j < P → rc j ≤ -G r j - v j) ∧
  (∀ i j ρ : Nat, i < P → D i → a i = (ρ : Int) → j < P → rc j ≤ rc i - G ρ j - u ρ - v j) ∧
  (∀ j, j < P → (D j ∨ j = en) → (bf j = -1 ∧ rc j = -G r j - v j) ∨ ∃ i ρ : Nat, bf j = (i : Int) ∧ i < P ∧ D i ∧ a i = (ρ : Int) ∧ S ρ ∧ rc j = rc i - G ρ j - u ρ - v j)
/-- behind the repricing -/
def RPR (P : Nat) (S : Nat → Prop) (G : Nat → Nat → Int) (u' v' a : Nat → Int) (r : Nat) (D : Nat → Prop) (bf : Nat → Int) (en : Nat) (E : Int) : Prop :=
  (∀ ρ j : Nat, (S ρ ∨ ρ = r) → j < P → G ρ j + u' ρ + v' j ≤ 0) ∧
  (∀ ρ j : Nat, S ρ → j < P → a j = (ρ : Int) → G ρ j + u' ρ + v' j = 0) ∧
  (∀ j, j < P → (D j ∨ j = en) → (bf j = -1 ∧ G r j + u' r + v' j = 0) ∨ ∃ i ρ : Nat, bf j = (i : Int) ∧ i < P ∧ D i ∧ a i = (ρ : Int) ∧ S ρ ∧ G ρ j + u' ρ + v' j = 0) ∧
  (∀ j, j < P → (-E ≤ v' j ∧ v' j ≤ 0) ∧ (a j = -1 → v' j = 0)) ∧
  (∀ ρ, (S ρ ∨ ρ = r) → -E ≤ u' ρ ∧ u' ρ ≤ 0)
theorem hung_reprice {P : Nat} {S : Nat → Prop} {G : Nat → Nat → Int} {u v a u' v' : Nat → Int} {r en : Nat} {D : Nat → Prop} {rc bf : Nat → Int} {E B : Int} (hL : LVL P S G u v a E) (hr : ¬ S r) (hG : ∀ j, j < P → 0 ≤ G r j ∧ G r j ≤ B) (hGS : ∀ ρ j, S ρ → j < P → 0 ≤ G ρ j) (hJ : DJ P S G u v a r D rc bf en)
    (hrc : ∀ j, j < P → -B ≤ rc j) (hu1 : u' r = rc en) (hu2 : ∀ ρ j : Nat, S ρ → j < P → D j → a j = (ρ : Int) → u' ρ = u ρ + (rc en - rc j)) (hu3 : ∀ ρ j : Nat, S ρ → j < P → ¬ D j → a j = (ρ : Int) → u' ρ = u ρ)
    (hv1 : ∀ j, j < P → D j → v' j = v j - (rc en - rc j)) (hv2 : ∀ j, j < P → ¬ D j → v' j = v j) (hE : 0 ≤ E) (hB : 0 ≤ B) : RPR P S G u' v' a r D bf en (2 * E + B) := by
  obtain ⟨l1, l2, l3, l4, l5, l6, l7, j0, hj0, hv0⟩ := hL
  obtain ⟨d1, d2, d3, d4, d5, d6, d7, d8⟩ := hJ
  have e6 := d6 en d1
  have gen := hG en d1
  have ven := (l6 en d1).2 d2
  have cost : ∀ ρ j : Nat, (S ρ ∨ ρ = r) → j < P → G ρ j + u' ρ + v' j ≤ 0 := by
    intro ρ j hρ hj
    rcases hρ with hρ | rfl
    · obtain ⟨i, hi, hai⟩ := l3 ρ hρ
      by_cases hDi : D i
      · have e1 := hu2 ρ i hρ hi hDi hai
        by_cases hDj : D j
        · have e2 := hv1 j hj hDj
          have e3 := d7 i j ρ hi hDi hai hj
          omega
        · have e2 := hv2 j hj hDj
          have e3 := d7 i j ρ hi hDi hai hj
          have e4 := d5 j hj hDj
          omega
      · have e1 := hu3 ρ i hρ hi hDi hai
        have e5 := l4 ρ j hρ hj
        by_cases hDj : D j
        · have e2 := hv1 j hj hDj
          have e3 := (d4 j hj hDj).2
          omega
        · have e2 := hv2 j hj hDj
          omega
    · by_cases hDj : D j
      · have e2 := hv1 j hj hDj
        have e3 := d6 j hj
        omega
      · have e2 := hv2 j hj hDj
        have e3 := d6 j hj
        have e4 := d5 j hj hDj
        omega
  have hv0' : ∀ j, j < P → a j = -1 → v' j = 0 := by
    intro j hj ha
    have hDj : ¬ D j := fun h => (d4 j hj h).1 ha
    rw [hv2 j hj hDj]
    exact (l6 j hj).2 ha
  refine ⟨cost, ?_, ?_, ?_, ?_⟩
  · intro ρ j hρ hj ha
    have e5 := l5 ρ j hρ hj ha
    by_cases hDj : D j
    · rw [hu2 ρ j hρ hj hDj ha, hv1 j hj hDj]; omega
    · rw [hu3 ρ j hρ hj hDj ha, hv2 j hj hDj]; omega
  · intro j hj hD
    have hvj : v' j = v j - (rc en - rc j) := by
      by_cases hDj : D j
      · exact hv1 j hj hDj
      · have : j = en := by rcases hD with h | h; exact absurd h hDj; exact h
        subst this
        rw [hv2 j hj hDj]; omega
    rcases d8 j hj hD with ⟨h1, h2⟩ | ⟨i, ρ, h1, h2, h3, h4, h5, h6⟩
    · exact Or.inl ⟨h1, by rw [hu1, hvj]; omega⟩
    · exact Or.inr ⟨i, ρ, h1, h2, h3, h4, h5, by rw [hu2 ρ i h5 h2 h3 h4, hvj]; omega⟩
  · intro j hj
    refine ⟨?_, hv0' j hj⟩
    have e6' := (l6 j hj).1
    by_cases hDj : D j
    · have e1 := hv1 j hj hDj
      have e2 := (d4 j hj hDj).2
      have e3 := hrc j hj
      omega
    · have e1 := hv2 j hj hDj
      omega
  · intro ρ hρ
    have c0 := cost ρ en hρ d1
    have vz := hv0' en d1 d2
    rcases hρ with hρ | rfl
    · have g0 := hGS ρ en hρ d1
      obtain ⟨i, hi, hai⟩ := l3 ρ hρ
      have b0 := l7 ρ hρ
      by_cases hDi : D i
      · have e1 := hu2 ρ i hρ hi hDi hai
        have e2 := (d4 i hi hDi).2
        omega
      · have e1 := hu3 ρ i hρ hi hDi hai
        omega
    · have e3 := hrc en d1
      omega
/-- a chain is moved along: c is the place that is free to be written -/
def HOL (P : Nat) (S : Nat → Prop) (G : Nat → Nat → Int) (u v a : Nat → Int) (c : Nat) : Prop :=
  (∀ j, j < P → j ≠ c → a j = -1 ∨ ∃ r : Nat, a j = (r : Int) ∧ S r) ∧
  (∀ i j, i < P → j < P → i ≠ c → j ≠ c → a i = a j → a i ≠ -1 → i = j) ∧
  (∀ r : Nat, S r → ∃ j, j < P ∧ j ≠ c ∧ a j = (r : Int)) ∧
  (∀ r j : Nat, S r → j < P → j ≠ c → a j = (r : Int) → G r j + u r + v j = 0)
theorem hol_step {P : Nat} {S : Nat → Prop} {G : Nat → Nat → Int} {u v a a' : Nat → Int} {c c' ρ : Nat} (h : HOL P S G u v a c) (hc : c < P) (hc' : c' < P) (hne : c ≠ c') (hρ : a c' = (ρ : Int)) (hS : S ρ) (hz : G ρ c + u ρ + v c = 0) (h1 : a' c = (ρ : Int)) (h2 : ∀ j, j < P → j ≠ c → a' j = a j) : HOL P S G u v a' c' := by
  obtain ⟨q1, q2, q3, q4⟩ := h
  refine ⟨fun j hj hn => ?_, fun i j hi hj hni hnj e1 e2 => ?_, fun r hr => ?_, fun r j hr hj hn ha => ?_⟩
  · by_cases e : j = c
    · subst e; exact Or.inr ⟨ρ, h1, hS⟩
    · rw [h2 j hj e]; exact q1 j hj e
  · by_cases ei : i = c
    · subst ei
      by_cases ej : j = i
      · exact ej.symm
      · rw [h1, h2 j hj ej] at e1
        have : j = c' := q2 j c' hj hc' ej (Ne.symm hne) (by rw [← e1, hρ]) (by rw [← e1]; omega)
        exact absurd this hnj
    · rw [h2 i hi ei] at e1 e2
      by_cases ej : j = c
      · subst ej
        rw [h1] at e1
        have : i = c' := q2 i c' hi hc' ei (Ne.symm hne) (by rw [e1, hρ]) e2
        exact absurd this hni
      · rw [h2 j hj ej] at e1
        exact q2 i j hi hj ei ej e1 e2
  · obtain ⟨j, hj, hn, ha⟩ := q3 r hr
    by_cases e : j = c'
    · subst e
      refine ⟨c, hc, hne, ?_⟩
      rw [h1, ← ha, hρ]
    · exact ⟨j, hj, e, by rw [h2 j hj hn]; exact ha⟩
  · by_cases e : j = c
    · subst e
      rw [h1] at ha
      have : r = ρ := by omega
      subst this
      exact hz
    · rw [h2 j hj e] at ha
      exact q4 r j hr hj e ha
theorem hol_end {P : Nat} {S : Nat → Prop} {G : Nat → Nat → Int} {u v a a' : Nat → Int} {c r en : Nat} {D : Nat → Prop} {bf b0 : Nat → Int} {E : Int} (h : HOL P S G u v a c) (hR : RPR P S G u v b0 r D bf en E) (hr : ¬ S r) (hc : c < P) (hz : G r c + u r + v c = 0) (h1 : a' c = (r : Int)) (h2 : ∀ j, j < P → j ≠ c → a' j = a j) (hun : ∀ j, j < P → j ≠ c → a j = -1 → b0 j = -1) (hen : en < P ∧ b0 en = -1) : LVL P (fun ρ => S ρ ∨ ρ = r) G u v a' E := by
  obtain ⟨q1, q2, q3, q4⟩ := h
  obtain ⟨p1, p2, p3, p4, p5⟩ := hR
  refine ⟨fun j hj => ?_, fun i j hi hj e1 e2 => ?_, fun ρ hρ => ?_, p1 , fun ρ j hρ hj ha => ?_, fun j hj => ⟨(p4 j hj).1, fun ha => ?_⟩, p5, en, hen.1, (p4 en hen.1).2 hen.2⟩
  · by_cases e : j = c
    · subst e; exact Or.inr ⟨r, h1, Or.inr rfl⟩
    · rw [h2 j hj e]
      rcases q1 j hj e with h | ⟨ρ, h, h3⟩
      · exact Or.inl h
      · exact Or.inr ⟨ρ, h, Or.inl h3⟩
  · by_cases ei : i = c
    · by_cases ej : j = c
      · rw [ei, ej]
      · subst ei
        rw [h1, h2 j hj ej] at e1
        rcases q1 j hj ej with h | ⟨ρ, h, h3⟩
        · rw [h] at e1; omega
        · rw [h] at e1
          have : r = ρ := by omega
          subst this
          exact absurd h3 hr
    · by_cases ej : j = c
      · subst ej
        rw [h1, h2 i hi ei] at e1
        rcases q1 i hi ei with h | ⟨ρ, h, h3⟩
        · rw [h] at e1; omega
        · rw [h] at e1
          have : r = ρ := by omega
          subst this
          exact absurd h3 hr
      · rw [h2 i hi ei] at e1 e2
        rw [h2 j hj ej] at e1
        exact q2 i j hi hj ei ej e1 e2
  · rcases hρ with hρ | rfl
    · obtain ⟨j, hj, hn, ha⟩ := q3 ρ hρ
      exact ⟨j, hj, by rw [h2 j hj hn]; exact ha⟩
    · exact ⟨c, hc, h1⟩
  · by_cases e : j = c
    · subst e
      rw [h1] at ha
      have : r = ρ := by omega
      subst this
      exact hz
    · rw [h2 j hj e] at ha
      rcases hρ with hρ | rfl
      · exact q4 ρ j hρ hj e ha
      · rcases q1 j hj e with h | ⟨ρ', h, h3⟩
        · rw [h] at ha; omega
        · rw [h] at ha
          have : ρ' = ρ := by omega
          subst this
          exact absurd h3 hr
  · by_cases e : j = c
    · subst e; rw [h1] at ha; omega
    · rw [h2 j hj e] at ha
      exact (p4 j hj).2 (hun j hj e ha)
theorem hol_start {P : Nat} {S : Nat → Prop} {G : Nat → Nat → Int} {u v a u' v' : Nat → Int} {r en : Nat} {D : Nat → Prop} {bf : Nat → Int} {E E' : Int} (hL : LVL P S G u v a E) (hR : RPR P S G u' v' a r D bf en E') (hen : en < P ∧ a en = -1) : HOL P S G u' v' a en := by
  obtain ⟨l1, l2, l3, l4, l5, l6, l7, -⟩ := hL
  refine ⟨fun j hj _ => l1 j hj, fun i j hi hj _ _ => l2 i j hi hj, fun r hr => ?_, fun r j hr hj _ ha => hR.2.1 r j hr hj ha⟩
  obtain ⟨j, hj, ha⟩ := l3 r hr
  refine ⟨j, hj, fun e => ?_, ha⟩
  rw [e, hen.2] at ha
  omega
