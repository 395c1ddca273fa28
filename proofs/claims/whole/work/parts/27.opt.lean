def sumN (f : Nat → Int) : Nat → Int
  | 0 => 0
  | n + 1 => sumN f n + f n
theorem sumN_le {f h : Nat → Int} : ∀ n, (∀ i, i < n → f i ≤ h i) → sumN f n ≤ sumN h n
  | 0, _ => Int.le_refl _
  | n + 1, hh => by
    have h1 := sumN_le n (fun i hi => hh i (by omega))
    have h2 := hh n (by omega)
    show sumN f n + f n ≤ sumN h n + h n
    omega
theorem sumN_eq {f h : Nat → Int} : ∀ n, (∀ i, i < n → f i = h i) → sumN f n = sumN h n
  | 0, _ => rfl
  | n + 1, hh => by
    have h1 := sumN_eq n (fun i hi => hh i (by omega))
    have h2 := hh n (by omega)
    show sumN f n + f n = sumN h n + h n
    omega
theorem sumN_add {f h : Nat → Int} : ∀ n, sumN (fun i => f i + h i) n = sumN f n + sumN h n
  | 0 => rfl
  | n + 1 => by
    have ih := sumN_add (f := f) (h := h) n
    show sumN (fun i => f i + h i) n + (f n + h n) = (sumN f n + f n) + (sumN h n + h n)
    omega
theorem sumN_zero : ∀ n, sumN (fun _ => 0) n = 0
  | 0 => rfl
  | n + 1 => by
    show sumN (fun _ => 0) n + 0 = 0
    rw [sumN_zero n]; rfl
theorem sumN_swap (f : Nat → Nat → Int) (m : Nat) : ∀ n, sumN (fun i => sumN (fun j => f i j) m) n = sumN (fun j => sumN (fun i => f i j) n) m
  | 0 => by
    show 0 = sumN (fun j => 0) m
    rw [sumN_zero]
  | n + 1 => by
    have ih := sumN_swap f m n
    show sumN (fun i => sumN (fun j => f i j) m) n + sumN (fun j => f n j) m = sumN (fun j => sumN (fun i => f i j) n + f n j) m
    rw [sumN_add, ih]
theorem sumN_nonneg {f : Nat → Int} (n : Nat) (h : ∀ i, i < n → 0 ≤ f i) : 0 ≤ sumN f n := by
  have := sumN_le (f := fun _ => 0) (h := f) n h
  rw [sumN_zero] at this
  exact this
theorem sum_none {b : Nat → Int} {ρ x : Int} : ∀ P, (∀ j, j < P → b j ≠ ρ) → sumN (fun j => if b j = ρ then x else 0) P = 0
  | 0, _ => rfl
  | P + 1, h => by
    show sumN _ P + (if b P = ρ then x else 0) = 0
    rw [sum_none P (fun j hj => h j (by omega)), if_neg (h P (by omega))]; rfl
theorem sum_one {b : Nat → Int} {ρ x : Int} {j0 : Nat} : ∀ P, j0 < P → b j0 = ρ → (∀ j, j < P → b j = ρ → j = j0) → sumN (fun j => if b j = ρ then x else 0) P = x
  | 0, h, _, _ => absurd h (by omega)
  | P + 1, h, h1, h2 => by
    show sumN _ P + (if b P = ρ then x else 0) = x
    by_cases e : j0 = P
    · subst e
      rw [sum_none j0 (fun j hj hb => by have := h2 j (by omega) hb; omega), if_pos h1]; omega
    · rw [sum_one P (by omega) h1 (fun j hj hb => h2 j (by omega) hb), if_neg (fun hb => e (h2 P (by omega) hb).symm)]; omega
theorem sum_pick {w : Nat → Int} {x : Nat} : ∀ n, sumN (fun ρ => if (x : Int) = (ρ : Int) then w ρ else 0) n = if x < n then w x else 0
  | 0 => rfl
  | n + 1 => by
    show sumN _ n + (if (x : Int) = (n : Int) then w n else 0) = _
    rw [sum_pick n]
    by_cases e : x = n
    · subst e
      rw [if_neg (by omega), if_pos rfl, if_pos (by omega)]; omega
    · rw [if_neg (show ¬ (x : Int) = (n : Int) by omega)]
      by_cases l : x < n
      · rw [if_pos l, if_pos (by omega)]; omega
      · rw [if_neg l, if_neg (by omega)]; rfl
/-- the sum over places of what the rooms there weigh, by rooms -/
theorem by_rooms {b : Nat → Int} {w : Nat → Int} {P : Nat} (hb : ∀ j, j < P → b j = -1 ∨ ∃ ρ : Nat, b j = (ρ : Int) ∧ ρ < 8) : sumN (fun j => if b j = -1 then 0 else w (b j).toNat) P = sumN (fun ρ => sumN (fun j => if b j = (ρ : Int) then w ρ else 0) P) 8 := by
  rw [← sumN_swap (fun j ρ => if b j = (ρ : Int) then w ρ else 0) 8 P]
  refine sumN_eq P (fun j hj => ?_)
  rcases hb j hj with h | ⟨ρ, h, h8⟩
  · rw [if_pos h, h]
    refine Eq.symm ((sumN_eq 8 (fun i _ => ?_)).trans (sumN_zero 8))
    rw [if_neg (by omega)]
  · rw [if_neg (by omega), h, sum_pick, if_pos h8]
    rfl
theorem inj_le {b w : Nat → Int} {s : Nat → Bool} {P : Nat} (hb : ∀ j, j < P → b j = -1 ∨ ∃ ρ : Nat, b j = (ρ : Int) ∧ ρ < 8 ∧ s ρ = true) (hi : ∀ i j, i < P → j < P → b i = b j → b i ≠ -1 → i = j) (hw : ∀ ρ, s ρ = true → 0 ≤ w ρ) : sumN (fun j => if b j = -1 then 0 else w (b j).toNat) P ≤ sumN (fun ρ => if s ρ = true then w ρ else 0) 8 := by
  rw [by_rooms (fun j hj => by rcases hb j hj with h | ⟨ρ, h, h8, -⟩; exact Or.inl h; exact Or.inr ⟨ρ, h, h8⟩)]
  refine sumN_le 8 (fun ρ hρ => ?_)
  by_cases hs : ∃ j0, j0 < P ∧ b j0 = (ρ : Int)
  · obtain ⟨j0, h1, h2⟩ := hs
    have hsρ : s ρ = true := by
      rcases hb j0 h1 with h | ⟨ρ', h, -, h9⟩
      · omega
      · have : ρ' = ρ := by omega
        subst this; exact h9
    rw [sum_one P h1 h2 (fun j hj hbj => hi j j0 hj h1 (by rw [hbj, h2]) (by omega)), if_pos hsρ]
    exact Int.le_refl _
  · rw [sum_none P (fun j hj hbj => hs ⟨j, hj, hbj⟩)]
    split
    · rename_i h; exact hw ρ h
    · exact Int.le_refl _
theorem bij_eq {b w : Nat → Int} {s : Nat → Bool} {P : Nat} (hb : ∀ j, j < P → b j = -1 ∨ ∃ ρ : Nat, b j = (ρ : Int) ∧ ρ < 8 ∧ s ρ = true) (hi : ∀ i j, i < P → j < P → b i = b j → b i ≠ -1 → i = j) (hc : ∀ ρ : Nat, ρ < 8 → s ρ = true → ∃ j, j < P ∧ b j = (ρ : Int)) : sumN (fun j => if b j = -1 then 0 else w (b j).toNat) P = sumN (fun ρ => if s ρ = true then w ρ else 0) 8 := by
  rw [by_rooms (fun j hj => by rcases hb j hj with h | ⟨ρ, h, h8, -⟩; exact Or.inl h; exact Or.inr ⟨ρ, h, h8⟩)]
  refine sumN_eq 8 (fun ρ hρ => ?_)
  by_cases hs : s ρ = true
  · obtain ⟨j0, h1, h2⟩ := hc ρ hρ hs
    rw [sum_one P h1 h2 (fun j hj hbj => hi j j0 hj h1 (by rw [hbj, h2]) (by omega)), if_pos hs]
  · rw [sum_none P (fun j hj hbj => ?_), if_neg hs]
    rcases hb j hj with h | ⟨ρ', h, -, h9⟩
    · omega
    · have : ρ' = ρ := by omega
      subst this; exact hs h9
def gainOf (G : Nat → Nat → Int) (a : Nat → Int) (P : Nat) : Int := sumN (fun j => if a j = -1 then 0 else G (a j).toNat j) P
/-- no other giving gains more -/
theorem hung_opt {P : Nat} {s : Nat → Bool} {G : Nat → Nat → Int} {u v a b : Nat → Int} {E : Int} (hL : LVL P (fun ρ => ρ < 8 ∧ s ρ = true) G u v a E) (hb : ∀ j, j < P → b j = -1 ∨ ∃ ρ : Nat, b j = (ρ : Int) ∧ ρ < 8 ∧ s ρ = true) (hi : ∀ i j, i < P → j < P → b i = b j → b i ≠ -1 → i = j) : gainOf G b P ≤ gainOf G a P := by
  obtain ⟨l1, l2, l3, l4, l5, l6, l7, -⟩ := hL
  have ea : gainOf G a P = sumN (fun j => if a j = -1 then 0 else -u (a j).toNat) P + sumN (fun j => -v j) P := by
    rw [← sumN_add]
    refine sumN_eq P (fun j hj => ?_)
    rcases l1 j hj with h | ⟨ρ, h, hρ⟩
    · rw [if_pos h, if_pos h, (l6 j hj).2 h]; rfl
    · rw [if_neg (by omega), if_neg (by omega), h, Int.toNat_natCast]
      have := l5 ρ j hρ hj h
      omega
  have eb : gainOf G b P ≤ sumN (fun j => if b j = -1 then 0 else -u (b j).toNat) P + sumN (fun j => -v j) P := by
    rw [← sumN_add]
    refine sumN_le P (fun j hj => ?_)
    have hv := (l6 j hj).1
    rcases hb j hj with h | ⟨ρ, h, hρ⟩
    · rw [if_pos h, if_pos h]; omega
    · rw [if_neg (by omega), if_neg (by omega), h, Int.toNat_natCast]
      have := l4 ρ j hρ hj
      omega
  have e1 := inj_le (w := fun ρ => -u ρ) (s := fun ρ => decide (ρ < 8) && s ρ) (P := P) (b := b) (fun j hj => by
    rcases hb j hj with h | ⟨ρ, h, h8, hs⟩
    · exact Or.inl h
    · exact Or.inr ⟨ρ, h, h8, by simp [h8, hs]⟩) hi (fun ρ hs => by
    simp at hs
    have := l7 ρ hs
    omega)
  have e2 := bij_eq (w := fun ρ => -u ρ) (s := fun ρ => decide (ρ < 8) && s ρ) (P := P) (b := a) (fun j hj => by
    rcases l1 j hj with h | ⟨ρ, h, h8, hs⟩
    · exact Or.inl h
    · exact Or.inr ⟨ρ, h, h8, by simp [h8, hs]⟩) l2 (fun ρ h8 hs => by
    simp [h8] at hs
    exact l3 ρ ⟨h8, hs⟩)
  omega
