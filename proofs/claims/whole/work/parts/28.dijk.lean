/-- the search under way: b places are seen (sn), in the order o; the row at hand, the place that it comes from, how far that is -/
def WIT (P : Nat) (S : Nat → Prop) (G : Nat → Nat → Int) (u v a : Nat → Int) (r : Nat) (sn rc bf : Nat → Int) (o : Nat → Nat) (b j : Nat) : Prop :=
  (bf j = -1 ∧ rc j = -G r j - v j) ∨ ∃ i ρ : Nat, bf j = (i : Int) ∧ i < P ∧ sn i = 1 ∧ a i = (ρ : Int) ∧ S ρ ∧ rc j = rc i - G ρ j - u ρ - v j ∧ o i < b ∧ (sn j = 1 → o i < o j)
def OUT (P : Nat) (S : Nat → Prop) (G : Nat → Nat → Int) (u v a : Nat → Int) (r : Nat) (B : Int) (b : Nat) (sn rc bf : Nat → Int) (o : Nat → Nat) (row : Nat) (last bh : Int) : Prop :=
  sumN sn P = (b : Int) ∧ (∀ j, j < P → sn j = 0 ∨ sn j = 1) ∧
  (b = 0 → row = r ∧ last = -1 ∧ bh = 0) ∧
  (0 < b → ∃ jl : Nat, last = (jl : Int) ∧ jl < P ∧ sn jl = 1 ∧ a jl = (row : Int) ∧ S row ∧ bh = rc jl) ∧
  (∀ j, j < P → sn j = 1 → a j ≠ -1 ∧ rc j ≤ bh ∧ o j < b) ∧
  (0 < b → ∀ j, j < P → sn j = 0 → bh ≤ rc j) ∧
  (0 < b → ∀ j, j < P → rc j ≤ -G r j - v j ∧ -B ≤ rc j) ∧
  (∀ i j ρ : Nat, i < P → sn i = 1 → a i = (ρ : Int) → j < P → (sn j = 1 ∨ (i : Int) ≠ last) → rc j ≤ rc i - G ρ j - u ρ - v j) ∧
  (0 < b → ∀ j, j < P → WIT P S G u v a r sn rc bf o b j)
theorem sum01_all {sn : Nat → Int} : ∀ P, (∀ j, j < P → sn j = 0 ∨ sn j = 1) → sumN sn P ≤ (P : Int) ∧ (sumN sn P = (P : Int) → ∀ j, j < P → sn j = 1)
  | 0, _ => ⟨Int.le_refl _, fun _ j h => absurd h (by omega)⟩
  | P + 1, h => by
    obtain ⟨h1, h2⟩ := sum01_all P (fun j hj => h j (by omega))
    have h3 := h P (by omega)
    refine ⟨by show sumN sn P + sn P ≤ _; omega, fun he j hj => ?_⟩
    have he : sumN sn P + sn P = ((P + 1 : Nat) : Int) := he
    by_cases e : j = P
    · subst e; omega
    · exact h2 (by omega) j (by omega)
theorem sum01_none {sn : Nat → Int} : ∀ P, (∀ j, j < P → sn j = 0 ∨ sn j = 1) → sumN sn P = 0 → ∀ j, j < P → sn j = 0
  | 0, _, _ => fun j h => absurd h (by omega)
  | P + 1, h, he => by
    have h1 : ∀ n, (∀ j, j < n → sn j = 0 ∨ sn j = 1) → 0 ≤ sumN sn n := fun n hn => sumN_nonneg n (fun i hi => by have := hn i hi; omega)
    have h2 := h1 P (fun j hj => h j (by omega))
    have h3 := h P (by omega)
    have he : sumN sn P + sn P = 0 := he
    intro j hj
    by_cases e : j = P
    · subst e; omega
    · exact sum01_none P (fun j hj => h j (by omega)) (by omega) j (by omega)
theorem sum_upd {f : Nat → Int} {c : Nat} {x : Int} : ∀ P, sumN (fun j => if j = c then x else f j) P = sumN f P + (if c < P then x - f c else 0)
  | 0 => rfl
  | P + 1 => by
    have ih := sum_upd (f := f) (c := c) (x := x) P
    show sumN (fun j => if j = c then x else f j) P + (if P = c then x else f P) = sumN f P + f P + _
    rw [ih]
    by_cases e : P = c
    · subst e
      rw [if_pos rfl, if_neg (by omega), if_pos (by omega)]; omega
    · rw [if_neg e]
      by_cases l : c < P
      · rw [if_pos l, if_pos (by omega)]; omega
      · rw [if_neg l, if_neg (by omega)]; omega
/-- a round of the search: what it relaxes to, and the place that is nearest -/
theorem out_relax {P : Nat} {S : Nat → Prop} {G : Nat → Nat → Int} {u v a : Nat → Int} {r : Nat} {B E : Int} {b : Nat} {sn rc bf rc' bf' : Nat → Int} {o : Nat → Nat} {row : Nat} {last bh : Int} (hL : LVL P S G u v a E) (hur : u r = 0) (hG : ∀ j, j < P → 0 ≤ G r j ∧ G r j ≤ B) (hO : OUT P S G u v a r B b sn rc bf o row last bh)
    (hfar : b = 0 → ∀ j, j < P → bh - G row j - u row - v j < rc j)
    (h1 : ∀ j, j < P → sn j = 1 → rc' j = rc j ∧ bf' j = bf j) (h2 : ∀ j, j < P → sn j = 0 → bh - G row j - u row - v j < rc j → rc' j = bh - G row j - u row - v j ∧ bf' j = last) (h3 : ∀ j, j < P → sn j = 0 → ¬ bh - G row j - u row - v j < rc j → rc' j = rc j ∧ bf' j = bf j) :
    (∀ j, j < P → sn j = 1 → a j ≠ -1 ∧ rc' j ≤ bh ∧ o j < b) ∧ (0 < b → ∀ j, j < P → sn j = 0 → bh ≤ rc' j) ∧ (∀ j, j < P → rc' j ≤ -G r j - v j ∧ -B ≤ rc' j) ∧
    (∀ i j ρ : Nat, i < P → sn i = 1 → a i = (ρ : Int) → j < P → rc' j ≤ rc' i - G ρ j - u ρ - v j) ∧ (∀ j, j < P → WIT P S G u v a r sn rc' bf' o b j) := by
  obtain ⟨l1, l2, l3, l4, l5, l6, l7, -⟩ := hL
  obtain ⟨o1, o2, o3, o4, o5, o6, o7, o8, o9⟩ := hO
  by_cases hb : b = 0
  · subst hb
    obtain ⟨rfl, rfl, rfl⟩ := o3 rfl
    have hz := sum01_none P o2 o1
    have hrc : ∀ j, j < P → rc' j = -G row j - v j ∧ bf' j = -1 := fun j hj => by
      have := h2 j hj (hz j hj) (hfar rfl j hj)
      omega
    refine ⟨fun j hj h => by have := hz j hj; omega, fun h => absurd h (by omega), fun j hj => ?_, fun i j ρ hi h => by have := hz i hi; omega, fun j hj => Or.inl ⟨(hrc j hj).2, (hrc j hj).1⟩⟩
    have e := (hrc j hj).1
    have eg := hG j hj
    have ev := (l6 j hj).1
    omega
  · obtain ⟨jl, q1, q2, q3, q4, q5, q6⟩ := o4 (by omega)
    have hge : ∀ j, j < P → bh ≤ bh - G row j - u row - v j := fun j hj => by have := l4 row j q5 hj; omega
    have hrcj : ∀ j, j < P → sn j = 0 → (rc' j = bh - G row j - u row - v j ∧ bf' j = last ∧ rc' j < rc j) ∨ (rc' j = rc j ∧ bf' j = bf j ∧ rc' j ≤ bh - G row j - u row - v j) := fun j hj hs => by
      by_cases h : bh - G row j - u row - v j < rc j
      · have := h2 j hj hs h; left; omega
      · have := h3 j hj hs h; right; omega
    have hle : ∀ j, j < P → rc' j ≤ rc j := fun j hj => by
      rcases o2 j hj with h | h
      · rcases hrcj j hj h with q | q <;> omega
      · have := (h1 j hj h).1; omega
    have hlo : ∀ j, j < P → sn j = 0 → bh ≤ rc' j := fun j hj hs => by
      have e1 := o6 (by omega) j hj hs
      have e2 := hge j hj
      rcases hrcj j hj hs with q | q <;> omega
    refine ⟨fun j hj hs => ?_, fun _ => hlo, fun j hj => ?_, fun i j ρ hi hs ha hj => ?_, fun j hj => ?_⟩
    · have := o5 j hj hs
      rw [(h1 j hj hs).1]; exact this
    · have e := o7 (by omega) j hj
      refine ⟨by have := hle j hj; omega, ?_⟩
      rcases o2 j hj with h | h
      · have := hlo j hj h
        have e2 := o7 (by omega) jl q2
        omega
      · rw [(h1 j hj h).1]; exact e.2
    · rw [(h1 i hi hs).1]
      rcases o2 j hj with hj0 | hj1
      · by_cases hil : (i : Int) = last
        · have hij : i = jl := by omega
          subst hij
          have hρ : ρ = row := by omega
          subst hρ
          rcases hrcj j hj hj0 with q | q <;> omega
        · have := o8 i j ρ hi hs ha hj (Or.inr hil)
          have := hle j hj
          omega
      · rw [(h1 j hj hj1).1]
        exact o8 i j ρ hi hs ha hj (Or.inl hj1)
    · rcases o2 j hj with hj0 | hj1
      · rcases hrcj j hj hj0 with ⟨e1, e2, -⟩ | ⟨e1, e2, -⟩
        · refine Or.inr ⟨jl, row, by rw [e2]; exact q1, q2, q3, q4, q5, ?_, (o5 jl q2 q3).2.2, fun h => by omega⟩
          rw [(h1 jl q2 q3).1, e1]; omega
        · rcases o9 (by omega) j hj with ⟨w1, w2⟩ | ⟨i, ρ, w1, w2, w3, w4, w5, w6, w7, w8⟩
          · exact Or.inl ⟨by rw [e2]; exact w1, by rw [e1]; exact w2⟩
          · exact Or.inr ⟨i, ρ, by rw [e2]; exact w1, w2, w3, w4, w5, by rw [e1, (h1 i w2 w3).1]; exact w6, w7, w8⟩
      · rcases o9 (by omega) j hj with ⟨w1, w2⟩ | ⟨i, ρ, w1, w2, w3, w4, w5, w6, w7, w8⟩
        · exact Or.inl ⟨by rw [(h1 j hj hj1).2]; exact w1, by rw [(h1 j hj hj1).1]; exact w2⟩
        · exact Or.inr ⟨i, ρ, by rw [(h1 j hj hj1).2]; exact w1, w2, w3, w4, w5, by rw [(h1 j hj hj1).1, (h1 i w2 w3).1]; exact w6, w7, w8⟩
/-- the nearest place is taken: one more is seen -/
theorem out_next {P : Nat} {S : Nat → Prop} {G : Nat → Nat → Int} {u v a : Nat → Int} {r : Nat} {B E : Int} {b : Nat} {sn rc bf sn' : Nat → Int} {o : Nat → Nat} {bh : Int} {nx ρ : Nat} (hL : LVL P S G u v a E) (h1 : sumN sn P = (b : Int)) (h2 : ∀ j, j < P → sn j = 0 ∨ sn j = 1)
    (k1 : ∀ j, j < P → sn j = 1 → a j ≠ -1 ∧ rc j ≤ bh ∧ o j < b) (k2 : 0 < b → ∀ j, j < P → sn j = 0 → bh ≤ rc j) (k3 : ∀ j, j < P → rc j ≤ -G r j - v j ∧ -B ≤ rc j) (k4 : ∀ i j ρ : Nat, i < P → sn i = 1 → a i = (ρ : Int) → j < P → rc j ≤ rc i - G ρ j - u ρ - v j) (k5 : ∀ j, j < P → WIT P S G u v a r sn rc bf o b j)
    (hn : nx < P) (hs : sn nx = 0) (hm : ∀ j, j < P → sn j = 0 → rc nx ≤ rc j) (ha : a nx = (ρ : Int)) (hS : S ρ) (hs1 : sn' nx = 1) (hs2 : ∀ j, j < P → j ≠ nx → sn' j = sn j) : OUT P S G u v a r B (b + 1) sn' rc bf (fun j => if j = nx then b else o j) ρ (nx : Int) (rc nx) := by
  obtain ⟨l1, l2, l3, l4, l5, l6, l7, -⟩ := hL
  have hbn : ∀ j, j < P → sn j = 1 → rc j ≤ rc nx := fun j hj h => by
    have e1 := (k1 j hj h).2
    have hb : 0 < b := by omega
    have e2 := k2 hb nx hn hs
    omega
  refine ⟨?_, fun j hj => ?_, fun h => absurd h (by omega), fun _ => ⟨nx, rfl, hn, hs1, ha, hS, rfl⟩, fun j hj h => ?_, fun _ j hj h => ?_, fun _ j hj => k3 j hj, fun i j σ hi hi1 hai hj hor => ?_, fun _ j hj => ?_⟩
  · have e : sumN sn' P = sumN (fun j => if j = nx then 1 else sn j) P := sumN_eq P (fun j hj => by
      by_cases q : j = nx
      · rw [if_pos q, q]; exact hs1
      · rw [if_neg q]; exact hs2 j hj q)
    rw [e, sum_upd, if_pos hn, h1, hs]
    omega
  · by_cases q : j = nx
    · rw [q]; exact Or.inr hs1
    · rw [hs2 j hj q]; exact h2 j hj
  · by_cases q : j = nx
    · subst q
      exact ⟨by rw [ha]; omega, Int.le_refl _, by simp⟩
    · rw [hs2 j hj q] at h
      have := k1 j hj h
      exact ⟨this.1, hbn j hj h, by show (if j = nx then b else o j) < b + 1; rw [if_neg q]; omega⟩
  · by_cases q : j = nx
    · subst q; omega
    · rw [hs2 j hj q] at h
      exact hm j hj h
  · by_cases qi : i = nx
    · subst qi
      have hρ : σ = ρ := by omega
      subst hρ
      rcases hor with hor | hor
      · by_cases qj : j = i
        · subst qj
          have := l5 σ j hS hj hai
          omega
        · rw [hs2 j hj qj] at hor
          have e1 := hbn j hj hor
          have e2 := l4 σ j hS hj
          omega
      · exact absurd rfl hor
    · rw [hs2 i hi qi] at hi1
      exact k4 i j σ hi hi1 hai hj
  · rcases k5 j hj with ⟨w1, w2⟩ | ⟨i, σ, w1, w2, w3, w4, w5, w6, w7, w8⟩
    · exact Or.inl ⟨w1, w2⟩
    · have hin : i ≠ nx := fun q => by rw [q, hs] at w3; omega
      refine Or.inr ⟨i, σ, w1, w2, by rw [hs2 i w2 hin]; exact w3, w4, w5, w6, by show (if i = nx then b else o i) < b + 1; rw [if_neg hin]; omega, fun h => ?_⟩
      show (if i = nx then b else o i) < (if j = nx then b else o j)
      rw [if_neg hin]
      by_cases q : j = nx
      · rw [if_pos q]; exact w7
      · rw [if_neg q]
        rw [hs2 j hj q] at h
        exact w8 h
/-- the nearest place has no room: the search is through -/
theorem out_end {P : Nat} {S : Nat → Prop} {G : Nat → Nat → Int} {u v a : Nat → Int} {r : Nat} {B : Int} {b : Nat} {sn rc bf : Nat → Int} {o : Nat → Nat} {bh : Int} {nx : Nat} (h2 : ∀ j, j < P → sn j = 0 ∨ sn j = 1)
    (k1 : ∀ j, j < P → sn j = 1 → a j ≠ -1 ∧ rc j ≤ bh ∧ o j < b) (k2 : 0 < b → ∀ j, j < P → sn j = 0 → bh ≤ rc j) (k3 : ∀ j, j < P → rc j ≤ -G r j - v j ∧ -B ≤ rc j) (k4 : ∀ i j ρ : Nat, i < P → sn i = 1 → a i = (ρ : Int) → j < P → rc j ≤ rc i - G ρ j - u ρ - v j) (k5 : ∀ j, j < P → WIT P S G u v a r sn rc bf o b j)
    (hn : nx < P) (hs : sn nx = 0) (hm : ∀ j, j < P → sn j = 0 → rc nx ≤ rc j) (ha : a nx = -1) : DJ P S G u v a r (fun j => sn j = 1) rc bf nx ∧ (∀ j, j < P → (sn j = 1 ∨ j = nx) → ∀ i : Nat, bf j = (i : Int) → i < P ∧ sn i = 1 ∧ o i < b ∧ (sn j = 1 → o i < o j)) := by
  refine ⟨⟨hn, ha, by show ¬ sn nx = 1; omega, fun j hj h => ⟨(k1 j hj h).1, ?_⟩, fun j hj h => hm j hj (by have := h2 j hj; have h : ¬ sn j = 1 := h; omega), fun j hj => (k3 j hj).1, fun i j ρ hi hd hai hj => k4 i j ρ hi hd hai hj, fun j hj hor => ?_⟩, fun j hj hor i hbf => ?_⟩
  · have e1 := (k1 j hj h).2
    have hb : 0 < b := by omega
    have e2 := k2 hb nx hn hs
    omega
  · rcases k5 j hj with ⟨w1, w2⟩ | ⟨i, σ, w1, w2, w3, w4, w5, w6, w7, w8⟩
    · exact Or.inl ⟨w1, w2⟩
    · exact Or.inr ⟨i, σ, w1, w2, w3, w4, w5, w6⟩
  · rcases k5 j hj with ⟨w1, w2⟩ | ⟨i', σ, w1, w2, w3, w4, w5, w6, w7, w8⟩
    · omega
    · have : i' = i := by omega
      subst this
      exact ⟨w2, w3, w7, w8⟩
