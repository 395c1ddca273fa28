/-- the orders of the rooms that are left, as the walk finds them -/
def dfl (D : (Nat → Bool) → List (List Nat)) (tk : Nat → Bool) : Nat → Nat → List (List Nat)
  | 0, _ => []
  | k + 1, b => (if tk b = true then [] else (D (addS tk b)).map (fun l => b :: l)) ++ dfl D tk k (b + 1)
def dfs (n : Nat) : Nat → (Nat → Bool) → List (List Nat)
  | 0 => fun _ => [[]]
  | f + 1 => fun tk => dfl (dfs n f) tk n 0
def lofS (σ : Sg) (ℓ ab : Int) (nW : Nat) : List Nat → Sg → Sg
  | [], δ => δ
  | r :: l, δ => lofS σ ℓ ab nW l (loneS σ ℓ ab nW δ r)
def CS (σ : Sg) (nr ng : Nat) (rd : Nat → Int) (how z : Int) : Prop := ∃ ro, GVX σ nr ng rd how z ro
/-- the costs of a list of orders are written from c on -/
def PW (σ : Sg) (ℓ ab : Int) (nr nW ng : Nat) (how : Int) (row : Nat) (δ : Sg) (c : Nat) (W : List (List Nat)) (I I' : sI) : Prop := I' 122 5 = ((c + W.length : Nat) : Int) ∧ (∀ (i : Nat) (l : List Nat), W[i]? = some l → CS σ nr ng (lofS σ ℓ ab nW l δ 3) how (I' row (c + i))) ∧ (∀ i, i < c → I' row i = I row i)
theorem PW_app {σ : Sg} {ℓ ab : Int} {nr nW ng : Nat} {how : Int} {row : Nat} {δ : Sg} {c : Nat} {W W' : List (List Nat)} {I I' I'' : sI} (h1 : PW σ ℓ ab nr nW ng how row δ c W I I') (h2 : PW σ ℓ ab nr nW ng how row δ (c + W.length) W' I' I'') : PW σ ℓ ab nr nW ng how row δ c (W ++ W') I I'' := by
  obtain ⟨p1, p2, p3⟩ := h1
  obtain ⟨q1, q2, q3⟩ := h2
  refine ⟨by rw [q1, List.length_append]; congr 1; omega, fun i l h => ?_, fun i hi => by rw [q3 i (by omega)]; exact p3 i hi⟩
  by_cases hi : i < W.length
  · rw [List.getElem?_append_left hi] at h
    rw [q3 (c + i) (by omega)]
    exact p2 i l h
  · rw [List.getElem?_append_right (by omega)] at h
    have := q2 _ l h
    rw [show c + W.length + (i - W.length) = c + i by omega] at this
    exact this
theorem PW_map {σ : Sg} {ℓ ab : Int} {nr nW ng : Nat} {how : Int} {row : Nat} {δ : Sg} {c b : Nat} {W : List (List Nat)} {I I' : sI} (h : PW σ ℓ ab nr nW ng how row (loneS σ ℓ ab nW δ b) c W I I') : PW σ ℓ ab nr nW ng how row δ c (W.map (fun l => b :: l)) I I' := by
  obtain ⟨p1, p2, p3⟩ := h
  refine ⟨by rw [List.length_map]; exact p1, fun i l h => ?_, p3⟩
  rw [List.getElem?_map] at h
  obtain ⟨l', h1, h2⟩ := Option.map_eq_some_iff.mp h
  rw [← h2]
  exact p2 i l' h1
/-- what a walk leaves as it was -/
def WI (d row : Nat) (I I' : sI) : Prop := (∀ a, (a < 70 ∨ a = 79 ∨ (110 ≤ a ∧ a ≤ 110 + d) ∨ (123 ≤ a ∧ a ≠ row)) → I' a = I a) ∧ (∀ k, k ≠ 5 → I' 122 k = I 122 k)
def WL (d : Nat) (tk : Nat → Bool) (L L' : sI) : Prop := ∀ a, (a < 81 ∨ 120 ≤ a ∨ (90 ≤ a ∧ a ≤ 90 + d) ∨ (100 ≤ a ∧ a ≤ 100 + d) ∨ (81 ≤ a ∧ a ≤ 88 ∧ tk (a - 81) = true)) → L' a = L a
theorem WI_tr {d row : Nat} {I I' I'' : sI} (h1 : WI d row I I') (h2 : WI d row I' I'') : WI d row I I'' := ⟨fun a ha => (h2.1 a ha).trans (h1.1 a ha), fun k hk => (h2.2 k hk).trans (h1.2 k hk)⟩
theorem WL_tr {d : Nat} {tk : Nat → Bool} {L L' L'' : sI} (h1 : WL d tk L L') (h2 : WL d tk L' L'') : WL d tk L L'' := fun a ha => (h2 a ha).trans (h1 a ha)
theorem WI_up {d d' row : Nat} {I I' : sI} (h : WI d row I I') (hd : d' ≤ d) : WI d' row I I' := ⟨fun a ha => h.1 a (by omega), h.2⟩
theorem WI_frb {d row lo hi : Nat} {I I' : sI} (h : frb lo hi I I') (hlo : 70 ≤ lo) (hhi : hi ≤ 79) : WI d row I I' := ⟨fun a ha => h a (by omega), fun k _ => by rw [h 122 (by omega)]⟩
theorem HS_low {σ : Sg} {nr ng : Nat} {I I' : sI} (h : HS 8 σ nr ng I) (hf : ∀ a, a < 70 → I' a = I a) : HS 8 σ nr ng I' := by
  obtain ⟨h1, h2, h3, h4⟩ := h
  refine ⟨fun q hq => by rw [hf _ (by omega)]; exact h1 q hq, by rw [hf _ (by omega)]; exact h2, fun r hr => by rw [hf _ (by omega)]; exact h3 r hr, by rw [hf _ (by omega)]; exact h4⟩
theorem HX_low {σ : Sg} {nr nw ng : Nat} {I I' : sI} (hV : HV σ nr nw ng) (h : HX 8 σ nr nw ng I) (hf : ∀ a, a < 70 → I' a = I a) : HX 8 σ nr nw ng I' := by
  obtain ⟨v1, v2, v3, v4, v5, v6, v7⟩ := hV
  obtain ⟨h1, h2, h3, h4, h5, h6, h7, h8⟩ := h
  refine ⟨by rw [hf _ (by omega)]; exact h1, by rw [hf _ (by omega)]; exact h2, by rw [hf _ (by omega)]; exact h3, by rw [hf _ (by omega)]; exact h4, fun r hr k hk => by rw [hf _ (by omega)]; exact h5 r hr k hk, fun r hr k hk => by rw [hf _ (by omega)]; exact h6 r hr k hk, fun r hr k hk => by rw [hf _ (by omega)]; exact h7 r hr k hk, fun r hr h => by rw [hf _ (by omega)]; exact h8 r hr h⟩
theorem KX_low {σ : Sg} {ℓ ab : Int} {nr nW : Nat} {I I' : sI} (h8 : nr ≤ 8) (h4 : nW ≤ 4) (h : KX σ ℓ ab nr nW I) (hf : ∀ a, a < 70 → I' a = I a) : KX σ ℓ ab nr nW I' := by
  obtain ⟨h1, h2, h3, h5, h6, h7⟩ := h
  exact ⟨by rw [hf 8 (by omega)]; exact h1, fun r hr k hk => by rw [hf (10 + r) (by omega)]; exact h2 r hr k hk, by rw [hf 63 (by omega)]; exact h3, by rw [hf 63 (by omega)]; exact h5, fun w hw k hk => by rw [hf (65 + w) (by omega)]; exact h6 w hw k hk, fun w hw => by rw [hf 69 (by omega)]; exact h7 w hw⟩
/-- rooms that are not taken are as they were -/
def UN (tk : Nat → Bool) (nr : Nat) (δ : Sg) : Prop := ∀ r, r < nr → tk r = false → δ 1 r = -1 ∧ δ 2 r = -1 ∧ δ 3 r = -1
theorem doS_ne {σ : Sg} {ℓ : Int} {δ : Sg} {w r : Nat} : (∀ ρ, ρ ≠ r → doS σ ℓ δ w r 1 ρ = δ 1 ρ ∧ doS σ ℓ δ w r 2 ρ = δ 2 ρ ∧ doS σ ℓ δ w r 3 ρ = δ 3 ρ) ∧ (∀ ρ, doS σ ℓ δ w r 0 ρ = δ 0 ρ) ∧ (∀ v, v ≠ w → doS σ ℓ δ w r 4 v = δ 4 v ∧ doS σ ℓ δ w r 5 v = δ 5 v) ∧ doS σ ℓ δ w r 3 r = rdyS σ ℓ δ w r := by
  refine ⟨fun ρ h => ?_, fun ρ => ?_, fun v h => ?_, ?_⟩ <;> simp [doS, up2, *]
theorem UN_add {tk : Nat → Bool} {nr : Nat} {δ δ' : Sg} {b : Nat} (h : UN tk nr δ) (hd : ∀ ρ, ρ ≠ b → δ' 1 ρ = δ 1 ρ ∧ δ' 2 ρ = δ 2 ρ ∧ δ' 3 ρ = δ 3 ρ) : UN (addS tk b) nr δ' := fun r hr ht => by
  have ht : (tk r || decide (r = b)) = false := ht
  rw [Bool.or_eq_false_iff, decide_eq_false_iff_not] at ht
  obtain ⟨e1, e2, e3⟩ := hd r ht.2
  rw [e1, e2, e3]; exact h r hr ht.1
theorem DX_back {σ : Sg} {ℓ : Int} {nr nW : Nat} {δ : Sg} {w r : Nat} {I : sI} (h : DX (doS σ ℓ δ w r) nr nW I) (hu : δ 1 r = -1 ∧ δ 2 r = -1 ∧ δ 3 r = -1) : DX δ nr nW (up2 (up2 (up2 (up2 (up2 I 74 r (-1)) 76 r (-1)) 75 r (-1)) 70 w (δ 4 w)) 71 w (δ 5 w)) := by
  obtain ⟨n1, n2, n3, -⟩ := doS_ne (σ := σ) (ℓ := ℓ) (δ := δ) (w := w) (r := r)
  refine ⟨fun ρ hρ => ?_, fun v hv => ?_⟩
  · have q := h.1 ρ hρ
    rw [n2 ρ] at q
    by_cases e : ρ = r
    · subst e
      simp [up2, hu, q.1]
    · rw [(n1 ρ e).1, (n1 ρ e).2.1, (n1 ρ e).2.2] at q
      simp [up2, e, q]
  · have q := h.2 v hv
    by_cases e : v = w
    · subst e
      simp [up2]
    · rw [(n3 v e).1, (n3 v e).2] at q
      simp [up2, e, q]
