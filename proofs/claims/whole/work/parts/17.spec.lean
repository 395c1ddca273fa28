/-! what a house is, and a day: in numbers. σ k i: 0..6 of room i what room() tells, 7..9 of woman i, 10..13 of guest i -/
abbrev Sg : Type := Nat → Nat → Int
/-- how many of the first n rooms are by chance -/
def chn (σ : Sg) : Nat → Nat
  | 0 => 0
  | n + 1 => chn σ n + (if σ 4 n = -1 then 0 else 1)
def RV (σ : Sg) (r : Nat) : Prop := (1 ≤ σ 0 r ∧ σ 0 r ≤ 6) ∧ (0 ≤ σ 1 r ∧ σ 1 r ≤ 3) ∧ (1 ≤ σ 2 r ∧ σ 2 r ≤ 9) ∧ (0 ≤ σ 3 r ∧ σ 3 r ≤ 40) ∧ ((σ 4 r = -1 ∧ σ 5 r = -1) ∨ (0 ≤ σ 4 r ∧ σ 4 r ≤ 41 ∧ 1 ≤ σ 5 r ∧ σ 5 r ≤ 9)) ∧ (-1 ≤ σ 6 r ∧ σ 6 r ≤ 44)
def WV (σ : Sg) (w : Nat) : Prop := (1 ≤ σ 7 w ∧ σ 7 w ≤ 6) ∧ (0 ≤ σ 8 w ∧ σ 8 w ≤ 40) ∧ (0 ≤ σ 9 w ∧ σ 9 w ≤ 44)
def GV (σ : Sg) (q : Nat) : Prop := (0 ≤ σ 10 q ∧ σ 10 q ≤ 44) ∧ (-1 ≤ σ 11 q ∧ σ 11 q ≤ 3) ∧ (σ 12 q = 0 ∨ σ 12 q = 1) ∧ (1 ≤ σ 13 q ∧ σ 13 q ≤ 9)
def HV (σ : Sg) (nr nw ng : Nat) : Prop := nr ≤ 8 ∧ nw ≤ 3 ∧ ng ≤ 8 ∧ (∀ r, r < nr → RV σ r) ∧ (∀ w, w < nw → WV σ w) ∧ (∀ q, q < ng → GV σ q) ∧ chn σ nr ≤ 3
/-- a house of the class: at hb -/
def HX (hb : Nat) (σ : Sg) (nr nw ng : Nat) (I : sI) : Prop := I hb 3 = (nr : Int) ∧ I hb 4 = (nw : Int) ∧ I hb 5 = (ng : Int) ∧ I hb 6 = (chn σ nr : Int) ∧ (∀ r, r < nr → ∀ k, k < 7 → I (hb + 2 + r) k = σ k r) ∧ (∀ w, w < nw → ∀ k, k < 3 → I (hb + 11 + w) k = σ (7 + k) w) ∧ (∀ q, q < ng → ∀ k, k < 4 → I (hb + 15 + q) k = σ (10 + k) q) ∧ (∀ r, r < nr → σ 4 r ≠ -1 → I (hb + 23) (chn σ r) = (r : Int))
def frm (as : List Nat) (I I' : sI) : Prop := ∀ a, a ∉ as → I' a = I a
theorem chn_mono (σ : Sg) {m n : Nat} (h : m ≤ n) : chn σ m ≤ chn σ n := by
  induction h with
  | refl => exact Nat.le_refl _
  | step _ ih => exact Nat.le_trans ih (by show chn σ _ ≤ chn σ _ + _; exact Nat.le_add_right _ _)
theorem chn_lt (σ : Sg) {r n : Nat} (h : r < n) (h4 : σ 4 r ≠ -1) : chn σ r < chn σ n := by
  have h1 := chn_mono σ (show r + 1 ≤ n from h)
  have h2 : chn σ (r + 1) = chn σ r + 1 := by simp [chn, h4]
  omega
/-- the room of a bit -/
theorem chn_room (σ : Sg) : ∀ (n b : Nat), b < chn σ n → ∃ r, r < n ∧ σ 4 r ≠ -1 ∧ chn σ r = b
  | 0, b, h => absurd h (Nat.not_lt_zero b)
  | n + 1, b, h => by
    by_cases h4 : σ 4 n = -1
    · have : chn σ (n + 1) = chn σ n := by simp [chn, h4]
      obtain ⟨r, h1, h2, h3⟩ := chn_room σ n b (by omega)
      exact ⟨r, by omega, h2, h3⟩
    · have : chn σ (n + 1) = chn σ n + 1 := by simp [chn, h4]
      by_cases hb : b < chn σ n
      · obtain ⟨r, h1, h2, h3⟩ := chn_room σ n b hb
        exact ⟨r, by omega, h2, h3⟩
      · exact ⟨n, by omega, h4, by omega⟩
theorem chn_inj (σ : Sg) {r s : Nat} (hr : σ 4 r ≠ -1) (hs : σ 4 s ≠ -1) (h : chn σ r = chn σ s) : r = s := by
  by_cases h1 : r < s
  · have := chn_lt σ h1 hr; omega
  · by_cases h2 : s < r
    · have := chn_lt σ h2 hs; omega
    · omega
/-- when a room is gone by a way -/
def goneS (σ : Sg) (way r : Nat) : Int := if σ 6 r = -1 then (if σ 4 r ≠ -1 ∧ way.testBit (chn σ r) = true then σ 4 r else σ 3 r) else σ 6 r
/-- how likely a way is: one factor a room by chance; that of a late room tells nothing -/
def fcX (σ : Sg) (way r : Nat) : Int := if way.testBit (chn σ r) = true then 10 - (if σ 6 r = -1 then σ 5 r else 10) else (if σ 6 r = -1 then σ 5 r else 10)
def fcM (σ : Sg) (way r : Nat) : Int := if way.testBit (chn σ r) = true then 10 - σ 5 r else σ 5 r
def wtX (σ : Sg) (way : Nat) : Nat → Int
  | 0 => 1
  | n + 1 => wtX σ way n * (if σ 4 n = -1 then 1 else fcX σ way n)
def wtM (σ : Sg) (way : Nat) : Nat → Int
  | 0 => 1
  | n + 1 => wtM σ way n * (if σ 4 n = -1 then 1 else fcM σ way n)
def ltn (σ : Sg) : Nat → Nat
  | 0 => 0
  | n + 1 => ltn σ n + (if σ 6 n = -1 then 0 else 1)
theorem ltn_le (σ : Sg) : ∀ n, ltn σ n ≤ n
  | 0 => Nat.le_refl 0
  | n + 1 => by have := ltn_le σ n; unfold ltn; split <;> omega
theorem wtX_bd {σ : Sg} {way : Nat} : ∀ n, (∀ r, r < n → RV σ r) → 0 ≤ wtX σ way n ∧ wtX σ way n ≤ 10 ^ chn σ n
  | 0, _ => by simp [wtX, chn]
  | n + 1, h => by
    obtain ⟨h1, h2⟩ := wtX_bd (σ := σ) (way := way) n (fun r hr => h r (by omega))
    have hv := h n (by omega)
    unfold RV at hv
    by_cases h4 : σ 4 n = -1
    · simp only [wtX, chn, h4, if_true, Int.mul_one, Nat.add_zero]
      exact ⟨h1, h2⟩
    · have hf : 0 ≤ fcX σ way n ∧ fcX σ way n ≤ 10 := by unfold fcX; split <;> split <;> omega
      simp only [wtX, chn, h4, if_false]
      refine ⟨Int.mul_nonneg h1 hf.1, ?_⟩
      rw [Int.pow_succ]
      exact Int.mul_le_mul h2 hf.2 hf.1 (Int.pow_nonneg (by omega))
theorem p10 {n : Nat} (h : n ≤ 3) : (1 : Int) ≤ 10 ^ n ∧ (10 : Int) ^ n ≤ 1000 := by
  have : n = 0 ∨ n = 1 ∨ n = 2 ∨ n = 3 := by omega
  rcases this with rfl | rfl | rfl | rfl <;> decide
theorem p2 {n : Nat} (h : n ≤ 3) : 1 ≤ 2 ^ n ∧ 2 ^ n ≤ 8 := by
  have : n = 0 ∨ n = 1 ∨ n = 2 ∨ n = 3 := by omega
  rcases this with rfl | rfl | rfl | rfl <;> decide
/-- the first index below n with ok and the least key; -1: none -/
def amin (ok : Nat → Bool) (key : Nat → Int) : Nat → Int
  | 0 => -1
  | n + 1 => if ok n = true ∧ (amin ok key n = -1 ∨ key n < key (amin ok key n).toNat) then (n : Int) else amin ok key n
theorem amin_spec (ok : Nat → Bool) (key : Nat → Int) : ∀ n, (amin ok key n = -1 ∧ ∀ i, i < n → ok i = false) ∨ ∃ b : Nat, amin ok key n = (b : Int) ∧ b < n ∧ ok b = true ∧ (∀ i, i < n → ok i = true → key b ≤ key i) ∧ (∀ i, i < b → ok i = true → key b < key i)
  | 0 => Or.inl ⟨rfl, fun i h => absurd h (Nat.not_lt_zero i)⟩
  | n + 1 => by
    have ih := amin_spec ok key n
    unfold amin
    by_cases hc : ok n = true ∧ (amin ok key n = -1 ∨ key n < key (amin ok key n).toNat)
    · rw [if_pos hc]
      refine Or.inr ⟨n, rfl, by omega, hc.1, fun i hi hok => ?_, fun i hi hok => ?_⟩
      · rcases ih with ⟨h1, h2⟩ | ⟨b, h1, h2, h3, h4, h5⟩
        · by_cases e : i = n
          · rw [e]; exact Int.le_refl _
          · have := h2 i (by omega); rw [hok] at this; cases this
        · have hk : key n < key b := by
            rcases hc.2 with q | q
            · omega
            · rw [h1, Int.toNat_natCast] at q; exact q
          by_cases e : i = n
          · rw [e]; exact Int.le_refl _
          · have := h4 i (by omega) hok; omega
      · rcases ih with ⟨h1, h2⟩ | ⟨b, h1, h2, h3, h4, h5⟩
        · have := h2 i hi; rw [hok] at this; cases this
        · have hk : key n < key b := by
            rcases hc.2 with q | q
            · omega
            · rw [h1, Int.toNat_natCast] at q; exact q
          have := h4 i hi hok; omega
    · rw [if_neg hc]
      rcases ih with ⟨h1, h2⟩ | ⟨b, h1, h2, h3, h4, h5⟩
      · refine Or.inl ⟨h1, fun i hi => ?_⟩
        by_cases e : i = n
        · rw [e]
          cases ho : ok n with
          | false => rfl
          | true => exact absurd ⟨ho, Or.inl h1⟩ hc
        · exact h2 i (by omega)
      · refine Or.inr ⟨b, h1, by omega, h3, fun i hi hok => ?_, h5⟩
        by_cases e : i = n
        · rw [e] at hok ⊢
          have h6 : ¬ key n < key b := fun q => hc ⟨hok, Or.inr (by rw [h1, Int.toNat_natCast]; exact q)⟩
          omega
        · exact h4 i (by omega) hok
theorem amin_uniq {ok : Nat → Bool} {key : Nat → Int} {n b : Nat} (hb : b < n) (ho : ok b = true) (h1 : ∀ i, i < n → ok i = true → key b ≤ key i) (h2 : ∀ i, i < b → ok i = true → key b < key i) : amin ok key n = (b : Int) := by
  rcases amin_spec ok key n with ⟨h, h3⟩ | ⟨c, h, h3, h4, h5, h6⟩
  · have := h3 b hb; rw [ho] at this; cases this
  · by_cases e : c = b
    · rw [h, e]
    · have a1 := h1 c h3 h4
      have a2 := h5 b hb ho
      by_cases l : c < b
      · have := h2 c l h4; omega
      · have := h6 b (by omega) ho; omega
theorem amin_congr {ok ok' : Nat → Bool} {key key' : Nat → Int} {n : Nat} (ho : ∀ i, i < n → ok i = ok' i) (hk : ∀ i j, i < n → j < n → ok i = true → ok j = true → (key i ≤ key j ↔ key' i ≤ key' j)) : amin ok key n = amin ok' key' n := by
  rcases amin_spec ok key n with ⟨h, h3⟩ | ⟨c, h, h3, h4, h5, h6⟩
  · rcases amin_spec ok' key' n with ⟨g, g3⟩ | ⟨e, g, g3, g4, g5, g6⟩
    · rw [h, g]
    · have := h3 e g3; rw [ho e g3, g4] at this; cases this
  · rw [h]
    refine (amin_uniq h3 (by rw [← ho c h3]; exact h4) (fun i hi hok => ?_) (fun i hi hok => ?_)).symm
    · have hoi : ok i = true := by rw [ho i hi]; exact hok
      exact (hk c i h3 hi h4 hoi).mp (h5 i hi hoi)
    · have hoi : ok i = true := by rw [ho i (by omega)]; exact hok
      have h7 := h6 i hi hoi
      have h8 := hk i c (by omega) h3 hoi h4
      omega
theorem amin_rng (ok : Nat → Bool) (key : Nat → Int) (n : Nat) : -1 ≤ amin ok key n ∧ amin ok key n < n := by
  rcases amin_spec ok key n with ⟨h, -⟩ | ⟨c, h, h3, -⟩ <;> omega
theorem amin_no {ok : Nat → Bool} {key : Nat → Int} {n : Nat} (h : ok n = false ∨ (amin ok key n ≠ -1 ∧ key (amin ok key n).toNat ≤ key n)) : amin ok key (n + 1) = amin ok key n := by
  show (if _ then _ else _) = _
  rw [if_neg]
  rintro ⟨h1, h2⟩
  rcases h with h | ⟨h, h3⟩
  · rw [h] at h1; cases h1
  · rcases h2 with h2 | h2
    · exact h h2
    · omega
theorem amin_yes {ok : Nat → Bool} {key : Nat → Int} {n : Nat} (h1 : ok n = true) (h2 : amin ok key n = -1 ∨ key n < key (amin ok key n).toNat) : amin ok key (n + 1) = (n : Int) := by
  show (if _ then _ else _) = _
  rw [if_pos ⟨h1, h2⟩]
