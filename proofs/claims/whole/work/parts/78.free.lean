/-! the women who are free: the reference's loop goes as the class' steps do -/
def cnN (p : Nat → Bool) : Nat → Nat
  | 0 => 0
  | n + 1 => cnN p n + (if p n = true then 1 else 0)
theorem cn_le (p : Nat → Bool) : ∀ n, cnN p n ≤ n
  | 0 => Nat.le_refl 0
  | n + 1 => by have := cn_le p n; unfold cnN; split <;> omega
theorem cn_mono {p q : Nat → Bool} : ∀ n, (∀ i, i < n → p i = true → q i = true) → cnN p n ≤ cnN q n
  | 0, _ => Nat.le_refl 0
  | n + 1, h => by
    have ih := cn_mono n (fun i hi => h i (by omega))
    unfold cnN
    by_cases hp : p n = true
    · rw [if_pos hp, if_pos (h n (by omega) hp)]; omega
    · rw [if_neg hp]; split <;> omega
theorem cn_lt {p q : Nat → Bool} {r : Nat} : ∀ n, (∀ i, i < n → p i = true → q i = true) → r < n → q r = true → p r = false → cnN p n + 1 ≤ cnN q n
  | 0, _, h, _, _ => absurd h (by omega)
  | n + 1, h, hr, h1, h2 => by
    unfold cnN
    by_cases e : r = n
    · subst e
      have := cn_mono r (fun i hi => h i (by omega))
      rw [if_pos h1, if_neg (by rw [h2]; decide)]; omega
    · have ih := cn_lt n (fun i hi => h i (by omega)) (show r < n by omega) h1 h2
      by_cases hp : p n = true
      · rw [if_pos hp, if_pos (h n (by omega) hp)]; omega
      · rw [if_neg hp]; split <;> omega
def smN (f : Nat → Nat) : Nat → Nat
  | 0 => 0
  | n + 1 => smN f n + f n
theorem sm_le {f h : Nat → Nat} : ∀ n, (∀ i, i < n → f i ≤ h i) → smN f n ≤ smN h n
  | 0, _ => Nat.le_refl 0
  | n + 1, hh => by have := sm_le n (fun i hi => hh i (by omega)); have := hh n (by omega); unfold smN; omega
theorem sm_lt {f h : Nat → Nat} {w : Nat} : ∀ n, (∀ i, i < n → f i ≤ h i) → w < n → f w + 1 ≤ h w → smN f n + 1 ≤ smN h n
  | 0, _, hw, _ => absurd hw (by omega)
  | n + 1, hh, hw, hlt => by
    unfold smN
    by_cases e : w = n
    · subst e; have := sm_le w (fun i hi => hh i (by omega)); omega
    · have := sm_lt n (fun i hi => hh i (by omega)) (show w < n by omega) hlt; have := hh n (by omega); omega
theorem sm_bd {f : Nat → Nat} {c : Nat} : ∀ n, (∀ i, i < n → f i ≤ c) → smN f n ≤ n * c
  | 0, _ => by show 0 ≤ _; omega
  | n + 1, h => by have := sm_bd n (fun i hi => h i (by omega)); have := h n (by omega); unfold smN; rw [Nat.succ_mul]; omega
/-- how many steps there are at most -/
def mzF (nr nW : Nat) (en : Nat → Bool) (δ : Sg) : Nat := cnN (fun r => decide (δ 1 r = -1)) nr + smN (fun w => if en w = true then 0 else 1 + cnN (fun r => decide (δ 4 w < δ 0 r)) nr) nW
theorem ng_at {δ : Sg} {q : Int} : ∀ n, ngS δ q n ≠ -1 → ∃ r, r < n ∧ δ 0 r = ngS δ q n
  | 0, h => absurd rfl h
  | n + 1, h => by
    unfold ngS at h ⊢
    by_cases c : δ 1 n = -1 ∧ q < δ 0 n ∧ (ngS δ q n = -1 ∨ δ 0 n < ngS δ q n)
    · rw [if_pos c]; exact ⟨n, by omega, rfl⟩
    · rw [if_neg c] at h ⊢
      obtain ⟨r, h1, h2⟩ := ng_at n h
      exact ⟨r, by omega, h2⟩
theorem ng_gt {δ : Sg} {q : Int} : ∀ n, ngS δ q n = -1 ∨ q < ngS δ q n
  | 0 => Or.inl rfl
  | n + 1 => by
    have := ng_gt (δ := δ) (q := q) n
    unfold ngS
    by_cases c : δ 1 n = -1 ∧ q < δ 0 n ∧ (ngS δ q n = -1 ∨ δ 0 n < ngS δ q n)
    · rw [if_pos c]; exact Or.inr c.2.1
    · rw [if_neg c]; exact this
/-- the reference's marks beside the class' ones -/
def FRX (nW : Nat) (ab : Int) (en : Nat → Bool) (δ ε : Sg) : Prop := (∀ k, k ≠ 4 → ε k = δ k) ∧ (∀ w : Nat, w < nW → (en w = false → ¬ (w : Int) = ab ∧ ε 4 w = δ 4 w ∧ δ 4 w ≤ 1000) ∧ (en w = true → (w : Int) = ab ∨ ε 4 w = 268435456))
def ffM (ε : Sg) (ab : Int) (nW : Nat) : Int := amin (fun w => decide (¬ (w : Int) = ab ∧ ε 4 w < 268435456)) (fun w => ε 4 w) nW
theorem ff_eq {nW : Nat} {ab : Int} {en : Nat → Bool} {δ ε : Sg} (h : FRX nW ab en δ ε) : ffM ε ab nW = ffS en δ nW := by
  unfold ffM ffS
  refine amin_congr (fun i hi => ?_) (fun i j hi hj oi oj => ?_)
  · obtain ⟨h1, h2⟩ := h.2 i hi
    cases he : en i with
    | false =>
      obtain ⟨a, b, c⟩ := h1 he
      exact decide_eq_true ⟨a, by omega⟩
    | true =>
      refine decide_eq_false (fun q => ?_)
      rcases h2 he with e | e
      · exact q.1 e
      · omega
  · have ok : ∀ i, i < nW → decide (¬ (i : Int) = ab ∧ ε 4 i < 268435456) = true → ε 4 i = δ 4 i := fun i hi oi => by
      have q := of_decide_eq_true oi
      obtain ⟨h1, h2⟩ := h.2 i hi
      cases he : en i with
      | false => exact (h1 he).2.1
      | true =>
        rcases h2 he with e | e
        · exact absurd e q.1
        · omega
    show ε 4 i ≤ ε 4 j ↔ δ 4 i ≤ δ 4 j
    rw [ok i hi oi, ok j hj oj]
theorem ff_at {nW : Nat} {ab : Int} {en : Nat → Bool} {δ : Sg} {w : Nat} (h : ffS en δ nW = (w : Int)) : w < nW ∧ en w = false := by
  unfold ffS at h
  rcases amin_spec (fun w => !en w) (fun w => δ 4 w) nW with ⟨q, -⟩ | ⟨b, q, h1, h2, -⟩
  · omega
  · have : b = w := by omega
    subst this
    exact ⟨h1, by simpa using h2⟩
/-- with enough steps left the class' walk ends by itself -/
theorem free_step {σ : Sg} {ℓ ab : Int} {pm : Nat → Int} {kd : Int} {nr nW k : Nat} {en : Nat → Bool} {δ : Sg} (hS : SV σ ℓ nr nW) (hD : DV δ nr nW) {w : Nat} (hf : ffS en δ nW = (w : Int)) (hm : mzF nr nW en δ ≤ k + 1) :
    (∀ r : Nat, choS σ ℓ ab pm kd nr δ w = (r : Int) → frX σ ℓ ab pm kd nr nW (k + 1) en δ = frX σ ℓ ab pm kd nr nW k en (doS σ ℓ δ w r) ∧ r < nr ∧ mayS σ ℓ ab δ w r = true ∧ δ 1 r = -1 ∧ mzF nr nW en (doS σ ℓ δ w r) ≤ k) ∧
    (choS σ ℓ ab pm kd nr δ w = -1 → ngS δ (δ 4 w) nr ≠ -1 → frX σ ℓ ab pm kd nr nW (k + 1) en δ = frX σ ℓ ab pm kd nr nW k (fun v => if v = w then false else en v) (up2 δ 4 w (ngS δ (δ 4 w) nr)) ∧ mzF nr nW (fun v => if v = w then false else en v) (up2 δ 4 w (ngS δ (δ 4 w) nr)) ≤ k) ∧
    (choS σ ℓ ab pm kd nr δ w = -1 → ngS δ (δ 4 w) nr = -1 → frX σ ℓ ab pm kd nr nW (k + 1) en δ = frX σ ℓ ab pm kd nr nW k (fun v => if v = w then true else en v) (up2 δ 4 w (δ 4 w)) ∧ mzF nr nW (fun v => if v = w then true else en v) (up2 δ 4 w (δ 4 w)) ≤ k) := by
  obtain ⟨hw, hen⟩ := ff_at (ab := ab) hf
  refine ⟨fun r hr => ?_, fun hc hn => ?_, fun hc hn => ?_⟩
  · have hsp := amin_spec (fun r => decide (δ 1 r = -1 ∧ δ 0 r ≤ δ 4 w) && mayS σ ℓ ab δ w r) (fun r => ahdS σ pm kd r * 6 + absI (δ 5 w - σ 0 r)) nr
    have hr2 : amin (fun r => decide (δ 1 r = -1 ∧ δ 0 r ≤ δ 4 w) && mayS σ ℓ ab δ w r) (fun r => ahdS σ pm kd r * 6 + absI (δ 5 w - σ 0 r)) nr = (r : Int) := hr
    rw [hr2] at hsp
    rcases hsp with ⟨q, -⟩ | ⟨b, q, h1, h2, -⟩
    · omega
    · have : b = r := by omega
      subst this
      rw [Bool.and_eq_true, decide_eq_true_iff] at h2
      obtain ⟨⟨h3, h4⟩, h5⟩ := h2
      have hbd := begS_bd hS hD hw h1
      have dn := doS_ne (σ := σ) (ℓ := ℓ) (δ := δ) (w := w) (r := b)
      refine ⟨?_, h1, h5, h3, ?_⟩
      · show (if ffS en δ nW = -1 then δ else _) = _
        rw [hf, if_neg (by omega), Int.toNat_natCast, hr, if_neg (by omega), Int.toNat_natCast]
        unfold stepS
        rw [if_pos h5]
      · unfold mzF at hm ⊢
        have d1 : doS σ ℓ δ w b 1 b = (w : Int) := by
          unfold doS
          rw [up2_ne _ _ (show (1 : Nat) ≠ 5 by decide), up2_ne _ _ (show (1 : Nat) ≠ 4 by decide), up2_ne _ _ (show (1 : Nat) ≠ 2 by decide), up2_ne _ _ (show (1 : Nat) ≠ 3 by decide), up2_at]
        have d4 : doS σ ℓ δ w b 4 w = rdyS σ ℓ δ w b := by
          unfold doS
          rw [up2_ne _ _ (show (4 : Nat) ≠ 5 by decide), up2_at]
        have c1 : cnN (fun r => decide (doS σ ℓ δ w b 1 r = -1)) nr + 1 ≤ cnN (fun r => decide (δ 1 r = -1)) nr := by
          refine cn_lt (r := b) nr (fun i hi hp => ?_) h1 (decide_eq_true h3) (decide_eq_false (by rw [d1]; omega))
          have hp2 := of_decide_eq_true hp
          by_cases e : i = b
          · rw [e, d1] at hp2; omega
          · rw [(dn.1 i e).1] at hp2; exact decide_eq_true hp2
        have c2 : smN (fun w_1 => if en w_1 = true then 0 else 1 + cnN (fun r => decide (doS σ ℓ δ w b 4 w_1 < doS σ ℓ δ w b 0 r)) nr) nW ≤ smN (fun w => if en w = true then 0 else 1 + cnN (fun r => decide (δ 4 w < δ 0 r)) nr) nW := by
          refine sm_le nW (fun v hv => ?_)
          show (if en v = true then 0 else _) ≤ (if en v = true then 0 else _)
          split
          · exact Nat.le_refl _
          · have : cnN (fun r => decide (doS σ ℓ δ w b 4 v < doS σ ℓ δ w b 0 r)) nr ≤ cnN (fun r => decide (δ 4 v < δ 0 r)) nr := by
              refine cn_mono nr (fun i hi hp => ?_)
              have hp2 := of_decide_eq_true hp
              rw [dn.2.1 i] at hp2
              refine decide_eq_true ?_
              by_cases e : v = w
              · rw [e, d4] at hp2; rw [e]; omega
              · rw [(dn.2.2.1 v e).1] at hp2; exact hp2
            omega
        omega
  · have hgt : δ 4 w < ngS δ (δ 4 w) nr := by
      rcases ng_gt (δ := δ) (q := δ 4 w) nr with h | h
      · exact absurd h hn
      · exact h
    obtain ⟨r0, h1, h2⟩ := ng_at nr hn
    refine ⟨?_, ?_⟩
    · show (if ffS en δ nW = -1 then δ else _) = _
      rw [hf, if_neg (by omega), Int.toNat_natCast, hc, if_pos rfl, if_pos hgt]
      congr 1
      funext v
      by_cases e : v = w
      · rw [if_pos e, if_pos e]; exact decide_eq_false hn
      · rw [if_neg e, if_neg e]
    · unfold mzF at hm ⊢
      obtain ⟨x, hx⟩ : ∃ x, x = ngS δ (δ 4 w) nr := ⟨_, rfl⟩
      rw [← hx] at hgt h2 ⊢
      have o : ∀ k, k ≠ 4 → up2 δ 4 w x k = δ k := fun k hk => up2_ne _ _ hk
      rw [o 1 (by decide), o 0 (by decide)]
      have c2 : smN (fun v => if (if v = w then false else en v) = true then 0 else 1 + cnN (fun r => decide (up2 δ 4 w x 4 v < δ 0 r)) nr) nW + 1 ≤ smN (fun w => if en w = true then 0 else 1 + cnN (fun r => decide (δ 4 w < δ 0 r)) nr) nW := by
        have term : ∀ v, v < nW → (if (if v = w then false else en v) = true then 0 else 1 + cnN (fun r => decide (up2 δ 4 w x 4 v < δ 0 r)) nr) + (if v = w then 1 else 0) ≤ (if en v = true then 0 else 1 + cnN (fun r => decide (δ 4 v < δ 0 r)) nr) := by
          intro v hv
          by_cases e : v = w
          · subst e
            rw [if_pos rfl, if_neg (by decide), if_pos rfl, hen, if_neg (by decide), up2_at]
            have : cnN (fun r => decide (x < δ 0 r)) nr + 1 ≤ cnN (fun r => decide (δ 4 v < δ 0 r)) nr := by
              refine cn_lt (r := r0) nr (fun i hi hp => ?_) h1 (decide_eq_true (by omega)) (decide_eq_false (by omega))
              have hp2 := of_decide_eq_true hp
              exact decide_eq_true (by omega)
            omega
          · rw [if_neg e, if_neg e, up2_nj _ _ e]
            exact Nat.le_refl _
        refine sm_lt (w := w) nW (fun v hv => ?_) hw ?_
        · have := term v hv; omega
        · have := term w hw; rw [show (if w = w then 1 else 0 : Nat) = 1 from if_pos rfl] at this; exact this
      show cnN (fun r => decide (δ 1 r = -1)) nr + smN (fun v => if (if v = w then false else en v) = true then 0 else 1 + cnN (fun r => decide (up2 δ 4 w x 4 v < δ 0 r)) nr) nW ≤ k
      omega
  · refine ⟨?_, ?_⟩
    · show (if ffS en δ nW = -1 then δ else _) = _
      rw [hf, if_neg (by omega), Int.toNat_natCast, hc, if_pos rfl, hn]
      have h4 := (hD.2 w hw).1
      rw [if_neg (by omega)]
      congr 1
    · unfold mzF at hm ⊢
      have o : up2 δ 4 w (δ 4 w) = δ := by
        funext k j
        unfold up2
        split
        · next e =>
          split
          · next e2 => rw [e, e2]
          · rfl
        · rfl
      rw [o]
      have c2 : smN (fun v => if (if v = w then true else en v) = true then 0 else 1 + cnN (fun r => decide (δ 4 v < δ 0 r)) nr) nW + 1 ≤ smN (fun w => if en w = true then 0 else 1 + cnN (fun r => decide (δ 4 w < δ 0 r)) nr) nW := by
        refine sm_lt (w := w) nW (fun v hv => ?_) hw ?_
        · show (if (if v = w then true else en v) = true then 0 else _) ≤ (if en v = true then 0 else _)
          by_cases e : v = w
          · rw [if_pos e, if_pos rfl]; omega
          · rw [if_neg e]; exact Nat.le_refl _
        · show (if (if w = w then true else en w) = true then 0 else _) + 1 ≤ (if en w = true then 0 else _)
          rw [if_pos rfl, if_pos rfl, hen, if_neg (by decide)]; omega
      show cnN (fun r => decide (δ 1 r = -1)) nr + smN (fun v => if (if v = w then true else en v) = true then 0 else 1 + cnN (fun r => decide (δ 4 v < δ 0 r)) nr) nW ≤ k
      omega
theorem mz_op {σ : Sg} {nr nW : Nat} {en : Nat → Bool} {δ : Sg} (h8 : nr ≤ 8) (h4 : nW ≤ 4) : mzF nr nW en δ ≤ 44 := by
  unfold mzF
  have h1 := cn_le (fun r => decide (δ 1 r = -1)) nr
  have h2 := sm_bd (f := fun w => if en w = true then 0 else 1 + cnN (fun r => decide (δ 4 w < δ 0 r)) nr) (c := 9) nW (fun w hw => by
    have := cn_le (fun r => decide (δ 4 w < δ 0 r)) nr
    show (if en w = true then 0 else 1 + cnN (fun r => decide (δ 4 w < δ 0 r)) nr) ≤ 9
    split <;> omega)
  have h3 : nW * 9 ≤ 4 * 9 := Nat.mul_le_mul_right 9 h4
  omega
