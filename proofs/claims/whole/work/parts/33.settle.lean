/-- a room fits a guest -/
def fitS (σ : Sg) (r q : Nat) : Bool := decide ((σ 11 q = -1 ∨ σ 11 q = σ 1 r) ∧ (σ 12 q = 0 ∨ 4 ≤ σ 0 r))
def fmS (σ : Sg) (q : Nat) : Nat → Nat
  | 0 => 0
  | n + 1 => if fitS σ n q = true then fmS σ q n ||| 2 ^ n else fmS σ q n
def pmS (σ : Sg) (r : Nat) : Nat → Int
  | 0 => 99
  | n + 1 => if fitS σ r n = true then (if σ 10 n < pmS σ r n then σ 10 n else pmS σ r n) else pmS σ r n
def bareS (σ : Sg) (n : Nat) : Int := sumN (fun q => (44 - σ 10 q) * σ 13 q) n
theorem fmS_lt {σ : Sg} {q : Nat} : ∀ n, fmS σ q n < 2 ^ n
  | 0 => by show 0 < 1; omega
  | n + 1 => by
    have ih := fmS_lt (σ := σ) (q := q) n
    have h2 : 2 ^ n < 2 ^ (n + 1) := Nat.pow_lt_pow_right (by omega) (by omega)
    unfold fmS
    split
    · exact or_lt (by omega) (by omega)
    · omega
theorem fmS_bit {σ : Sg} {q i : Nat} : ∀ n, (fmS σ q n).testBit i = (decide (i < n) && fitS σ i q)
  | 0 => by simp [fmS]
  | n + 1 => by
    have ih := fmS_bit (σ := σ) (q := q) (i := i) n
    unfold fmS
    by_cases h : fitS σ n q = true
    · rw [if_pos h, or_bit, ih]
      by_cases e : n = i
      · subst e; simp [h]
      · by_cases l : i < n
        · simp [l, e, show i < n + 1 by omega]
        · simp [l, e, show ¬ i < n + 1 by omega]
    · rw [if_neg h, ih]
      by_cases e : n = i
      · subst e; simp [h]
      · by_cases l : i < n
        · simp [l, show i < n + 1 by omega]
        · simp [l, show ¬ i < n + 1 by omega]
theorem pmS_bd {σ : Sg} {r ng : Nat} (hg : ∀ q, q < ng → GV σ q) : ∀ n, n ≤ ng → 0 ≤ pmS σ r n ∧ pmS σ r n ≤ 99
  | 0, _ => by show (0 : Int) ≤ 99 ∧ (99 : Int) ≤ 99; omega
  | n + 1, h => by
    have ih := pmS_bd (σ := σ) (r := r) hg n (by omega)
    have hv := hg n (by omega)
    unfold GV at hv
    unfold pmS
    split
    · split <;> omega
    · omega
/-- the order in which guests come: ahead -/
def bef (σ : Sg) (p q : Nat) : Prop := σ 10 p < σ 10 q ∨ (σ 10 p = σ 10 q ∧ p < q)
def ARV (σ : Sg) (n : Nat) (A : Nat → Int) : Prop := ∃ ar : Nat → Nat, (∀ i, i < n → A i = (ar i : Int) ∧ ar i < n) ∧ (∀ i j, i < j → j < n → bef σ (ar i) (ar j))
def HS (hb : Nat) (σ : Sg) (nr ng : Nat) (I : sI) : Prop := (∀ q, q < ng → I (hb + 24) q = (fmS σ q nr : Int)) ∧ ARV σ ng (I (hb + 25)) ∧ (∀ r, r < nr → I (hb + 26) r = pmS σ r ng) ∧ I hb 11 = bareS σ ng
/-- only what settle writes -/
def fst4 (hb : Nat) (I I' : sI) : Prop := (∀ a, ¬ (a = hb ∨ a = hb + 24 ∨ a = hb + 25 ∨ a = hb + 26) → I' a = I a) ∧ (∀ k, k ≠ 11 → I' hb k = I hb k)
theorem fst4_tr {hb : Nat} {I I' I'' : sI} (h1 : fst4 hb I I') (h2 : fst4 hb I' I'') : fst4 hb I I'' := ⟨fun a ha => (h2.1 a ha).trans (h1.1 a ha), fun k hk => (h2.2 k hk).trans (h1.2 k hk)⟩
theorem HX_fst {hb : Nat} {σ : Sg} {nr nw ng : Nat} {I I' : sI} (hV : HV σ nr nw ng) (h : HX hb σ nr nw ng I) (hf : fst4 hb I I') : HX hb σ nr nw ng I' := by
  obtain ⟨v1, v2, v3, v4, v5, v6, v7⟩ := hV
  obtain ⟨h1, h2, h3, h4, h5, h6, h7, h8⟩ := h
  refine ⟨by rw [hf.2 3 (by omega)]; exact h1, by rw [hf.2 4 (by omega)]; exact h2, by rw [hf.2 5 (by omega)]; exact h3, by rw [hf.2 6 (by omega)]; exact h4, fun r hr k hk => ?_, fun w hw k hk => ?_, fun q hq k hk => ?_, fun r hr h4' => ?_⟩
  · rw [hf.1 _ (by omega)]; exact h5 r hr k hk
  · rw [hf.1 _ (by omega)]; exact h6 w hw k hk
  · rw [hf.1 _ (by omega)]; exact h7 q hq k hk
  · rw [hf.1 _ (by omega)]; exact h8 r hr h4'
section C33
variable {g : sG} {Ls : Nat} {tl : List Nat} {I L : sI} {σ : Sg} {nr nw ng hb : Nat}
theorem c_fits (hh : hb = 8 ∨ hb = 35) (hV : HV σ nr nw ng) (hX : HX hb σ nr nw ng I) {r q : Nat} (hr : r < nr) (hq : q < ng) : Mc g 0 m_X2_fits 0 0 [vr hb, vi (r : Int), vi (q : Int)] (TT Ls tl) I L (RR tl) (qI fun z T' I' L' R' => z = (if fitS σ r q = true then 1 else 0) ∧ same (TT Ls tl) I L (RR tl) T' I' L' R') := by
  refine Mc_of rfl (Nat.le_of_ble_eq_true rfl) ?_
  obtain ⟨v1, v2, v3, v4, v5, v6, v7⟩ := hV
  have hr8 : r < 8 := by omega
  have hq8 : q < 8 := by omega
  have hrv := v4 r hr
  have hgv := v6 q hq
  unfold RV at hrv
  unfold GV at hgv
  have e0 : I (hb + 2 + r) 0 = σ 0 r := hX.2.2.2.2.1 r hr 0 (by omega)
  have e1 : I (hb + 2 + r) 1 = σ 1 r := hX.2.2.2.2.1 r hr 1 (by omega)
  have e11 : I (hb + 15 + q) 1 = σ 11 q := hX.2.2.2.2.2.2.1 q hq 1 (by omega)
  have e12 : I (hb + 15 + q) 2 = σ 12 q := hX.2.2.2.2.2.2.1 q hq 2 (by omega)
  have hf : fitS σ r q = true ↔ ((σ 11 q = -1 ∨ σ 11 q = σ 1 r) ∧ (σ 12 q = 0 ∨ 4 ≤ σ 0 r)) := by unfold fitS; exact decide_eq_true_iff
  refine r_aload_n d_X2_fits_0 rfl ?_
  refine r_getr d_X2_fits_1 f_X2_19 (th_0 _ _ hh) (by decide) rfl (rh_2 _ hh) ?_
  refine r_iload_n d_X2_fits_4 rfl ?_
  refine r_aaldJ d_X2_fits_5 (th_14 _ _ hh) (by decide) rfl (by omega) (rh2_14 _ hh (by omega)) (kk := ?_)
  refine r_iconst d_X2_fits_6 ?_
  refine r_ialdJ (j := 1) d_X2_fits_7 (th2_14 _ _ hh (by omega)) rfl (by omega) (kk := ?_)
  refine r_iconst d_X2_fits_8 ?_
  refine r_icmp_eq d_X2_fits_9 (by omega) (by omega) (fun c9 => ?_) (fun c9 => ?_)
  · refine r_iconst d_X2_fits_31 ?_
    refine r_goto d_X2_fits_32 ?_
    refine r_istore_n d_X2_fits_36 (by decide) ?_
    refine r_iload_n d_X2_fits_37 rfl ?_
    refine r_if_eq d_X2_fits_38 (by omega) (fun c38 => ?_) (fun c38 => ?_)
    · refine r_iconst d_X2_fits_68 ?_
      refine r_zret d_X2_fits_69 rfl (by omega) ?_
      first
      | (exfalso; omega)
      | exact ⟨_, rfl, by rw [if_pos (hf.mpr (by omega))], same_rf⟩
      | exact ⟨_, rfl, by rw [if_neg (fun h => by have := hf.mp h; omega)], same_rf⟩
    · refine r_aload_n d_X2_fits_41 rfl ?_
      refine r_getr d_X2_fits_42 f_X2_19 (th_0 _ _ hh) (by decide) rfl (rh_2 _ hh) ?_
      refine r_iload_n d_X2_fits_45 rfl ?_
      refine r_aaldJ d_X2_fits_46 (th_14 _ _ hh) (by decide) rfl (by omega) (rh2_14 _ hh (by omega)) (kk := ?_)
      refine r_iconst d_X2_fits_47 ?_
      refine r_ialdJ (j := 2) d_X2_fits_48 (th2_14 _ _ hh (by omega)) rfl (by omega) (kk := ?_)
      refine r_if_eq d_X2_fits_49 (by omega) (fun c49 => ?_) (fun c49 => ?_)
      · refine r_iconst d_X2_fits_64 ?_
        refine r_goto d_X2_fits_65 ?_
        refine r_zret d_X2_fits_69 rfl (by omega) ?_
        first
        | (exfalso; omega)
        | exact ⟨_, rfl, by rw [if_pos (hf.mpr (by omega))], same_rf⟩
        | exact ⟨_, rfl, by rw [if_neg (fun h => by have := hf.mp h; omega)], same_rf⟩
      · refine r_aload_n d_X2_fits_52 rfl ?_
        refine r_getr d_X2_fits_53 f_X2_11 (th_0 _ _ hh) (by decide) rfl (rh_0 _ hh) ?_
        refine r_iload_n d_X2_fits_56 rfl ?_
        refine r_aaldJ d_X2_fits_57 (th_1 _ _ hh) (by decide) rfl (by omega) (rh2_1 _ hh (by omega)) (kk := ?_)
        refine r_iconst d_X2_fits_58 ?_
        refine r_ialdJ (j := 0) d_X2_fits_59 (th2_1 _ _ hh (by omega)) rfl (by omega) (kk := ?_)
        refine r_iconst d_X2_fits_60 ?_
        refine r_icmp_lt d_X2_fits_61 (by omega) (by omega) (fun c61 => ?_) (fun c61 => ?_)
        · refine r_iconst d_X2_fits_68 ?_
          refine r_zret d_X2_fits_69 rfl (by omega) ?_
          first
          | (exfalso; omega)
          | exact ⟨_, rfl, by rw [if_pos (hf.mpr (by omega))], same_rf⟩
          | exact ⟨_, rfl, by rw [if_neg (fun h => by have := hf.mp h; omega)], same_rf⟩
        · refine r_iconst d_X2_fits_64 ?_
          refine r_goto d_X2_fits_65 ?_
          refine r_zret d_X2_fits_69 rfl (by omega) ?_
          first
          | (exfalso; omega)
          | exact ⟨_, rfl, by rw [if_pos (hf.mpr (by omega))], same_rf⟩
          | exact ⟨_, rfl, by rw [if_neg (fun h => by have := hf.mp h; omega)], same_rf⟩
  · refine r_aload_n d_X2_fits_12 rfl ?_
    refine r_getr d_X2_fits_13 f_X2_19 (th_0 _ _ hh) (by decide) rfl (rh_2 _ hh) ?_
    refine r_iload_n d_X2_fits_16 rfl ?_
    refine r_aaldJ d_X2_fits_17 (th_14 _ _ hh) (by decide) rfl (by omega) (rh2_14 _ hh (by omega)) (kk := ?_)
    refine r_iconst d_X2_fits_18 ?_
    refine r_ialdJ (j := 1) d_X2_fits_19 (th2_14 _ _ hh (by omega)) rfl (by omega) (kk := ?_)
    refine r_aload_n d_X2_fits_20 rfl ?_
    refine r_getr d_X2_fits_21 f_X2_11 (th_0 _ _ hh) (by decide) rfl (rh_0 _ hh) ?_
    refine r_iload_n d_X2_fits_24 rfl ?_
    refine r_aaldJ d_X2_fits_25 (th_1 _ _ hh) (by decide) rfl (by omega) (rh2_1 _ hh (by omega)) (kk := ?_)
    refine r_iconst d_X2_fits_26 ?_
    refine r_ialdJ (j := 1) d_X2_fits_27 (th2_1 _ _ hh (by omega)) rfl (by omega) (kk := ?_)
    refine r_icmp_ne d_X2_fits_28 (by omega) (by omega) (fun c28 => ?_) (fun c28 => ?_)
    · refine r_iconst d_X2_fits_35 ?_
      refine r_istore_n d_X2_fits_36 (by decide) ?_
      refine r_iload_n d_X2_fits_37 rfl ?_
      refine r_if_eq d_X2_fits_38 (by omega) (fun c38 => ?_) (fun c38 => ?_)
      · refine r_iconst d_X2_fits_68 ?_
        refine r_zret d_X2_fits_69 rfl (by omega) ?_
        first
        | (exfalso; omega)
        | exact ⟨_, rfl, by rw [if_pos (hf.mpr (by omega))], same_rf⟩
        | exact ⟨_, rfl, by rw [if_neg (fun h => by have := hf.mp h; omega)], same_rf⟩
      · refine r_aload_n d_X2_fits_41 rfl ?_
        refine r_getr d_X2_fits_42 f_X2_19 (th_0 _ _ hh) (by decide) rfl (rh_2 _ hh) ?_
        refine r_iload_n d_X2_fits_45 rfl ?_
        refine r_aaldJ d_X2_fits_46 (th_14 _ _ hh) (by decide) rfl (by omega) (rh2_14 _ hh (by omega)) (kk := ?_)
        refine r_iconst d_X2_fits_47 ?_
        refine r_ialdJ (j := 2) d_X2_fits_48 (th2_14 _ _ hh (by omega)) rfl (by omega) (kk := ?_)
        refine r_if_eq d_X2_fits_49 (by omega) (fun c49 => ?_) (fun c49 => ?_)
        · refine r_iconst d_X2_fits_64 ?_
          refine r_goto d_X2_fits_65 ?_
          refine r_zret d_X2_fits_69 rfl (by omega) ?_
          first
          | (exfalso; omega)
          | exact ⟨_, rfl, by rw [if_pos (hf.mpr (by omega))], same_rf⟩
          | exact ⟨_, rfl, by rw [if_neg (fun h => by have := hf.mp h; omega)], same_rf⟩
        · refine r_aload_n d_X2_fits_52 rfl ?_
          refine r_getr d_X2_fits_53 f_X2_11 (th_0 _ _ hh) (by decide) rfl (rh_0 _ hh) ?_
          refine r_iload_n d_X2_fits_56 rfl ?_
          refine r_aaldJ d_X2_fits_57 (th_1 _ _ hh) (by decide) rfl (by omega) (rh2_1 _ hh (by omega)) (kk := ?_)
          refine r_iconst d_X2_fits_58 ?_
          refine r_ialdJ (j := 0) d_X2_fits_59 (th2_1 _ _ hh (by omega)) rfl (by omega) (kk := ?_)
          refine r_iconst d_X2_fits_60 ?_
          refine r_icmp_lt d_X2_fits_61 (by omega) (by omega) (fun c61 => ?_) (fun c61 => ?_)
          · refine r_iconst d_X2_fits_68 ?_
            refine r_zret d_X2_fits_69 rfl (by omega) ?_
            first
            | (exfalso; omega)
            | exact ⟨_, rfl, by rw [if_pos (hf.mpr (by omega))], same_rf⟩
            | exact ⟨_, rfl, by rw [if_neg (fun h => by have := hf.mp h; omega)], same_rf⟩
          · refine r_iconst d_X2_fits_64 ?_
            refine r_goto d_X2_fits_65 ?_
            refine r_zret d_X2_fits_69 rfl (by omega) ?_
            first
            | (exfalso; omega)
            | exact ⟨_, rfl, by rw [if_pos (hf.mpr (by omega))], same_rf⟩
            | exact ⟨_, rfl, by rw [if_neg (fun h => by have := hf.mp h; omega)], same_rf⟩
    · refine r_iconst d_X2_fits_31 ?_
      refine r_goto d_X2_fits_32 ?_
      refine r_istore_n d_X2_fits_36 (by decide) ?_
      refine r_iload_n d_X2_fits_37 rfl ?_
      refine r_if_eq d_X2_fits_38 (by omega) (fun c38 => ?_) (fun c38 => ?_)
      · refine r_iconst d_X2_fits_68 ?_
        refine r_zret d_X2_fits_69 rfl (by omega) ?_
        first
        | (exfalso; omega)
        | exact ⟨_, rfl, by rw [if_pos (hf.mpr (by omega))], same_rf⟩
        | exact ⟨_, rfl, by rw [if_neg (fun h => by have := hf.mp h; omega)], same_rf⟩
      · refine r_aload_n d_X2_fits_41 rfl ?_
        refine r_getr d_X2_fits_42 f_X2_19 (th_0 _ _ hh) (by decide) rfl (rh_2 _ hh) ?_
        refine r_iload_n d_X2_fits_45 rfl ?_
        refine r_aaldJ d_X2_fits_46 (th_14 _ _ hh) (by decide) rfl (by omega) (rh2_14 _ hh (by omega)) (kk := ?_)
        refine r_iconst d_X2_fits_47 ?_
        refine r_ialdJ (j := 2) d_X2_fits_48 (th2_14 _ _ hh (by omega)) rfl (by omega) (kk := ?_)
        refine r_if_eq d_X2_fits_49 (by omega) (fun c49 => ?_) (fun c49 => ?_)
        · refine r_iconst d_X2_fits_64 ?_
          refine r_goto d_X2_fits_65 ?_
          refine r_zret d_X2_fits_69 rfl (by omega) ?_
          first
          | (exfalso; omega)
          | exact ⟨_, rfl, by rw [if_pos (hf.mpr (by omega))], same_rf⟩
          | exact ⟨_, rfl, by rw [if_neg (fun h => by have := hf.mp h; omega)], same_rf⟩
        · refine r_aload_n d_X2_fits_52 rfl ?_
          refine r_getr d_X2_fits_53 f_X2_11 (th_0 _ _ hh) (by decide) rfl (rh_0 _ hh) ?_
          refine r_iload_n d_X2_fits_56 rfl ?_
          refine r_aaldJ d_X2_fits_57 (th_1 _ _ hh) (by decide) rfl (by omega) (rh2_1 _ hh (by omega)) (kk := ?_)
          refine r_iconst d_X2_fits_58 ?_
          refine r_ialdJ (j := 0) d_X2_fits_59 (th2_1 _ _ hh (by omega)) rfl (by omega) (kk := ?_)
          refine r_iconst d_X2_fits_60 ?_
          refine r_icmp_lt d_X2_fits_61 (by omega) (by omega) (fun c61 => ?_) (fun c61 => ?_)
          · refine r_iconst d_X2_fits_68 ?_
            refine r_zret d_X2_fits_69 rfl (by omega) ?_
            first
            | (exfalso; omega)
            | exact ⟨_, rfl, by rw [if_pos (hf.mpr (by omega))], same_rf⟩
            | exact ⟨_, rfl, by rw [if_neg (fun h => by have := hf.mp h; omega)], same_rf⟩
          · refine r_iconst d_X2_fits_64 ?_
            refine r_goto d_X2_fits_65 ?_
            refine r_zret d_X2_fits_69 rfl (by omega) ?_
            first
            | (exfalso; omega)
            | exact ⟨_, rfl, by rw [if_pos (hf.mpr (by omega))], same_rf⟩
            | exact ⟨_, rfl, by rw [if_neg (fun h => by have := hf.mp h; omega)], same_rf⟩
theorem c_queue (hh : hb = 8 ∨ hb = 35) {q : Nat} (hq : q < 8) (hg : ∀ i, i ≤ q → I (hb + 15 + i) 0 = σ 10 i ∧ 0 ≤ σ 10 i ∧ σ 10 i ≤ 44) (hA : ARV σ q (I (hb + 25))) : Mc g 0 m_X2_queue 0 0 [vr hb, vi (q : Int)] (TT Ls tl) I L (RR tl) (qV fun T' I' L' R' => T' = TT Ls tl ∧ R' = RR tl ∧ L' = L ∧ (∀ a, ¬ a = hb + 25 → I' a = I a) ∧ ARV σ (q + 1) (I' (hb + 25))) := by
  refine Mc_of rfl (Nat.le_of_ble_eq_true rfl) ?_
  obtain ⟨ar, a1, a2⟩ := hA
  have fin : ∀ (t : Nat) (I1 : sI), t ≤ q → (∀ a, ¬ a = hb + 25 → I1 a = I a) → (∀ i, i < t → I1 (hb + 25) i = (ar i : Int)) → (∀ i, t ≤ i → i < q → I1 (hb + 25) (i + 1) = (ar i : Int) ∧ σ 10 q < σ 10 (ar i)) → (0 < t → σ 10 (ar (t - 1)) ≤ σ 10 q) → (∀ a, ¬ a = hb + 25 → up2 I1 (hb + 25) t (q : Int) a = I a) ∧ ARV σ (q + 1) (up2 I1 (hb + 25) t (q : Int) (hb + 25)) := by
    intro t I1 ht f p1 p2 h0
    refine ⟨fun a ha => by rw [up2_ne _ _ ha]; exact f a ha, fun i => if i < t then ar i else if i = t then q else ar (i - 1), fun i hi => ?_, fun i j hij hj => ?_⟩
    · show _ = (((if i < t then ar i else if i = t then q else ar (i - 1) : Nat)) : Int) ∧ (if i < t then ar i else if i = t then q else ar (i - 1)) < q + 1
      by_cases h1 : i < t
      · rw [if_pos h1, up2_nj _ _ (by omega)]
        have := a1 i (by omega)
        exact ⟨p1 i h1, by omega⟩
      · rw [if_neg h1]
        by_cases h2 : i = t
        · rw [if_pos h2, h2, up2_at]; exact ⟨rfl, by omega⟩
        · rw [if_neg h2, up2_nj _ _ h2]
          have := p2 (i - 1) (by omega) (by omega)
          have h3 := a1 (i - 1) (by omega)
          rw [show i - 1 + 1 = i by omega] at this
          exact ⟨this.1, by omega⟩
    · show bef σ (if i < t then ar i else if i = t then q else ar (i - 1)) (if j < t then ar j else if j = t then q else ar (j - 1))
      have lo : ∀ i, i < t → bef σ (ar i) q := fun i hi => by
        have h1 := h0 (by omega)
        have h2 := (a1 i (by omega)).2
        have h3 : σ 10 (ar i) ≤ σ 10 (ar (t - 1)) := by
          by_cases e : i = t - 1
          · rw [e]; exact Int.le_refl _
          · have := a2 i (t - 1) (by omega) (by omega)
            unfold bef at this; omega
        unfold bef; omega
      by_cases j1 : j < t
      · rw [if_pos (by omega), if_pos j1]; exact a2 i j hij (by omega)
      · rw [if_neg j1]
        by_cases j2 : j = t
        · rw [if_pos j2, if_pos (by omega)]; exact lo i (by omega)
        · rw [if_neg j2]
          by_cases i1 : i < t
          · rw [if_pos i1]
            exact a2 i (j - 1) (by omega) (by omega)
          · rw [if_neg i1]
            by_cases i2 : i = t
            · rw [if_pos i2]
              have := (p2 (j - 1) (by omega) (by omega)).2
              exact Or.inl this
            · rw [if_neg i2]; exact a2 (i - 1) (j - 1) (by omega) (by omega)
  have loop : ∀ (t : Nat) (I1 : sI), t ≤ q → (∀ a, ¬ a = hb + 25 → I1 a = I a) → (∀ i, i < t → I1 (hb + 25) i = (ar i : Int)) → (∀ i, t ≤ i → i < q → I1 (hb + 25) (i + 1) = (ar i : Int) ∧ σ 10 q < σ 10 (ar i)) → Cp g 0 m_X2_queue 0 0 (qV fun T' I' L' R' => T' = TT Ls tl ∧ R' = RR tl ∧ L' = L ∧ (∀ a, ¬ a = hb + 25 → I' a = I a) ∧ ARV σ (q + 1) (I' (hb + 25))) 2 [(0, vr hb), (1, vi (q : Int)), (2, vi (t : Int))] [] (TT Ls tl) I1 L (RR tl) := by
    intro t
    induction t with
    | zero =>
      intro I1 ht f p1 p2
      obtain ⟨z1, z2⟩ := fin _ I1 ht f p1 p2 (fun h => absurd h (by omega))
      refine r_iload_n d_X2_queue_2 rfl ?_
      refine r_if_le d_X2_queue_3 (by omega) (fun c3 => ?_) (fun c3 => absurd c3 (by omega))
      refine r_aload_n d_X2_queue_52 rfl ?_
      refine r_getr d_X2_queue_53 f_X2_29 (th_0 _ _ hh) (by decide) rfl (rh_9 _ hh) ?_
      refine r_iload_n d_X2_queue_56 rfl ?_
      refine r_iload_n d_X2_queue_57 rfl ?_
      refine r_iastJ d_X2_queue_58 (th_25 _ _ hh) (by omega) rfl (by omega) (kk := ?_)
      refine r_vret d_X2_queue_59 rfl ?_
      exact ⟨rfl, rfl, rfl, rfl, z1, z2⟩
    | succ t ih =>
      intro I1 ht f p1 p2
      have et : ((t + 1 : Nat) : Int) + -1 = (t : Int) := by omega
      have hal := a1 t (by omega)
      have ea : I1 (hb + 25) t = (ar t : Int) := p1 t (by omega)
      have gt := hg (ar t) (by omega)
      have gq := hg q (Nat.le_refl _)
      have e1 : I1 (hb + 15 + ar t) 0 = σ 10 (ar t) := by rw [f _ (by omega)]; exact gt.1
      have e2 : I1 (hb + 15 + q) 0 = σ 10 q := by rw [f _ (by omega)]; exact gq.1
      refine r_iload_n d_X2_queue_2 rfl ?_
      refine r_if_le d_X2_queue_3 (by omega) (fun c3 => absurd c3 (by omega)) (fun c3 => ?_)
      refine r_aload_n d_X2_queue_6 rfl ?_
      refine r_getr d_X2_queue_7 f_X2_19 (th_0 _ _ hh) (by decide) rfl (rh_2 _ hh) ?_
      refine r_aload_n d_X2_queue_10 rfl ?_
      refine r_getr d_X2_queue_11 f_X2_29 (th_0 _ _ hh) (by decide) rfl (rh_9 _ hh) ?_
      refine r_iload_n d_X2_queue_14 rfl ?_
      refine r_iconst d_X2_queue_15 ?_
      refine r_isub d_X2_queue_16 ?_
      refine r_ialdJ (j := t) d_X2_queue_17 (th_25 _ _ hh) (by omega) (by omega) (kk := ?_)
      refine r_aaldJ (j := ar t) d_X2_queue_18 (th_14 _ _ hh) (by decide) (by omega) (by omega) (rh2_14 _ hh (by omega)) (kk := ?_)
      refine r_iconst d_X2_queue_19 ?_
      refine r_ialdJ (j := 0) d_X2_queue_20 (th2_14 _ _ hh (by omega)) rfl (by omega) (kk := ?_)
      refine r_aload_n d_X2_queue_21 rfl ?_
      refine r_getr d_X2_queue_22 f_X2_19 (th_0 _ _ hh) (by decide) rfl (rh_2 _ hh) ?_
      refine r_iload_n d_X2_queue_25 rfl ?_
      refine r_aaldJ d_X2_queue_26 (th_14 _ _ hh) (by decide) rfl (by omega) (rh2_14 _ hh (by omega)) (kk := ?_)
      refine r_iconst d_X2_queue_27 ?_
      refine r_ialdJ (j := 0) d_X2_queue_28 (th2_14 _ _ hh (by omega)) rfl (by omega) (kk := ?_)
      refine r_icmp_le d_X2_queue_29 (by omega) (by omega) (fun c29 => ?_) (fun c29 => ?_)
      · obtain ⟨z1, z2⟩ := fin _ I1 ht f p1 p2 (fun _ => by show σ 10 (ar t) ≤ _; omega)
        refine r_aload_n d_X2_queue_52 rfl ?_
        refine r_getr d_X2_queue_53 f_X2_29 (th_0 _ _ hh) (by decide) rfl (rh_9 _ hh) ?_
        refine r_iload_n d_X2_queue_56 rfl ?_
        refine r_iload_n d_X2_queue_57 rfl ?_
        refine r_iastJ d_X2_queue_58 (th_25 _ _ hh) (by omega) rfl (by omega) (kk := ?_)
        refine r_vret d_X2_queue_59 rfl ?_
        exact ⟨rfl, rfl, rfl, rfl, z1, z2⟩
      · refine r_aload_n d_X2_queue_32 rfl ?_
        refine r_getr d_X2_queue_33 f_X2_29 (th_0 _ _ hh) (by decide) rfl (rh_9 _ hh) ?_
        refine r_iload_n d_X2_queue_36 rfl ?_
        refine r_aload_n d_X2_queue_37 rfl ?_
        refine r_getr d_X2_queue_38 f_X2_29 (th_0 _ _ hh) (by decide) rfl (rh_9 _ hh) ?_
        refine r_iload_n d_X2_queue_41 rfl ?_
        refine r_iconst d_X2_queue_42 ?_
        refine r_isub d_X2_queue_43 ?_
        refine r_ialdJ (j := t) d_X2_queue_44 (th_25 _ _ hh) (by omega) (by omega) (kk := ?_)
        rw [ea]
        refine r_iastJ d_X2_queue_45 (th_25 _ _ hh) (by omega) rfl (by omega) (kk := ?_)
        refine r_iinc d_X2_queue_46 rfl (by decide) ?_
        refine r_goto d_X2_queue_49 ?_
        refine CpL (ih _ (by omega) (fun a ha => ?_) (fun i hi => ?_) (fun i h1 h2 => ?_)) (by repeat (first | exact trivial | refine ⟨rfl, ?_⟩ | refine ⟨by rw [et]; rfl, ?_⟩))
        · rw [up2_ne _ _ ha]; exact f a ha
        · rw [up2_nj _ _ (by omega)]; exact p1 i (by omega)
        · by_cases e : i = t
          · subst e
            rw [up2_at]; exact ⟨rfl, by omega⟩
          · rw [up2_nj _ _ (by omega)]; exact p2 i (by omega) h2
  refine r_iload_n d_X2_queue_0 rfl ?_
  refine r_istore_n d_X2_queue_1 (by decide) ?_
  exact CpL (loop q I (Nat.le_refl _) (fun _ _ => rfl) (fun i hi => (a1 i hi).1) (fun i h1 h2 => absurd h2 (by omega))) (by repeat (first | exact trivial | refine ⟨rfl, ?_⟩))
end C33
