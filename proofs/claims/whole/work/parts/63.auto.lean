/-! how a house is read, letter by letter. D k i: what room i (0..5), woman i (7..9), guest i (10..13) is told as; D 20: 0 rooms, 1 women, 2 guests, 3 by chance, 4 the number at hand, 5 least, 6 most, 7 where -/
theorem up2_up2 {α : Type} {f : Nat → Nat → α} {a i : Nat} {x y : α} : up2 (up2 f a i x) a i y = up2 f a i y := by
  funext b j
  unfold up2
  split
  · split <;> rfl
  · rfl
def scA (D : Sg) (i : Nat) (x : Int) : Sg := up2 D 20 i x
def bgA (D : Sg) (lo hi : Int) : Sg := scA (scA (scA D 4 (-1)) 5 lo) 6 hi
def ftA (D : Sg) (c : Int) : Bool := decide ((48 ≤ c ∧ c ≤ 57) ∧ ((D 20 4 = -1 ∧ ((D 20 5 ≤ c - 48 ∧ c - 48 ≤ D 20 6) ∨ (0 < c - 48 ∧ (c - 48) * 10 ≤ D 20 6 ∧ D 20 5 ≤ (c - 48) * 10 + 9))) ∨ (D 20 4 ≠ -1 ∧ 0 < D 20 4 ∧ D 20 4 < 10 ∧ D 20 5 ≤ D 20 4 * 10 + (c - 48) ∧ D 20 4 * 10 + (c - 48) ≤ D 20 6)))
def gwA (D : Sg) (c : Int) : Sg := scA D 4 (if D 20 4 = -1 then c - 48 else D 20 4 * 10 + (c - 48))
abbrev NSA (D : Sg) : Prop := D 20 7 = 4 ∨ D 20 7 = 7 ∨ D 20 7 = 12 ∨ D 20 7 = 14 ∨ D 20 7 = 20
def lcA (D : Sg) (i : Nat) : Nat := (D 20 i).toNat - 1
/-- a room's last number, set -/
def cplA (D : Sg) : Sg := if D 20 7 = 4 then up2 D 3 (lcA D 0) (D 20 4) else up2 D 4 (lcA D 0) (D 20 4)
/-- behind a number -/
def endA (D : Sg) (c : Int) : Option Sg :=
  if D 20 7 = 4 ∨ D 20 7 = 7 then (if D 20 7 = 4 ∧ c = 47 ∧ D 20 3 < 3 then some (scA (scA (cplA D) 3 (D 20 3 + 1)) 7 5) else if c = 44 then (if D 20 0 < 8 then some (scA (cplA D) 7 0) else none) else if c = 59 then some (scA (cplA D) 7 10) else none)
  else if D 20 7 = 12 then (if c = 116 then some (scA (bgA (up2 D 8 (lcA D 1) (D 20 4)) (D 20 4 + 1) 44) 7 14) else none)
  else if D 20 7 = 14 then (if c = 44 then (if D 20 1 < 3 then some (scA (up2 D 9 (lcA D 1) (D 20 4)) 7 10) else none) else if c = 59 then some (scA (bgA (up2 D 9 (lcA D 1) (D 20 4)) 0 44) 7 20) else none)
  else (if (97 ≤ c ∧ c ≤ 100) ∨ c = 120 then some (scA (scA (up2 (up2 (up2 D 10 (D 20 2).toNat (D 20 4)) 11 (D 20 2).toNat (if c = 120 then -1 else c - 97)) 12 (D 20 2).toNat 0) 2 (D 20 2 + 1)) 7 21) else none)
/-- elsewhere -/
def plnA (D : Sg) (c : Int) : Option Sg :=
  if D 20 7 = 0 then (if 49 ≤ c ∧ c ≤ 54 then some (scA (scA (up2 (up2 (up2 D 0 (D 20 0).toNat (c - 48)) 4 (D 20 0).toNat (-1)) 5 (D 20 0).toNat (-1)) 0 (D 20 0 + 1)) 7 1) else none)
  else if D 20 7 = 1 then (if 97 ≤ c ∧ c ≤ 100 then some (scA (up2 D 1 (lcA D 0) (c - 97)) 7 2) else none)
  else if D 20 7 = 2 then (if 49 ≤ c ∧ c ≤ 57 then some (scA (up2 D 2 (lcA D 0) (c - 48)) 7 3) else none)
  else if D 20 7 = 3 then (if c = 103 then some (scA (bgA D 0 40) 7 4) else none)
  else if D 20 7 = 5 then (if 49 ≤ c ∧ c ≤ 57 then some (scA (up2 D 5 (lcA D 0) (c - 48)) 7 6) else none)
  else if D 20 7 = 6 then (if c = 103 then some (scA (bgA D (D 3 (lcA D 0) + 1) 41) 7 7) else none)
  else if D 20 7 = 10 then (if 49 ≤ c ∧ c ≤ 54 then some (scA (scA (up2 D 7 (D 20 1).toNat (c - 48)) 1 (D 20 1 + 1)) 7 11) else none)
  else if D 20 7 = 11 then (if c = 102 then some (scA (bgA D 0 40) 7 12) else none)
  else if D 20 7 = 21 ∧ c = 104 then some (scA (up2 D 12 (lcA D 2) 1) 7 22)
  else if D 20 7 = 21 ∨ D 20 7 = 22 then (if 49 ≤ c ∧ c ≤ 57 then some (scA (up2 D 13 (lcA D 2) (c - 48)) 7 23) else none)
  else (if c = 44 ∧ D 20 2 < 8 then some (scA (bgA D 0 44) 7 20) else none)
def mstA (D : Sg) (c : Int) : Option Sg := if D 20 7 = 4 ∨ D 20 7 = 7 ∨ D 20 7 = 12 ∨ D 20 7 = 14 ∨ D 20 7 = 20 then (if ftA D c = true then some (gwA D c) else if D 20 4 < D 20 5 then none else endA D c) else plnA D c
/-- the letters ahead of the k-th, read -/
def runA (pg : Nat → Int) (D : Sg) : Nat → Option Sg
  | 0 => some D
  | k + 1 => match runA pg D k with
    | none => none
    | some E => mstA E (pg k)
theorem run_suc {pg : Nat → Int} {D0 D E : Sg} {k : Nat} (h : runA pg D0 k = some D) (hs : mstA D (pg k) = some E) : runA pg D0 (k + 1) = some E := by
  show (match runA pg D0 k with
    | none => none
    | some E => mstA E (pg k)) = _
  rw [h]; exact hs
theorem run_pre {pg : Nat → Int} {D0 : Sg} : ∀ (k n : Nat), k ≤ n → (runA pg D0 n).isSome = true → (runA pg D0 k).isSome = true
  | k, 0, h, hs => by rw [show k = 0 by omega]; exact hs
  | k, n + 1, h, hs => by
    by_cases e : k = n + 1
    · rw [e]; exact hs
    · refine run_pre k n (by omega) ?_
      have hs2 : (match runA pg D0 n with
        | none => none
        | some E => mstA E (pg n)).isSome = true := hs
      cases hr : runA pg D0 n with
      | none => rw [hr] at hs2; exact hs2
      | some E => rfl
/-- reading ends at p, in D -/
def stpA (pg : Nat → Int) (len : Nat) (D0 : Sg) (p : Nat) (D : Sg) : Prop := runA pg D0 p = some D ∧ p ≤ len ∧ (p = len ∨ mstA D (pg p) = none)
theorem stp_uq {pg : Nat → Int} {len p p' : Nat} {D0 D D' : Sg} (h : stpA pg len D0 p D) (h' : stpA pg len D0 p' D') : p = p' ∧ D = D' := by
  have key : ∀ {p p' : Nat} {D D' : Sg}, stpA pg len D0 p D → stpA pg len D0 p' D' → ¬ p < p' := by
    intro p p' D D' h h' hlt
    have h1 := run_pre (pg := pg) (D0 := D0) (p + 1) p' hlt (by rw [h'.1]; rfl)
    have h2 : runA pg D0 (p + 1) = mstA D (pg p) := by
      show (match runA pg D0 p with
        | none => none
        | some E => mstA E (pg p)) = _
      rw [h.1]
    rcases h.2.2 with e | e
    · have := h'.2.1; omega
    · rw [h2, e] at h1; cases h1
  have e : p = p' := by
    have a := key h h'
    have b := key h' h
    omega
  refine ⟨e, ?_⟩
  subst e
  have := h.1.symm.trans h'.1
  exact Option.some.inj this
/-- reading has stopped ahead of a whole house -/
def badA (pg : Nat → Int) (len : Nat) (D0 : Sg) (p : Nat) : Prop := ∃ D, stpA pg len D0 p D ∧ ¬ (p = len ∧ D 20 7 = 23)
theorem bad_of {pg : Nat → Int} {len p : Nat} {D0 D : Sg} (h : runA pg D0 p = some D) (hp : p ≤ len) (h23 : D 20 7 ≠ 23) (hn : p < len → mstA D (pg p) = none) : badA pg len D0 p := ⟨D, ⟨h, hp, by
  by_cases e : p = len
  · exact Or.inl e
  · exact Or.inr (hn (by omega))⟩, fun q => h23 q.2⟩
theorem mst_ft {D : Sg} {c : Int} (hs : NSA D) (h : ftA D c = true) : mstA D c = some (gwA D c) := by unfold mstA; rw [if_pos hs, if_pos h]
theorem mst_no {D : Sg} {c : Int} (hs : NSA D) (h : ftA D c = false) (hv : D 20 4 < D 20 5) : mstA D c = none := by unfold mstA; rw [if_pos hs, if_neg (by rw [h]; decide), if_pos hv]
theorem mst_end {D : Sg} {c : Int} (hs : NSA D) (h : ftA D c = false) (hv : ¬ D 20 4 < D 20 5) : mstA D c = endA D c := by unfold mstA; rw [if_pos hs, if_neg (by rw [h]; decide), if_neg hv]
theorem mst_dig {D : Sg} {c : Int} (hs : NSA D) (h : ftA D c = false) (hc : 48 ≤ c ∧ c ≤ 57) : mstA D c = none := by
  by_cases hv : D 20 4 < D 20 5
  · exact mst_no hs h hv
  · rw [mst_end hs h hv]
    unfold endA
    rw [if_neg (show ¬ (D 20 7 = 4 ∧ c = 47 ∧ D 20 3 < 3) by omega), if_neg (show ¬ c = 44 by omega), if_neg (show ¬ c = 59 by omega), if_neg (show ¬ c = 116 by omega), if_neg (show ¬ c = 44 by omega), if_neg (show ¬ c = 59 by omega), if_neg (show ¬ ((97 ≤ c ∧ c ≤ 100) ∨ c = 120) by omega)]
    simp
theorem mst_pln {D : Sg} {c : Int} (hs : ¬ NSA D) : mstA D c = plnA D c := by unfold mstA; rw [if_neg hs]
theorem sc_at {D : Sg} {i : Nat} {x : Int} : scA D i x 20 i = x := up2_at _ _ _ _
theorem sc_nj {D : Sg} {i j : Nat} {x : Int} (h : j ≠ i) : scA D i x 20 j = D 20 j := up2_nj _ _ h
theorem sc_ne {D : Sg} {i k : Nat} {x : Int} (h : k ≠ 20) : scA D i x k = D k := up2_ne _ _ h
/-- a number is read as the class reads it -/
theorem num_run {pg : Nat → Int} {len p : Nat} {D0 D : Sg} {lo hi : Int} (hA : runA pg D0 p = some D) (hp : p ≤ len) (hs : NSA D) (h4 : D 20 4 = -1) (h5 : D 20 5 = lo) (h6 : D 20 6 = hi) (hlo : 0 ≤ lo) : ((nmS pg len false p lo hi).1 = true → badA pg len D0 (nmS pg len false p lo hi).2.1) ∧ ((nmS pg len false p lo hi).1 = false → (nmS pg len false p lo hi).2.1 ≤ len ∧ runA pg D0 (nmS pg len false p lo hi).2.1 = some (scA D 4 (nmS pg len false p lo hi).2.2) ∧ (lo ≤ (nmS pg len false p lo hi).2.2 ∧ (nmS pg len false p lo hi).2.2 ≤ hi) ∧ ((nmS pg len false p lo hi).2.1 < len → ftA (scA D 4 (nmS pg len false p lo hi).2.2) (pg (nmS pg len false p lo hi).2.1) = false)) := by
  have h23 : D 20 7 ≠ 23 := by omega
  have hd := dh_rg (pg := pg) (len := len) (p := p) (st := false)
  have hd2 := dh_rg (pg := pg) (len := len) (p := p + 1) (st := false)
  have hdo := dh_ok (pg := pg) (len := len) (p := p) (st := false)
  have hdo2 := dh_ok (pg := pg) (len := len) (p := p + 1) (st := false)
  have hdn : ∀ p, p < len → dhS pg len false p = -1 → ¬ (48 ≤ pg p ∧ pg p ≤ 57) := fun p hp h q => by
    unfold dhS at h; rw [if_pos ⟨rfl, hp, q⟩] at h; omega
  have key : ∀ d : Int, ftA D (48 + d) = true ↔ ((0 ≤ d ∧ d ≤ 9) ∧ ((lo ≤ d ∧ d ≤ hi) ∨ (0 < d ∧ d * 10 ≤ hi ∧ lo ≤ d * 10 + 9))) := fun d => by
    unfold ftA
    rw [decide_eq_true_iff, h4, h5, h6]
    omega
  unfold nmS
  obtain ⟨v, hv⟩ : ∃ v, v = dhS pg len false p := ⟨_, rfl⟩
  obtain ⟨u, hu⟩ : ∃ u, u = dhS pg len false (p + 1) := ⟨_, rfl⟩
  rw [← hv] at hd hdo ⊢
  rw [← hu] at hd2 hdo2 ⊢
  by_cases k1 : v = -1 ∨ (¬ (lo ≤ v ∧ v ≤ hi) ∧ ¬ (0 < v ∧ lo ≤ v * 10 + 9 ∧ v * 10 ≤ hi))
  · rw [if_pos k1]
    refine ⟨fun _ => bad_of hA hp h23 (fun hl => mst_no hs ?_ (by omega)), fun h => by cases h⟩
    show ftA D (pg p) = false
    apply Bool.eq_false_iff.mpr
    intro q
    rw [show pg p = 48 + (pg p - 48) by omega] at q
    have q2 := (key _).mp q
    by_cases e : v = -1
    · exact hdn p hl (by omega) (by omega)
    · obtain ⟨-, -, q3⟩ := hdo (by omega)
      omega
  · rw [if_neg k1]
    obtain ⟨-, g1, g2⟩ := hdo (by omega)
    have A1 : runA pg D0 (p + 1) = some (scA D 4 v) := by
      refine run_suc hA ?_
      have e : ftA D (pg p) = true := by rw [g2]; exact (key v).mpr (by omega)
      rw [mst_ft hs e]
      unfold gwA
      rw [if_pos h4, show pg p - 48 = v by omega]
    have hs1 : NSA (scA D 4 v) := by unfold NSA; rw [sc_nj (by decide)]; exact hs
    have h231 : scA D 4 v 20 7 ≠ 23 := by rw [sc_nj (by decide)]; exact h23
    have e4 : scA D 4 v 20 4 = v := sc_at
    have e5 : scA D 4 v 20 5 = lo := by rw [sc_nj (by decide)]; exact h5
    have e6 : scA D 4 v 20 6 = hi := by rw [sc_nj (by decide)]; exact h6
    have key1 : ∀ c : Int, ftA (scA D 4 v) c = true ↔ ((48 ≤ c ∧ c ≤ 57) ∧ (0 < v ∧ v < 10 ∧ lo ≤ v * 10 + (c - 48) ∧ v * 10 + (c - 48) ≤ hi)) := fun c => by
      unfold ftA
      rw [decide_eq_true_iff, e4, e5, e6]
      omega
    by_cases k2 : u = -1
    · rw [if_pos k2]
      have nf : p + 1 < len → ftA (scA D 4 v) (pg (p + 1)) = false := fun hl => Bool.eq_false_iff.mpr (fun q => hdn (p + 1) hl (by omega) ((key1 _).mp q).1)
      by_cases k3 : lo ≤ v ∧ v ≤ hi
      · refine ⟨fun h => absurd k3 (decide_eq_true_iff.mp h), fun _ => ⟨by show p + 1 ≤ len; omega, A1, k3, nf⟩⟩
      · refine ⟨fun _ => bad_of A1 (by show p + 1 ≤ len; omega) h231 (fun hl => mst_no hs1 (nf hl) (by rw [e4, e5]; omega)), fun h => absurd (Classical.not_not.mp (of_decide_eq_false (p := ¬ (lo ≤ v ∧ v ≤ hi)) h)) k3⟩
    · rw [if_neg k2]
      obtain ⟨-, g3, g4⟩ := hdo2 (by omega)
      by_cases k3 : v = 0 ∨ v * 10 + u < lo ∨ hi < v * 10 + u
      · rw [if_pos k3]
        have nf : ftA (scA D 4 v) (pg (p + 1)) = false := Bool.eq_false_iff.mpr (fun q => by have := (key1 _).mp q; omega)
        exact ⟨fun _ => bad_of A1 (by show p + 1 ≤ len; omega) h231 (fun _ => mst_dig hs1 nf (by show 48 ≤ pg (p + 1) ∧ pg (p + 1) ≤ 57; omega)), fun h => by cases h⟩
      · rw [if_neg k3]
        have ft : ftA (scA D 4 v) (pg (p + 1)) = true := (key1 _).mpr (by omega)
        have A2 : runA pg D0 (p + 2) = some (scA D 4 (v * 10 + u)) := by
          refine run_suc A1 ?_
          rw [mst_ft hs1 ft]
          unfold gwA
          rw [e4, if_neg (by omega), show pg (p + 1) - 48 = u by omega]
          unfold scA
          rw [up2_up2]
        refine ⟨fun h => (by cases h), fun _ => ⟨by show p + 2 ≤ len; omega, A2, by show lo ≤ v * 10 + u ∧ v * 10 + u ≤ hi; omega, fun _ => Bool.eq_false_iff.mpr (fun q => ?_)⟩⟩
        unfold ftA at q
        rw [decide_eq_true_iff] at q
        have e9 : scA D 4 (v * 10 + u) 20 4 = v * 10 + u := sc_at
        rw [e9] at q
        omega
