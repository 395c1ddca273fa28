theorem sws_get {g : sG} {T : sT} {I L : sI} {R : sR} {a : Nat} {kn : Nat × Nat} (h : T[a]? = some kn) (ha : 3 ≤ a) : (sws g T I L R)[a - 3]? = some (sad g a, scell g kn a I L R) := by
  have hl : a < T.length := (List.getElem?_eq_some_iff.mp h).1
  unfold sws
  rw [List.getElem?_map, List.getElem?_range (by omega)]
  have h1 : a - 3 + 3 = a := by omega
  have h2 : T.getD a (0, 0) = kn := by rw [List.getD_eq_getElem?_getD, h]; rfl
  have h3 : ¬ a < 3 := by omega
  simp only [Option.map_some, h1, h2, sad, h3, if_false]
theorem sws_at {g : sG} {T : sT} {I L : sI} {R : sR} {i : Nat} {q : Nat × va_E} (h : (sws g T I L R)[i]? = some q) : q.1 = g.2.1 + i := by
  unfold sws at h
  rw [List.getElem?_map] at h
  cases hr : (List.range (T.length - 3))[i]? with
  | none => rw [hr] at h; cases h
  | some j =>
    rw [hr] at h
    obtain ⟨h1, h2⟩ := List.getElem?_eq_some_iff.mp hr
    simp at h h2
    subst h2
    rw [← h]
theorem sws_D {g : sG} {T : sT} {I L : sI} {R : sR} : va_D (sA g) (sws g T I L R) := by
  refine ⟨fun i j p q hi hj hpq => ?_, fun k q hk => ?_⟩
  · rw [sws_at hi, sws_at hj] at hpq
    omega
  · show g.2.1 ≤ q.1
    rw [sws_at hk]
    omega
theorem scell_congr {g : sG} {kn : Nat × Nat} {a : Nat} {I L I' L' : sI} {R R' : sR} (hI : I' a = I a) (hL : L' a = L a) (hR : R' a = R a) : scell g kn a I' L' R' = scell g kn a I L R := by
  unfold scell sobj
  rw [hI, hL, hR]
theorem sws_set {g : sG} {T : sT} {I L I' L' : sI} {R R' : sR} {a : Nat} {kn : Nat × Nat} (h : T[a]? = some kn) (ha : 3 ≤ a) (hx : ∀ x, x ≠ a → I' x = I x ∧ L' x = L x ∧ R' x = R x) : (sws g T I L R).set (a - 3) (sad g a, scell g kn a I' L' R') = sws g T I' L' R' := by
  have hl : a < T.length := (List.getElem?_eq_some_iff.mp h).1
  apply List.ext_getElem?
  intro i
  by_cases hi : i = a - 3
  · subst hi
    rw [List.getElem?_set_self (by unfold sws; rw [List.length_map, List.length_range]; omega), sws_get h ha]
  · rw [List.getElem?_set_ne (Ne.symm hi)]
    unfold sws
    rw [List.getElem?_map, List.getElem?_map]
    by_cases hr : i < T.length - 3
    · rw [List.getElem?_range hr]
      obtain ⟨e1, e2, e3⟩ := hx (i + 3) (by omega)
      simp only [Option.map_some]
      rw [scell_congr e1 e2 e3]
    · rw [List.getElem?_eq_none (by rw [List.length_range]; omega)]
      rfl
theorem up2_at {α : Type} (f : Nat → Nat → α) (a i : Nat) (v : α) : up2 f a i v a i = v := by simp [up2]
theorem up2_ne {α : Type} (f : Nat → Nat → α) {a i x : Nat} (v : α) (h : x ≠ a) : up2 f a i v x = f x := by funext j; simp [up2, h]
theorem up2_nj {α : Type} (f : Nat → Nat → α) {a i x j : Nat} (v : α) (h : j ≠ i) : up2 f a i v x j = f x j := by simp [up2, h]
theorem sXt_put {g : sG} {T : sT} {I L I' L' : sI} (h : sXt g T I L) (hI : ∀ x, x < 3 → I' x = I x) (hL : ∀ x, x < 3 → L' x = L x) : sXt g T I' L' := by
  obtain ⟨h1, h2, h3, h4, h5, h6⟩ := h
  exact ⟨h1, h2, h3, fun j hj => by rw [hI 0 (by omega)]; exact h4 j hj, fun j hj => by rw [hI 1 (by omega)]; exact h5 j hj, fun j hj => by rw [hL 2 (by omega)]; exact h6 j hj⟩
/-- the cell at a is ours if its kind is none of the outside's -/
theorem sXt_ge {g : sG} {T : sT} {I L : sI} {a k n : Nat} (h : sXt g T I L) (hT : T[a]? = some (k, n)) (hk : k ≠ 10 ∧ k ≠ 11) : 3 ≤ a := by
  obtain ⟨h1, h2, h3, -⟩ := h
  by_cases h9 : 3 ≤ a
  · exact h9
  · have : a = 0 ∨ a = 1 ∨ a = 2 := by omega
    rcases this with rfl | rfl | rfl
    · rw [h1] at hT; cases hT; exact absurd rfl hk.1
    · rw [h2] at hT; cases hT; exact absurd rfl hk.1
    · rw [h3] at hT; cases hT; exact absurd rfl hk.2
theorem r32_ix {i : Int} {n : Nat} (h : 0 ≤ i ∧ i < (n : Int)) (hn : n ≤ 2147483647) : vp_in (Int32.ofInt i) n ∧ (Int32.ofInt i).toNatClampNeg = i.toNat := by
  have h1 : (Int32.ofInt i).toNatClampNeg = i.toNat := Int32.toNatClampNeg_ofInt_of_le (by omega) (by omega)
  refine ⟨?_, h1⟩
  unfold vp_in
  rw [h1]
  rintro (h2 | h2)
  · have h3 : Int32.ofInt i < Int32.ofInt 0 := h2
    rw [r32_lt (by omega) (by omega)] at h3
    omega
  · omega
/-- a class's rows in the tables -/
def sClOK (c : Nat) (q : vw_C) : Prop := (∀ w ∈ u_ws q.1 q.2.1 q.2.2, w ∈ sTb) ∧ (∀ a, a < q.2.2 → ∀ b, b < q.2.2 → a ≠ b → (q.2.1 a).2.1 ≠ (q.2.1 b).2.1) ∧ (∀ k, k < q.2.2 → parseFieldDescriptor (q.2.1 k).2.2.1 = some (sTy c k)) ∧ (∀ k, k < q.2.2 → (q.2.1 k).1 = q.1)
theorem sCl0 : sClOK 0 (RX0, TX0, 12) := ⟨by decide +kernel, nmX0, tyX0_ok, by decide +kernel⟩
theorem sCl1 : sClOK 1 (RX1, TX1, 3) := ⟨by decide +kernel, nmX1, tyX1_ok, by decide +kernel⟩
theorem sCl2 : sClOK 2 (RX2, TX2, 12) := ⟨by decide +kernel, nmX2, tyX2_ok, by decide +kernel⟩
theorem sCl3 : sClOK 3 (RX3, TX3, 9) := ⟨by decide +kernel, nmX3, tyX3_ok, by decide +kernel⟩
theorem sCl4 : sClOK 4 (RX4, TX4, 9) := ⟨by decide +kernel, nmX4, tyX4_ok, by decide +kernel⟩
theorem sCl5 : sClOK 5 (RX5, TX5, 7) := ⟨by decide +kernel, nmX5, tyX5_ok, by decide +kernel⟩
theorem sCl6 : sClOK 6 (RX6, TX6, 4) := ⟨by decide +kernel, nmX6, tyX6_ok, by decide +kernel⟩
theorem sCl7 : sClOK 7 (RX7, TX7, 13) := ⟨by decide +kernel, nmX7, tyX7_ok, by decide +kernel⟩
theorem sCl8 : sClOK 8 (RX8, TX8, 74) := ⟨by decide +kernel, nmX8, tyX8_ok, by decide +kernel⟩
theorem sCl_ok {c : Nat} {q : vw_C} (h : vwCl[c]? = some q) : sClOK c q ∧ c < 9 := by
  match c, h with
  | 0, h => cases h; exact ⟨sCl0, by omega⟩
  | 1, h => cases h; exact ⟨sCl1, by omega⟩
  | 2, h => cases h; exact ⟨sCl2, by omega⟩
  | 3, h => cases h; exact ⟨sCl3, by omega⟩
  | 4, h => cases h; exact ⟨sCl4, by omega⟩
  | 5, h => cases h; exact ⟨sCl5, by omega⟩
  | 6, h => cases h; exact ⟨sCl6, by omega⟩
  | 7, h => cases h; exact ⟨sCl7, by omega⟩
  | 8, h => cases h; exact ⟨sCl8, by omega⟩
  | n + 9, h => simp at h
def sFL (own : String) (idx c k : Nat) (fin : Bool) : Prop := ∃ q : vw_C, vwCl[c]? = some q ∧ k < q.2.2 ∧ (q.2.1 k).2.2.2 = fin ∧ Cond.fieldLink own idx (q.2.1 k).1 (q.2.1 k).2.1 (q.2.1 k).2.2.1 ∈ sTb
def sfk (t : FieldType) : Nat := match t with
  | .long => 1
  | .object _ => 2
  | .array _ => 2
  | .int => 0
  | .boolean => 3
  | _ => 4
theorem sobj_get {g : sG} {c n a k : Nat} {I L : sI} {R : sR} (hk : k < n) : (sobj g c n a I L R)[k]? = some (sfv g (sTy c k) (I a k) (L a k) (R a k)) := by
  unfold sobj
  rw [List.getElem?_map, List.getElem?_range hk]
  rfl
theorem sobj_set {g : sG} {c n a k : Nat} {I L I' L' : sI} {R R' : sR} {v : Value} (hk : k < n) (hv : v = sfv g (sTy c k) (I' a k) (L' a k) (R' a k)) (hx : ∀ j, j ≠ k → I' a j = I a j ∧ L' a j = L a j ∧ R' a j = R a j) : (sobj g c n a I L R).set k v = sobj g c n a I' L' R' := by
  apply List.ext_getElem?
  intro i
  by_cases hi : i = k
  · subst hi
    rw [List.getElem?_set_self (by unfold sobj; rw [List.length_map, List.length_range]; omega), sobj_get hk, hv]
  · rw [List.getElem?_set_ne (Ne.symm hi)]
    unfold sobj
    rw [List.getElem?_map, List.getElem?_map]
    by_cases hr : i < n
    · rw [List.getElem?_range hr]
      obtain ⟨e1, e2, e3⟩ := hx i hi
      simp only [Option.map_some, e1, e2, e3]
    · rw [List.getElem?_eq_none (by rw [List.length_range]; omega)]
      rfl
theorem sobj_len {g : sG} {c n a : Nat} {I L : sI} {R : sR} : (sobj g c n a I L R).length = n := by unfold sobj; rw [List.length_map, List.length_range]
theorem scell_obj {g : sG} {c n a : Nat} {I L : sI} {R : sR} (hc : c < 9) : scell g (c, n) a I L R = .inr (c, sobj g c n a I L R) := by simp [scell, hc]
