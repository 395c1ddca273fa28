theorem nar_b {x : Int} (hx : -128 ≤ x ∧ x ≤ 127) : vp_nar .byte (Int32.ofInt x) = Int32.ofInt x := by
  rw [vp_nar_byte]
  apply Int32.toInt_inj.mp
  rw [Int8.toInt_toInt32, Int32.toInt_toInt8, Int32.toInt_ofInt_of_le (by omega) (by omega)]
  rw [Int.bmod_eq_of_le (by omega) (by omega)]
theorem nar_c {x : Int} (hx : 0 ≤ x ∧ x ≤ 65535) : vp_nar .char (Int32.ofInt x) = Int32.ofInt x := by
  obtain ⟨n, rfl⟩ : ∃ n : Nat, x = n := ⟨x.toNat, by omega⟩
  have h := (pk_charN (q := n) (by omega)).1
  unfold vp_nar
  have e : Int32.ofInt (n : Int) = nI n := Int32.ofInt_eq_ofNat
  rw [e, h]
theorem scell_i {g : sG} {k n a : Nat} {I L : sI} {R : sR} (hk : k = 10 ∨ k = 12 ∨ k = 13 ∨ k = 14) : scell g (k, n) a I L R = .inl (g.2.2.2.2.1 k, n, .inl (fun i => Int32.ofInt (I a i))) := by
  rcases hk with rfl | rfl | rfl | rfl <;> simp [scell]
theorem scell_l {g : sG} {n a : Nat} {I L : sI} {R : sR} : scell g (11, n) a I L R = .inl (g.2.2.2.2.1 11, n, .inr (.inl (fun i => Int64.ofInt (L a i)))) := by simp [scell]
theorem scell_q {g : sG} {k n a : Nat} {I L : sI} {R : sR} (hk : 15 ≤ k) : scell g (k, n) a I L R = .inl (g.2.2.2.2.1 k, n, .inr (.inr (.inr (.inr (fun i => (R a i).map (sad g)))))) := by
  have h1 : ¬ k < 9 := by omega
  have h2 : ¬ k = 11 := by omega
  simp [scell, h1, h2, hk]
theorem upd_up2 {I : sI} {a j : Nat} {x : Int} : upd (fun i => Int32.ofInt (I a i)) j (Int32.ofInt x) = fun i => Int32.ofInt (up2 I a j x a i) := by
  funext i
  unfold upd up2
  by_cases h : i = j <;> simp [h]
theorem updL_up2 {L : sI} {a j : Nat} {x : Int} : vp_updL (fun i => Int64.ofInt (L a i)) j (Int64.ofInt x) = fun i => Int64.ofInt (up2 L a j x a i) := by
  funext i
  unfold vp_updL up2
  by_cases h : i = j <;> simp [h]
theorem upq_up2 {g : sG} {R : sR} {a j b : Nat} : va_up (fun i => (R a i).map (sad g)) j (some (sad g b)) = fun i => (up2 R a j (some b) a i).map (sad g) := by
  funext i
  unfold va_up up2
  by_cases h : i = j <;> simp [h]
section SA
variable {g : sG} {d : Nat} {M : sM} {mc ms : Nat} {Q : sQ} {pc pc' tgt : Nat} {ls : List (Nat × sV)} {st : List sV} {T : sT} {I L : sI} {R : sR}
theorem r_iald {a n : Nat} {i : Int} (hd : sD M.2.1 pc 1 pc' .iaload) (hT : T[a]? = some (10, n)) (hi : 0 ≤ i ∧ i < (n : Int)) (hn : n ≤ 2147483647 := by decide) (kk : Cp g d M mc ms Q pc' ls (vi (I a i.toNat) :: st) T I L R) : Cp g d M mc ms Q pc ls (vi i :: vr a :: st) T I L R := by
  intro p e Rm s m args below meth c0 H locs cells slots lR X hH hS hc hs hl
  obtain ⟨hd, rfl⟩ := hd
  obtain ⟨hin, hcl⟩ := r32_ix hi hn
  by_cases ha : 3 ≤ a
  · have he := sws_get (g := g) (I := I) (L := L) (R := R) hT ha
    rw [scell_i (by omega)] at he
    refine va_iald X.1 X.2.1 X.2.2.2.2.2.2.2.2.1.1 hH.2.2 (a - 3) 0 he rfl hin hd ?_
    rw [hcl]
    exact kk p e Rm s m args below meth c0 H locs cells slots lR X hH hS hc hs hl
  · obtain ⟨h1, h2, h3, h4, h5, h6⟩ := hH.1
    have ha2 : a = 0 ∨ a = 1 ∨ a = 2 := by omega
    rcases ha2 with rfl | rfl | rfl
    · rw [h1] at hT; cases hT
      refine va_ti X.1 X.2.1 X.2.2.2.2.2.2.2.2.1.2.1 hS hin (v := .int (Int32.ofInt (I 0 i.toNat))) (by rw [hcl, h4 _ (by omega)]) hd ?_
      exact kk p e Rm s m args below meth c0 H locs cells slots lR X hH hS hc hs hl
    · rw [h2] at hT; cases hT
      refine va_ti X.1 X.2.1 X.2.2.2.2.2.2.2.2.1.2.2.1 hS hin (v := .int (Int32.ofInt (I 1 i.toNat))) (by rw [hcl, h5 _ (by omega)]) hd ?_
      exact kk p e Rm s m args below meth c0 H locs cells slots lR X hH hS hc hs hl
    · rw [h3] at hT; cases hT
theorem r_lald {a n : Nat} {i : Int} (hd : sD M.2.1 pc 1 pc' .laload) (hT : T[a]? = some (11, n)) (hi : 0 ≤ i ∧ i < (n : Int)) (hn : n ≤ 2147483647 := by decide) (kk : Cp g d M mc ms Q pc' ls (vl (L a i.toNat) :: st) T I L R) : Cp g d M mc ms Q pc ls (vi i :: vr a :: st) T I L R := by
  intro p e Rm s m args below meth c0 H locs cells slots lR X hH hS hc hs hl
  obtain ⟨hd, rfl⟩ := hd
  obtain ⟨hin, hcl⟩ := r32_ix hi hn
  by_cases ha : 3 ≤ a
  · have he := sws_get (g := g) (I := I) (L := L) (R := R) hT ha
    rw [scell_l] at he
    refine va_lald X.1 X.2.1 X.2.2.2.2.2.2.2.2.1.1 hH.2.2 (a - 3) 1 he rfl hin hd ?_
    rw [hcl]
    exact kk p e Rm s m args below meth c0 H locs cells slots lR X hH hS hc hs hl
  · obtain ⟨h1, h2, h3, h4, h5, h6⟩ := hH.1
    have ha2 : a = 0 ∨ a = 1 ∨ a = 2 := by omega
    rcases ha2 with rfl | rfl | rfl
    · rw [h1] at hT; cases hT
    · rw [h2] at hT; cases hT
    · rw [h3] at hT; cases hT
      refine va_tl X.1 X.2.1 X.2.2.2.2.2.2.2.2.1.2.2.2.1 hS hin (v := .long (Int64.ofInt (L 2 i.toNat))) (by rw [hcl, h6 _ (by omega)]) hd ?_
      exact kk p e Rm s m args below meth c0 H locs cells slots lR X hH hS hc hs hl
theorem r_zald {a n : Nat} {i : Int} (hd : sD M.2.1 pc 1 pc' .baload) (hT : T[a]? = some (12, n)) (hi : 0 ≤ i ∧ i < (n : Int)) (hn : n ≤ 2147483647 := by decide) (kk : Cp g d M mc ms Q pc' ls (vi (I a i.toNat) :: st) T I L R) : Cp g d M mc ms Q pc ls (vi i :: vr a :: st) T I L R := by
  intro p e Rm s m args below meth c0 H locs cells slots lR X hH hS hc hs hl
  obtain ⟨hd, rfl⟩ := hd
  obtain ⟨hin, hcl⟩ := r32_ix hi hn
  have ha := sXt_ge hH.1 hT (by omega)
  have he := sws_get (g := g) (I := I) (L := L) (R := R) hT ha
  rw [scell_i (by omega)] at he
  refine va_zald X.1 X.2.1 X.2.2.2.2.2.2.2.2.1.1 hH.2.2 (a - 3) 2 he rfl hin hd ?_
  rw [hcl]
  exact kk p e Rm s m args below meth c0 H locs cells slots lR X hH hS hc hs hl
theorem r_cald {a n : Nat} {i : Int} (hd : sD M.2.1 pc 1 pc' .caload) (hT : T[a]? = some (13, n)) (hi : 0 ≤ i ∧ i < (n : Int)) (hn : n ≤ 2147483647 := by decide) (kk : Cp g d M mc ms Q pc' ls (vi (I a i.toNat) :: st) T I L R) : Cp g d M mc ms Q pc ls (vi i :: vr a :: st) T I L R := by
  intro p e Rm s m args below meth c0 H locs cells slots lR X hH hS hc hs hl
  obtain ⟨hd, rfl⟩ := hd
  obtain ⟨hin, hcl⟩ := r32_ix hi hn
  have ha := sXt_ge hH.1 hT (by omega)
  have he := sws_get (g := g) (I := I) (L := L) (R := R) hT ha
  rw [scell_i (by omega)] at he
  refine va_cald X.1 X.2.1 X.2.2.2.2.2.2.2.2.1.1 hH.2.2 (a - 3) 3 he rfl hin hd ?_
  rw [hcl]
  exact kk p e Rm s m args below meth c0 H locs cells slots lR X hH hS hc hs hl
theorem r_bald {a n : Nat} {i : Int} (hd : sD M.2.1 pc 1 pc' .baload) (hT : T[a]? = some (14, n)) (hi : 0 ≤ i ∧ i < (n : Int)) (hn : n ≤ 2147483647 := by decide) (kk : Cp g d M mc ms Q pc' ls (vi (I a i.toNat) :: st) T I L R) : Cp g d M mc ms Q pc ls (vi i :: vr a :: st) T I L R := by
  intro p e Rm s m args below meth c0 H locs cells slots lR X hH hS hc hs hl
  obtain ⟨hd, rfl⟩ := hd
  obtain ⟨hin, hcl⟩ := r32_ix hi hn
  have ha := sXt_ge hH.1 hT (by omega)
  have he := sws_get (g := g) (I := I) (L := L) (R := R) hT ha
  rw [scell_i (by omega)] at he
  refine va_bald X.1 X.2.1 X.2.2.2.2.2.2.2.2.1.1 hH.2.2 (a - 3) 4 he rfl hin hd ?_
  rw [hcl]
  exact kk p e Rm s m args below meth c0 H locs cells slots lR X hH hS hc hs hl
theorem r_aald {a n kd b : Nat} {i : Int} (hd : sD M.2.1 pc 1 pc' .aaload) (hT : T[a]? = some (kd, n)) (hkd : kd = 15 ∨ kd = 16 ∨ kd = 17) (hi : 0 ≤ i ∧ i < (n : Int)) (hr : R a i.toNat = some b) (hn : n ≤ 2147483647 := by decide) (kk : Cp g d M mc ms Q pc' ls (vr b :: st) T I L R) : Cp g d M mc ms Q pc ls (vi i :: vr a :: st) T I L R := by
  intro p e Rm s m args below meth c0 H locs cells slots lR X hH hS hc hs hl
  obtain ⟨hd, rfl⟩ := hd
  obtain ⟨hin, hcl⟩ := r32_ix hi hn
  have ha := sXt_ge hH.1 hT (by omega)
  have he := sws_get (g := g) (I := I) (L := L) (R := R) hT ha
  rw [scell_q (by omega)] at he
  have hlt : (Int32.ofInt i).toNatClampNeg < n := Nat.not_le.mp fun q => hin (Or.inr q)
  have hA := hH.2.2 (a - 3) _ he
  have hKn := X.2.2.2.2.2.2.2.2.1.1
  have fin9 : ∀ (ty : FieldType) (t0 : Nat), (stys g)[t0]? = some (g.2.2.2.2.1 kd, ty) → (refKind ty = true) → W p g.1 e Rm s m args below meth c0 H locs cells slots (MQ below (sQm g Rm.cells Q) args s Rm.cells Rm.slots (sA g)) (F0 m pc lR ((vi i :: vr a :: st).map (scv g))) := by
    intro ty t0 ht hrk
    refine W.aald (v := .ref (sad g b)) (ty := ty) X.1 X.2.1 hA ((hKn.2 t0 _ ht).1 n (fun j => va_rf ((R a j).map (sad g)))) hrk (fun q => by cases q) (by show ¬ (Int32.ofInt i < 0 ∨ (arrV _ _ _).slots.size ≤ _); rw [arrV_size]; exact hin) (by show (arrV _ _ _).slots[_]? = _; rw [arrV_read _ _ hlt, hcl]; show some (va_rf ((R a i.toNat).map (sad g))) = _; rw [hr]; rfl) rfl rfl hd ?_
    exact kk p e Rm s m args below meth c0 H locs cells slots lR X hH hS hc hs hl
  rcases hkd with rfl | rfl | rfl
  · exact fin9 (.object "RoomsByThree$Rule") 5 rfl rfl
  · exact fin9 (.array .int) 6 rfl rfl
  · exact fin9 (.array .long) 7 rfl rfl
theorem r_alen {a n kd : Nat} (hd : sD M.2.1 pc 1 pc' .arraylength) (hT : T[a]? = some (kd, n)) (hkd : 10 ≤ kd ∧ kd ≤ 17) (kk : Cp g d M mc ms Q pc' ls (vi n :: st) T I L R) : Cp g d M mc ms Q pc ls (vr a :: st) T I L R := by
  intro p e Rm s m args below meth c0 H locs cells slots lR X hH hS hc hs hl
  obtain ⟨hd, rfl⟩ := hd
  by_cases ha : 3 ≤ a
  · have he := sws_get (g := g) (I := I) (L := L) (R := R) hT ha
    have h9 : kd = 10 ∨ kd = 11 ∨ kd = 12 ∨ kd = 13 ∨ kd = 14 ∨ kd = 15 ∨ kd = 16 ∨ kd = 17 := by omega
    have hv : Int32.ofNat n = Int32.ofInt (n : Int) := Int32.ofInt_eq_ofNat.symm
    rcases h9 with rfl | rfl | rfl | rfl | rfl | rfl | rfl | rfl
    · rw [scell_i (by omega)] at he
      exact va_alen X.1 X.2.1 X.2.2.2.2.2.2.2.2.1.1 hH.2.2 (a - 3) 0 he rfl hv hd (kk p e Rm s m args below meth c0 H locs cells slots lR X hH hS hc hs hl)
    · rw [scell_l] at he
      exact va_alen X.1 X.2.1 X.2.2.2.2.2.2.2.2.1.1 hH.2.2 (a - 3) 1 he rfl hv hd (kk p e Rm s m args below meth c0 H locs cells slots lR X hH hS hc hs hl)
    · rw [scell_i (by omega)] at he
      exact va_alen X.1 X.2.1 X.2.2.2.2.2.2.2.2.1.1 hH.2.2 (a - 3) 2 he rfl hv hd (kk p e Rm s m args below meth c0 H locs cells slots lR X hH hS hc hs hl)
    · rw [scell_i (by omega)] at he
      exact va_alen X.1 X.2.1 X.2.2.2.2.2.2.2.2.1.1 hH.2.2 (a - 3) 3 he rfl hv hd (kk p e Rm s m args below meth c0 H locs cells slots lR X hH hS hc hs hl)
    · rw [scell_i (by omega)] at he
      exact va_alen X.1 X.2.1 X.2.2.2.2.2.2.2.2.1.1 hH.2.2 (a - 3) 4 he rfl hv hd (kk p e Rm s m args below meth c0 H locs cells slots lR X hH hS hc hs hl)
    · rw [scell_q (by omega)] at he
      exact va_alen X.1 X.2.1 X.2.2.2.2.2.2.2.2.1.1 hH.2.2 (a - 3) 5 he rfl hv hd (kk p e Rm s m args below meth c0 H locs cells slots lR X hH hS hc hs hl)
    · rw [scell_q (by omega)] at he
      exact va_alen X.1 X.2.1 X.2.2.2.2.2.2.2.2.1.1 hH.2.2 (a - 3) 6 he rfl hv hd (kk p e Rm s m args below meth c0 H locs cells slots lR X hH hS hc hs hl)
    · rw [scell_q (by omega)] at he
      exact va_alen X.1 X.2.1 X.2.2.2.2.2.2.2.2.1.1 hH.2.2 (a - 3) 7 he rfl hv hd (kk p e Rm s m args below meth c0 H locs cells slots lR X hH hS hc hs hl)
  · obtain ⟨h1, h2, h3, h4, h5, h6⟩ := hH.1
    have hv : ∀ n : Nat, Int32.ofNat n = Int32.ofInt (n : Int) := fun n => Int32.ofInt_eq_ofNat.symm
    have ha2 : a = 0 ∨ a = 1 ∨ a = 2 := by omega
    rcases ha2 with rfl | rfl | rfl
    · rw [h1] at hT; cases hT
      exact va_tlen X.1 X.2.1 X.2.2.2.2.2.2.2.2.1.2.1 hS (hv _) hd (kk p e Rm s m args below meth c0 H locs cells slots lR X hH hS hc hs hl)
    · rw [h2] at hT; cases hT
      exact va_tlen X.1 X.2.1 X.2.2.2.2.2.2.2.2.1.2.2.1 hS (hv _) hd (kk p e Rm s m args below meth c0 H locs cells slots lR X hH hS hc hs hl)
    · rw [h3] at hT; cases hT
      exact va_tlen X.1 X.2.1 X.2.2.2.2.2.2.2.2.1.2.2.2.1 hS (hv _) hd (kk p e Rm s m args below meth c0 H locs cells slots lR X hH hS hc hs hl)
theorem r_iast {a n : Nat} {i x : Int} (hd : sD M.2.1 pc 1 pc' .iastore) (hT : T[a]? = some (10, n)) (ha : 3 ≤ a) (hi : 0 ≤ i ∧ i < (n : Int)) (hn : n ≤ 2147483647 := by decide) (kk : Cp g d M mc ms Q pc' ls st T (up2 I a i.toNat x) L R) : Cp g d M mc ms Q pc ls (vi x :: vi i :: vr a :: st) T I L R := by
  intro p e Rm s m args below meth c0 H locs cells slots lR X hH hS hc hs hl
  obtain ⟨hd, rfl⟩ := hd
  obtain ⟨hin, hcl⟩ := r32_ix hi hn
  have hal : a < T.length := (List.getElem?_eq_some_iff.mp hT).1
  have he := sws_get (g := g) (I := I) (L := L) (R := R) hT ha
  rw [scell_i (by omega)] at he
  refine va_iast X.1 X.2.1 X.2.2.2.2.2.2.2.2.1.1 hH.2.2 sws_D hS (a - 3) 0 he rfl hin hd (fun H1 locs1 hP1 hD1 hS1 => ?_)
  · rw [hcl] at hP1
    rw [upd_up2, ← scell_i (g := g) (L := L) (R := R) (n := n) (k := 10) (I := up2 I a i.toNat x) (by omega), sws_set hT ha (fun y hy => ⟨up2_ne I x hy, rfl, rfl⟩)] at hP1
    have h3 := hH.2.1
    refine W_sz (n := H.size) (by have := sws_low hP1 (by omega); omega) hc.2 (fun hz => ?_)
    exact kk p e Rm s m args below meth c0 H1 locs1 cells slots lR X ⟨sXt_put hH.1 (fun y h => up2_ne I x (by omega)) (fun y h => rfl), by rw [hz]; exact hH.2.1, hP1⟩ hS1 ⟨hc.1, by rw [hz]; exact hc.2⟩ hs hl
theorem r_zast {a n : Nat} {i x : Int} (hd : sD M.2.1 pc 1 pc' .bastore) (hT : T[a]? = some (12, n)) (ha : 3 ≤ a) (hi : 0 ≤ i ∧ i < (n : Int)) (hx : x = 0 ∨ x = 1) (hn : n ≤ 2147483647 := by decide) (kk : Cp g d M mc ms Q pc' ls st T (up2 I a i.toNat x) L R) : Cp g d M mc ms Q pc ls (vi x :: vi i :: vr a :: st) T I L R := by
  intro p e Rm s m args below meth c0 H locs cells slots lR X hH hS hc hs hl
  obtain ⟨hd, rfl⟩ := hd
  obtain ⟨hin, hcl⟩ := r32_ix hi hn
  have hal : a < T.length := (List.getElem?_eq_some_iff.mp hT).1
  have he := sws_get (g := g) (I := I) (L := L) (R := R) hT ha
  rw [scell_i (by omega)] at he
  refine va_zast X.1 X.2.1 X.2.2.2.2.2.2.2.2.1.1 hH.2.2 sws_D hS (a - 3) 2 he rfl hin hd (fun H1 locs1 hP1 hD1 hS1 => ?_)
  · rw [hcl] at hP1
    have hnar : vp_nar .boolean (Int32.ofInt x) = Int32.ofInt x := by rcases hx with rfl | rfl <;> rfl
    rw [hnar] at hP1
    rw [upd_up2, ← scell_i (g := g) (L := L) (R := R) (n := n) (k := 12) (I := up2 I a i.toNat x) (by omega), sws_set hT ha (fun y hy => ⟨up2_ne I x hy, rfl, rfl⟩)] at hP1
    have h3 := hH.2.1
    refine W_sz (n := H.size) (by have := sws_low hP1 (by omega); omega) hc.2 (fun hz => ?_)
    exact kk p e Rm s m args below meth c0 H1 locs1 cells slots lR X ⟨sXt_put hH.1 (fun y h => up2_ne I x (by omega)) (fun y h => rfl), by rw [hz]; exact hH.2.1, hP1⟩ hS1 ⟨hc.1, by rw [hz]; exact hc.2⟩ hs hl
theorem r_cast {a n : Nat} {i x : Int} (hd : sD M.2.1 pc 1 pc' .castore) (hT : T[a]? = some (13, n)) (ha : 3 ≤ a) (hi : 0 ≤ i ∧ i < (n : Int)) (hx : 0 ≤ x ∧ x ≤ 65535) (hn : n ≤ 2147483647 := by decide) (kk : Cp g d M mc ms Q pc' ls st T (up2 I a i.toNat x) L R) : Cp g d M mc ms Q pc ls (vi x :: vi i :: vr a :: st) T I L R := by
  intro p e Rm s m args below meth c0 H locs cells slots lR X hH hS hc hs hl
  obtain ⟨hd, rfl⟩ := hd
  obtain ⟨hin, hcl⟩ := r32_ix hi hn
  have hal : a < T.length := (List.getElem?_eq_some_iff.mp hT).1
  have he := sws_get (g := g) (I := I) (L := L) (R := R) hT ha
  rw [scell_i (by omega)] at he
  refine va_cast X.1 X.2.1 X.2.2.2.2.2.2.2.2.1.1 hH.2.2 sws_D hS (a - 3) 3 he rfl hin hd (fun H1 locs1 hP1 hD1 hS1 => ?_)
  · rw [hcl] at hP1
    have hnar : vp_nar .char (Int32.ofInt x) = Int32.ofInt x := nar_c hx
    rw [hnar] at hP1
    rw [upd_up2, ← scell_i (g := g) (L := L) (R := R) (n := n) (k := 13) (I := up2 I a i.toNat x) (by omega), sws_set hT ha (fun y hy => ⟨up2_ne I x hy, rfl, rfl⟩)] at hP1
    have h3 := hH.2.1
    refine W_sz (n := H.size) (by have := sws_low hP1 (by omega); omega) hc.2 (fun hz => ?_)
    exact kk p e Rm s m args below meth c0 H1 locs1 cells slots lR X ⟨sXt_put hH.1 (fun y h => up2_ne I x (by omega)) (fun y h => rfl), by rw [hz]; exact hH.2.1, hP1⟩ hS1 ⟨hc.1, by rw [hz]; exact hc.2⟩ hs hl
theorem r_bast {a n : Nat} {i x : Int} (hd : sD M.2.1 pc 1 pc' .bastore) (hT : T[a]? = some (14, n)) (ha : 3 ≤ a) (hi : 0 ≤ i ∧ i < (n : Int)) (hx : -128 ≤ x ∧ x ≤ 127) (hn : n ≤ 2147483647 := by decide) (kk : Cp g d M mc ms Q pc' ls st T (up2 I a i.toNat x) L R) : Cp g d M mc ms Q pc ls (vi x :: vi i :: vr a :: st) T I L R := by
  intro p e Rm s m args below meth c0 H locs cells slots lR X hH hS hc hs hl
  obtain ⟨hd, rfl⟩ := hd
  obtain ⟨hin, hcl⟩ := r32_ix hi hn
  have hal : a < T.length := (List.getElem?_eq_some_iff.mp hT).1
  have he := sws_get (g := g) (I := I) (L := L) (R := R) hT ha
  rw [scell_i (by omega)] at he
  refine va_bast X.1 X.2.1 X.2.2.2.2.2.2.2.2.1.1 hH.2.2 sws_D hS (a - 3) 4 he rfl hin hd (fun H1 locs1 hP1 hD1 hS1 => ?_)
  · rw [hcl] at hP1
    have hnar : vp_nar .byte (Int32.ofInt x) = Int32.ofInt x := nar_b hx
    rw [hnar] at hP1
    rw [upd_up2, ← scell_i (g := g) (L := L) (R := R) (n := n) (k := 14) (I := up2 I a i.toNat x) (by omega), sws_set hT ha (fun y hy => ⟨up2_ne I x hy, rfl, rfl⟩)] at hP1
    have h3 := hH.2.1
    refine W_sz (n := H.size) (by have := sws_low hP1 (by omega); omega) hc.2 (fun hz => ?_)
    exact kk p e Rm s m args below meth c0 H1 locs1 cells slots lR X ⟨sXt_put hH.1 (fun y h => up2_ne I x (by omega)) (fun y h => rfl), by rw [hz]; exact hH.2.1, hP1⟩ hS1 ⟨hc.1, by rw [hz]; exact hc.2⟩ hs hl
theorem r_last {a n : Nat} {i x : Int} (hd : sD M.2.1 pc 1 pc' .lastore) (hT : T[a]? = some (11, n)) (ha : 3 ≤ a) (hi : 0 ≤ i ∧ i < (n : Int)) (hn : n ≤ 2147483647 := by decide) (kk : Cp g d M mc ms Q pc' ls st T I (up2 L a i.toNat x) R) : Cp g d M mc ms Q pc ls (vl x :: vi i :: vr a :: st) T I L R := by
  intro p e Rm s m args below meth c0 H locs cells slots lR X hH hS hc hs hl
  obtain ⟨hd, rfl⟩ := hd
  obtain ⟨hin, hcl⟩ := r32_ix hi hn
  have hal : a < T.length := (List.getElem?_eq_some_iff.mp hT).1
  have he := sws_get (g := g) (I := I) (L := L) (R := R) hT ha
  rw [scell_l] at he
  refine va_last X.1 X.2.1 X.2.2.2.2.2.2.2.2.1.1 hH.2.2 sws_D hS (a - 3) 1 he rfl hin hd (fun H1 locs1 hP1 hD1 hS1 => ?_)
  · rw [hcl] at hP1
    rw [updL_up2, ← scell_l (g := g) (I := I) (R := R) (n := n) (L := up2 L a i.toNat x), sws_set hT ha (fun y hy => ⟨rfl, up2_ne L x hy, rfl⟩)] at hP1
    have h3 := hH.2.1
    refine W_sz (n := H.size) (by have := sws_low hP1 (by omega); omega) hc.2 (fun hz => ?_)
    exact kk p e Rm s m args below meth c0 H1 locs1 cells slots lR X ⟨sXt_put hH.1 (fun y h => rfl) (fun y h => up2_ne L x (by omega)), by rw [hz]; exact hH.2.1, hP1⟩ hS1 ⟨hc.1, by rw [hz]; exact hc.2⟩ hs hl
theorem r_aast {a n b m2 : Nat} {i : Int} (hd : sD M.2.1 pc 1 pc' .aastore) (hT : T[a]? = some (15, n)) (hi : 0 ≤ i ∧ i < (n : Int)) (hb : T[b]? = some (6, m2)) (hn : n ≤ 2147483647 := by decide) (kk : Cp g d M mc ms Q pc' ls st T I L (up2 R a i.toNat (some b))) : Cp g d M mc ms Q pc ls (vr b :: vi i :: vr a :: st) T I L R := by
  intro p e Rm s m args below meth c0 H locs cells slots lR X hH hS hc hs hl
  obtain ⟨hd, rfl⟩ := hd
  obtain ⟨hin, hcl⟩ := r32_ix hi hn
  have ha := sXt_ge hH.1 hT (by omega)
  have hb3 := sXt_ge hH.1 hb (by omega)
  have hal : a < T.length := (List.getElem?_eq_some_iff.mp hT).1
  have he := sws_get (g := g) (I := I) (L := L) (R := R) hT ha
  rw [scell_q (by omega)] at he
  have heb := sws_get (g := g) (I := I) (L := L) (R := R) hb hb3
  rw [scell_obj (by omega)] at heb
  refine va_astq (r := (RX6, TX6, 4)) (ci := 6) X.1 X.2.1 X.2.2.2.2.2.2.2.2.1.1 hH.2.2 sws_D hS (a - 3) 5 (b - 3) he rfl heb rfl hin hd (fun H1 locs1 hP1 hD1 hS1 => ?_)
  · rw [hcl] at hP1
    rw [upq_up2, ← scell_q (g := g) (I := I) (L := L) (n := n) (k := 15) (R := up2 R a i.toNat (some b)) (by omega), sws_set hT ha (fun y hy => ⟨rfl, rfl, up2_ne R _ hy⟩)] at hP1
    have h3 := hH.2.1
    refine W_sz (n := H.size) (by have := sws_low hP1 (by omega); omega) hc.2 (fun hz => ?_)
    exact kk p e Rm s m args below meth c0 H1 locs1 cells slots lR X ⟨sXt_put hH.1 (fun y h => rfl) (fun y h => rfl), by rw [hz]; exact hH.2.1, hP1⟩ hS1 ⟨hc.1, by rw [hz]; exact hc.2⟩ hs hl
end SA
