def qI (P : Int → sT → sI → sI → sR → Prop) : sQ := fun v T I L R => ∃ z : Int, v = some (vi z) ∧ P z T I L R
def qL (P : Int → sT → sI → sI → sR → Prop) : sQ := fun v T I L R => ∃ z : Int, v = some (vl z) ∧ P z T I L R
def qR (P : Nat → sT → sI → sI → sR → Prop) : sQ := fun v T I L R => ∃ z : Nat, v = some (vr z) ∧ P z T I L R
def qV (P : sT → sI → sI → sR → Prop) : sQ := fun v T I L R => v = none ∧ P T I L R
def cpy2 (F : sI) (a0 a sp dp n : Nat) : sI := fun x j => if x = a then (if dp ≤ j ∧ j < dp + n then F a0 (sp + (j - dp)) else F x j) else F x j
theorem cpy2_ne {F : sI} {a0 a sp dp n x : Nat} (h : x ≠ a) : cpy2 F a0 a sp dp n x = F x := by funext j; simp [cpy2, h]
section SO
variable {g : sG} {d : Nat} {M : sM} {mc ms : Nat} {Q : sQ} {pc pc' tgt : Nat} {ls : List (Nat × sV)} {st : List sV} {T : sT} {I L : sI} {R : sR}
theorem r_iret {x : Int} (hd : sD M.2.1 pc 1 pc' .ireturn) (hr : M.2.2.2 = some .int) (hq : Q (some (vi x)) T I L R) : Cp g d M 0 ms Q pc ls [vi x] T I L R := by
  intro p e Rm s m args below meth c0 H locs cells slots lR X hH hS hc hs hl
  obtain ⟨hd, rfl⟩ := hd
  refine W.widen (k := Rm.cells) (n := Rm.slots) (by omega) (by omega) ?_
  exact W.iret X.1 X.2.1 (X.2.2.1.trans hr) (fun t ht hW => ⟨some (vi x), T, I, L, R, rfl, hq, by rw [ht]; exact hH, hS.F ht, by rw [ht, ← hc.2]; omega⟩) hS.2.2 hd X.2.2.2.2.2.2.1
theorem r_zret {x : Int} (hd : sD M.2.1 pc 1 pc' .ireturn) (hr : M.2.2.2 = some .boolean) (hx : x = 0 ∨ x = 1) (hq : Q (some (vi x)) T I L R) : Cp g d M 0 ms Q pc ls [vi x] T I L R := by
  intro p e Rm s m args below meth c0 H locs cells slots lR X hH hS hc hs hl
  obtain ⟨hd, rfl⟩ := hd
  refine W.widen (k := Rm.cells) (n := Rm.slots) (by omega) (by omega) ?_
  exact W.zret X.1 X.2.1 (X.2.2.1.trans hr) (by rcases hx with rfl | rfl <;> rfl) (fun t ht hW => ⟨some (vi x), T, I, L, R, rfl, hq, by rw [ht]; exact hH, hS.F ht, by rw [ht, ← hc.2]; omega⟩) hS.2.2 hd X.2.2.2.2.2.2.1
theorem r_lret {x : Int} (hd : sD M.2.1 pc 1 pc' .lreturn) (hr : M.2.2.2 = some .long) (hq : Q (some (vl x)) T I L R) : Cp g d M 0 ms Q pc ls [vl x] T I L R := by
  intro p e Rm s m args below meth c0 H locs cells slots lR X hH hS hc hs hl
  obtain ⟨hd, rfl⟩ := hd
  refine W.widen (k := Rm.cells) (n := Rm.slots) (by omega) (by omega) ?_
  exact W.lret X.1 X.2.1 (X.2.2.1.trans hr) (fun t ht hW => ⟨some (vl x), T, I, L, R, rfl, hq, by rw [ht]; exact hH, hS.F ht, by rw [ht, ← hc.2]; omega⟩) hS.2.2 hd X.2.2.2.2.2.2.1
theorem r_aret {a : Nat} {rt : FieldType} (hd : sD M.2.1 pc 1 pc' .areturn) (hr : M.2.2.2 = some (.array rt)) (hq : Q (some (vr a)) T I L R) : Cp g d M 0 ms Q pc ls [vr a] T I L R := by
  intro p e Rm s m args below meth c0 H locs cells slots lR X hH hS hc hs hl
  obtain ⟨hd, rfl⟩ := hd
  refine W.widen (k := Rm.cells) (n := Rm.slots) (by omega) (by omega) ?_
  exact W.aret X.1 X.2.1 (X.2.2.1.trans hr) (Or.inr ⟨_, rfl⟩) (Or.inr ⟨_, rfl⟩) (fun t ht hW => ⟨some (vr a), T, I, L, R, rfl, hq, by rw [ht]; exact hH, hS.F ht, by rw [ht, ← hc.2]; omega⟩) hS.2.2 hd X.2.2.2.2.2.2.1
theorem r_vret (hd : sD M.2.1 pc 1 pc' .return_) (hr : M.2.2.2 = none) (hq : Q none T I L R) : Cp g d M 0 ms Q pc ls [] T I L R := by
  intro p e Rm s m args below meth c0 H locs cells slots lR X hH hS hc hs hl
  obtain ⟨hd, rfl⟩ := hd
  refine W.widen (k := Rm.cells) (n := Rm.slots) (by omega) (by omega) ?_
  exact W.vret X.1 X.2.1 (X.2.2.1.trans hr) (fun t ht hW => ⟨none, T, I, L, R, rfl, hq, by rw [ht]; exact hH, hS.F ht, by rw [ht, ← hc.2]; omega⟩) hS.2.2 hd X.2.2.2.2.2.2.1
theorem r_oinit {idx a : Nat} (hd : sD M.2.1 pc 3 pc' (.invokespecial idx)) (hw : Cond.methodLink M.1.cls idx Lib.objectInit ∈ sTb ∧ Cond.instanceMethod Lib.objectInit ∈ sTb ∧ Cond.code Lib.objectInit ⟨#[0xb1]⟩ 1 none ∈ sTb) (hdp : 1 ≤ d) (hcat : sCats st ≤ 8) (kk : Cp g d M mc ms Q pc' ls st T I L R) : Cp g d M mc ms Q pc ls (vr a :: st) T I L R := by
  intro p e Rm s m args below meth c0 H locs cells slots lR X hH hS hc hs hl
  obtain ⟨hd, rfl⟩ := hd
  have hts := X.2.2.2.2.2.1
  have hf := X.2.2.2.2.2.2.2.2.2.1
  have hlo := X.2.2.2.2.2.2.2.2.2.2
  refine W.objInit X.1 X.2.1 X.2.2.2.2.1 (hts _ hw.1) (hts _ hw.2.1) (hts _ hw.2.2) rfl (hl.1.trans X.2.2.2.1.symm) rfl hd (by omega) ?_ (kk p e Rm s m args below meth c0 H locs cells slots lR X hH hS hc hs hl)
  have := lv_room (m := m) (pc := pc) (ls := lR) (rest := (vr a :: st).map (scv g)) (st := st.map (scv g)) (by rw [sCats_sum]; exact hcat)
  omega
theorem r_mmax {idx : Nat} {x y : Int} (hd : sD M.2.1 pc 3 pc' (.invokestatic idx)) (hw : Cond.methodLink M.1.cls idx Lib.Math.max.name ∈ sTb ∧ Cond.static Lib.Math.max.name ∈ sTb ∧ Cond.initialized "java/lang/Math" ∈ sTb ∧ Cond.code Lib.Math.max.name Lib.Math.max.code 2 (some .int) ∈ sTb) (hdp : 1 ≤ d) (hcat : sCats st ≤ 8) (hx : -2147483648 ≤ x ∧ x ≤ 2147483647) (hy : -2147483648 ≤ y ∧ y ≤ 2147483647) (kk : Cp g d M mc ms Q pc' ls (vi (if x < y then y else x) :: st) T I L R) : Cp g d M mc ms Q pc ls (vi y :: vi x :: st) T I L R := by
  intro p e Rm s m args below meth c0 H locs cells slots lR X hH hS hc hs hl
  obtain ⟨hd, rfl⟩ := hd
  have hts := X.2.2.2.2.2.1
  have hf := X.2.2.2.2.2.2.2.2.2.1
  have hlo := X.2.2.2.2.2.2.2.2.2.2
  refine va_mmax X.1 X.2.1 (X.2.2.2.1.trans hl.1.symm) X.2.2.2.2.1 (hts _ hw.1) (hts _ hw.2.1) (hts _ hw.2.2.1) (hts _ hw.2.2.2) (by omega) (by rw [sCats_sum]; omega) (by omega) (by omega) hd ?_
  have e9 : (if Int32.ofInt x < Int32.ofInt y then Int32.ofInt y else Int32.ofInt x) = Int32.ofInt (if x < y then y else x) := by
    by_cases h : x < y
    · rw [if_pos h, if_pos ((r32_lt hx hy).mpr h)]
    · rw [if_neg h, if_neg (fun q => h ((r32_lt hx hy).mp q))]
  rw [e9]
  exact kk p e Rm s m args below meth c0 H locs cells slots lR X hH hS hc hs hl
theorem r_mmin {idx : Nat} {x y : Int} (hd : sD M.2.1 pc 3 pc' (.invokestatic idx)) (hw : Cond.methodLink M.1.cls idx Lib.Math.min.name ∈ sTb ∧ Cond.static Lib.Math.min.name ∈ sTb ∧ Cond.initialized "java/lang/Math" ∈ sTb ∧ Cond.code Lib.Math.min.name Lib.Math.min.code 2 (some .int) ∈ sTb) (hdp : 1 ≤ d) (hcat : sCats st ≤ 8) (hx : -2147483648 ≤ x ∧ x ≤ 2147483647) (hy : -2147483648 ≤ y ∧ y ≤ 2147483647) (kk : Cp g d M mc ms Q pc' ls (vi (if y < x then y else x) :: st) T I L R) : Cp g d M mc ms Q pc ls (vi y :: vi x :: st) T I L R := by
  intro p e Rm s m args below meth c0 H locs cells slots lR X hH hS hc hs hl
  obtain ⟨hd, rfl⟩ := hd
  have hts := X.2.2.2.2.2.1
  have hf := X.2.2.2.2.2.2.2.2.2.1
  have hlo := X.2.2.2.2.2.2.2.2.2.2
  refine va_mmin X.1 X.2.1 (X.2.2.2.1.trans hl.1.symm) X.2.2.2.2.1 (hts _ hw.1) (hts _ hw.2.1) (hts _ hw.2.2.1) (hts _ hw.2.2.2) (by omega) (by rw [sCats_sum]; omega) (by omega) (by omega) hd ?_
  have e9 : (if Int32.ofInt y < Int32.ofInt x then Int32.ofInt y else Int32.ofInt x) = Int32.ofInt (if y < x then y else x) := by
    by_cases h : y < x
    · rw [if_pos h, if_pos ((r32_lt hy hx).mpr h)]
    · rw [if_neg h, if_neg (fun q => h ((r32_lt hy hx).mp q))]
  rw [e9]
  exact kk p e Rm s m args below meth c0 H locs cells slots lR X hH hS hc hs hl
theorem r_mabs {idx : Nat} {x : Int} (hd : sD M.2.1 pc 3 pc' (.invokestatic idx)) (hw : Cond.methodLink M.1.cls idx Lib.Math.abs.name ∈ sTb ∧ Cond.static Lib.Math.abs.name ∈ sTb ∧ Cond.initialized "java/lang/Math" ∈ sTb ∧ Cond.code Lib.Math.abs.name Lib.Math.abs.code 1 (some .int) ∈ sTb) (hdp : 1 ≤ d) (hcat : sCats st ≤ 8) (hx : -2147483648 ≤ x ∧ x ≤ 2147483647) (kk : Cp g d M mc ms Q pc' ls (vi (if 0 ≤ x then x else -x) :: st) T I L R) : Cp g d M mc ms Q pc ls (vi x :: st) T I L R := by
  intro p e Rm s m args below meth c0 H locs cells slots lR X hH hS hc hs hl
  obtain ⟨hd, rfl⟩ := hd
  have hts := X.2.2.2.2.2.1
  have hf := X.2.2.2.2.2.2.2.2.2.1
  have hlo := X.2.2.2.2.2.2.2.2.2.2
  refine va_mabs X.1 X.2.1 (X.2.2.2.1.trans hl.1.symm) X.2.2.2.2.1 (hts _ hw.1) (hts _ hw.2.1) (hts _ hw.2.2.1) (hts _ hw.2.2.2) (by omega) (by rw [sCats_sum]; omega) (by omega) (by omega) hd ?_
  have e9 : (if 0 ≤ Int32.ofInt x then Int32.ofInt x else 0 - Int32.ofInt x) = Int32.ofInt (if 0 ≤ x then x else -x) := by
    have h0 : (0 : Int32) = Int32.ofInt 0 := rfl
    by_cases h : 0 ≤ x
    · rw [if_pos h, if_pos (by rw [h0]; exact (r32_le (by omega) hx).mpr h)]
    · rw [if_neg h, if_neg (fun q => h ((r32_le (x := 0) (by omega) hx).mp (by rw [← h0]; exact q))), Int32.ofInt_neg, Int32.zero_sub]
  rw [e9]
  exact kk p e Rm s m args below meth c0 H locs cells slots lR X hH hS hc hs hl
theorem r_acpi {idx a0 a n0 n1 : Nat} {sp dp n : Int} (hd : sD M.2.1 pc 3 pc' (.invokestatic idx)) (hw : Cond.methodLink M.1.cls idx arraycopyName ∈ sTb ∧ Cond.native arraycopyName ∈ sTb ∧ Cond.static arraycopyName ∈ sTb ∧ Cond.initialized "java/lang/System" ∈ sTb) (hdp : 1 ≤ d) (hcat : sCats st = 0) (hT0 : T[a0]? = some (10, n0)) (h30 : 3 ≤ a0) (hT : T[a]? = some (10, n1)) (ha : 3 ≤ a) (h1 : 0 ≤ sp ∧ 0 ≤ dp ∧ 0 ≤ n) (h2 : sp + n ≤ n0 ∧ dp + n ≤ n1) (h3 : n0 ≤ 65536 ∧ n1 ≤ 65536) (kk : Cp g d M mc ms Q pc' ls st T (cpy2 I a0 a sp.toNat dp.toNat n.toNat) L R) : Cp g d M mc ms Q pc ls (vi n :: vi dp :: vr a :: vi sp :: vr a0 :: st) T I L R := by
  intro p e Rm s m args below meth c0 H locs cells slots lR X hH hS hc hs hl
  obtain ⟨hd, rfl⟩ := hd
  have hts := X.2.2.2.2.2.1
  have hf := X.2.2.2.2.2.2.2.2.2.1
  have hlo := X.2.2.2.2.2.2.2.2.2.2
  have hal : a < T.length := (List.getElem?_eq_some_iff.mp hT).1
  have he := sws_get (g := g) (I := I) (L := L) (R := R) hT ha
  rw [scell_i (by omega)] at he
  have he0 := sws_get (g := g) (I := I) (L := L) (R := R) hT0 h30
  rw [scell_i (by omega)] at he0
  have hng : ∀ z : Int, 0 ≤ z ∧ z ≤ 65536 → ¬ Int32.ofInt z < 0 := fun z hz h => by
    have h3 : Int32.ofInt z < Int32.ofInt 0 := h
    rw [r32_lt (by omega) (by omega)] at h3
    omega
  have hcl : ∀ z : Int, 0 ≤ z ∧ z ≤ 65536 → (Int32.ofInt z).toNatClampNeg = z.toNat := fun z hz => Int32.toNatClampNeg_ofInt_of_le (by omega) (by omega)
  have c1 := hcl sp (by omega)
  have c2 := hcl dp (by omega)
  have c3 := hcl n (by omega)
  have g1 := hng sp (by omega)
  have g2 := hng dp (by omega)
  have g3 := hng n (by omega)
  have hnw : nativeFrameWords "java/lang/System" "arraycopy" 5 + 11 ≤ 64 := by decide
  refine va_copyi (sp := Int32.ofInt sp) (dp := Int32.ofInt dp) (n := Int32.ofInt n) X.1 X.2.1 (X.2.2.2.1.trans hl.1.symm) X.2.2.2.2.1 (hts _ hw.1) (hts _ hw.2.1) (hts _ hw.2.2.1) (hts _ hw.2.2.2) X.2.2.2.2.2.2.2.2.1.1 hH.2.2 sws_D hS (a0 - 3) (a - 3) 0 0 he0 he rfl rfl rfl g1 g2 g3 (by rw [c1, c3]; omega) (by rw [c2, c3]; omega) (fun i _ => rfl) (by omega) (by rw [sCats_sum, hcat]; omega) hd (fun H1 locs1 hP1 hD1 hS1 => ?_)
  · rw [c1, c2, c3] at hP1
    have e9 : va_cpy (fun i => Int32.ofInt (I a0 i)) (fun i => Int32.ofInt (I a i)) sp.toNat dp.toNat n.toNat = fun i => Int32.ofInt (cpy2 I a0 a sp.toNat dp.toNat n.toNat a i) := by
      funext i
      unfold va_cpy cpy2
      rw [if_pos rfl]
      by_cases h : dp.toNat ≤ i ∧ i < dp.toNat + n.toNat
      · rw [if_pos h, if_pos h]
      · rw [if_neg h, if_neg h]
    rw [e9, ← scell_i (g := g) (L := L) (R := R) (n := n1) (k := 10) (I := cpy2 I a0 a sp.toNat dp.toNat n.toNat) (by omega), sws_set hT ha (fun y hy => ⟨cpy2_ne hy, rfl, rfl⟩)] at hP1
    have h3 := hH.2.1
    refine W_sz (n := H.size) (by have := sws_low hP1 (by omega); omega) hc.2 (fun hz => ?_)
    exact kk p e Rm s m args below meth c0 H1 locs1 cells slots lR X ⟨sXt_put hH.1 (fun y h => cpy2_ne (by omega)) (fun y h => rfl), by rw [hz]; exact hH.2.1, hP1⟩ hS1 ⟨hc.1, by rw [hz]; exact hc.2⟩ hs hl
theorem r_acpl {idx a0 a n0 n1 : Nat} {sp dp n : Int} (hd : sD M.2.1 pc 3 pc' (.invokestatic idx)) (hw : Cond.methodLink M.1.cls idx arraycopyName ∈ sTb ∧ Cond.native arraycopyName ∈ sTb ∧ Cond.static arraycopyName ∈ sTb ∧ Cond.initialized "java/lang/System" ∈ sTb) (hdp : 1 ≤ d) (hcat : sCats st = 0) (hT0 : T[a0]? = some (11, n0)) (h30 : 3 ≤ a0) (hT : T[a]? = some (11, n1)) (ha : 3 ≤ a) (h1 : 0 ≤ sp ∧ 0 ≤ dp ∧ 0 ≤ n) (h2 : sp + n ≤ n0 ∧ dp + n ≤ n1) (h3 : n0 ≤ 65536 ∧ n1 ≤ 65536) (kk : Cp g d M mc ms Q pc' ls st T I (cpy2 L a0 a sp.toNat dp.toNat n.toNat) R) : Cp g d M mc ms Q pc ls (vi n :: vi dp :: vr a :: vi sp :: vr a0 :: st) T I L R := by
  intro p e Rm s m args below meth c0 H locs cells slots lR X hH hS hc hs hl
  obtain ⟨hd, rfl⟩ := hd
  have hts := X.2.2.2.2.2.1
  have hf := X.2.2.2.2.2.2.2.2.2.1
  have hlo := X.2.2.2.2.2.2.2.2.2.2
  have hal : a < T.length := (List.getElem?_eq_some_iff.mp hT).1
  have he := sws_get (g := g) (I := I) (L := L) (R := R) hT ha
  rw [scell_l] at he
  have he0 := sws_get (g := g) (I := I) (L := L) (R := R) hT0 h30
  rw [scell_l] at he0
  have hng : ∀ z : Int, 0 ≤ z ∧ z ≤ 65536 → ¬ Int32.ofInt z < 0 := fun z hz h => by
    have h3 : Int32.ofInt z < Int32.ofInt 0 := h
    rw [r32_lt (by omega) (by omega)] at h3
    omega
  have hcl : ∀ z : Int, 0 ≤ z ∧ z ≤ 65536 → (Int32.ofInt z).toNatClampNeg = z.toNat := fun z hz => Int32.toNatClampNeg_ofInt_of_le (by omega) (by omega)
  have c1 := hcl sp (by omega)
  have c2 := hcl dp (by omega)
  have c3 := hcl n (by omega)
  have g1 := hng sp (by omega)
  have g2 := hng dp (by omega)
  have g3 := hng n (by omega)
  have hnw : nativeFrameWords "java/lang/System" "arraycopy" 5 + 11 ≤ 64 := by decide
  refine va_copyl (sp := Int32.ofInt sp) (dp := Int32.ofInt dp) (n := Int32.ofInt n) X.1 X.2.1 (X.2.2.2.1.trans hl.1.symm) X.2.2.2.2.1 (hts _ hw.1) (hts _ hw.2.1) (hts _ hw.2.2.1) (hts _ hw.2.2.2) X.2.2.2.2.2.2.2.2.1.1 hH.2.2 sws_D hS (a0 - 3) (a - 3) 1 1 he0 he rfl rfl rfl g1 g2 g3 (by rw [c1, c3]; omega) (by rw [c2, c3]; omega) (fun i _ => rfl) (by omega) (by rw [sCats_sum, hcat]; omega) hd (fun H1 locs1 hP1 hD1 hS1 => ?_)
  · rw [c1, c2, c3] at hP1
    have e9 : va_cpy (fun i => Int64.ofInt (L a0 i)) (fun i => Int64.ofInt (L a i)) sp.toNat dp.toNat n.toNat = fun i => Int64.ofInt (cpy2 L a0 a sp.toNat dp.toNat n.toNat a i) := by
      funext i
      unfold va_cpy cpy2
      rw [if_pos rfl]
      by_cases h : dp.toNat ≤ i ∧ i < dp.toNat + n.toNat
      · rw [if_pos h, if_pos h]
      · rw [if_neg h, if_neg h]
    rw [e9, ← scell_l (g := g) (I := I) (R := R) (n := n1) (L := cpy2 L a0 a sp.toNat dp.toNat n.toNat), sws_set hT ha (fun y hy => ⟨rfl, cpy2_ne hy, rfl⟩)] at hP1
    have h3 := hH.2.1
    refine W_sz (n := H.size) (by have := sws_low hP1 (by omega); omega) hc.2 (fun hz => ?_)
    exact kk p e Rm s m args below meth c0 H1 locs1 cells slots lR X ⟨sXt_put hH.1 (fun y h => rfl) (fun y h => cpy2_ne (by omega)), by rw [hz]; exact hH.2.1, hP1⟩ hS1 ⟨hc.1, by rw [hz]; exact hc.2⟩ hs hl
theorem r_getsA {idx : Nat} (hd : sD M.2.1 pc 3 pc' (.getstatic idx)) (hw : Cond.fieldLink M.1.cls idx "RoomsByThree" "AS_NUMBERED" "[I" ∈ sTb ∨ ∃ host, Cond.fieldLinkNest M.1.cls idx "RoomsByThree" "AS_NUMBERED" "[I" host ∈ sEx) (kk : Cp g d M mc ms Q pc' ls (vr 1 :: st) T I L R) : Cp g d M mc ms Q pc ls st T I L R := by
  intro p e Rm s m args below meth c0 H locs cells slots lR X hH hS hc hs hl
  obtain ⟨hd, rfl⟩ := hd
  have hts := X.2.2.2.2.2.1
  rcases hw with hw | ⟨host, hw⟩
  · exact va_gets X.1 X.2.1 X.2.2.2.2.2.2.2.2.1.2.2.2.2.1 hS X.2.2.2.2.1 (hts _ hw) (fun _ h9 => h9) hd (kk p e Rm s m args below meth c0 H locs cells slots lR X hH hS hc hs hl)
  · exact va_getsN X.1 X.2.1 X.2.2.2.2.2.2.2.2.1.2.2.2.2.1 hS X.2.2.2.2.1 (va_Nw.use rfl (X.2.2.2.2.2.2.2.2.1.2.2.2.2.2.2.1 _ hw)) (fun _ h9 => h9) hd (kk p e Rm s m args below meth c0 H locs cells slots lR X hH hS hc hs hl)
theorem r_getsR {idx : Nat} (hd : sD M.2.1 pc 3 pc' (.getstatic idx)) (hw : Cond.fieldLink M.1.cls idx "RoomsByThree$Keys" "RANK_OF_GUEST" "[J" ∈ sTb) (kk : Cp g d M mc ms Q pc' ls (vr 2 :: st) T I L R) : Cp g d M mc ms Q pc ls st T I L R := by
  intro p e Rm s m args below meth c0 H locs cells slots lR X hH hS hc hs hl
  obtain ⟨hd, rfl⟩ := hd
  have hts := X.2.2.2.2.2.1
  exact va_gets X.1 X.2.1 X.2.2.2.2.2.2.2.2.1.2.2.2.2.2.1 hS X.2.2.2.2.1 (hts _ hw) (fun _ h9 => h9) hd (kk p e Rm s m args below meth c0 H locs cells slots lR X hH hS hc hs hl)
def sSw (b : ByteArray) (pc : Nat) (lo hi : Int) (dt : Nat) (tg : List Nat) : Prop := ∃ (dflt : Int) (offs : Array Int) (len : Nat), decode b pc = .ok (.tableswitch dflt lo hi offs, len) ∧ (pc : Int) + dflt = (dt : Int) ∧ hi - lo < tg.length ∧ ∀ i, i < tg.length → ∃ off, offs[i]? = some off ∧ (pc : Int) + off = (tg.getD i 0 : Nat)
theorem r_sw {x lo hi : Int} {dt : Nat} {tg : List Nat} (hd : sSw M.2.1 pc lo hi dt tg) (hx : -2147483648 ≤ x ∧ x ≤ 2147483647) (kin : lo ≤ x → x ≤ hi → Cp g d M mc ms Q (tg.getD (x - lo).toNat 0) ls st T I L R) (kout : x < lo ∨ hi < x → Cp g d M mc ms Q dt ls st T I L R) : Cp g d M mc ms Q pc ls (vi x :: st) T I L R := by
  intro p e Rm s m args below meth c0 H locs cells slots lR X hH hS hc hs hl
  obtain ⟨dflt, offs, len, hd, h1, h2, h3⟩ := hd
  have hxi : (Int32.ofInt x).toInt = x := Int32.toInt_ofInt_of_le (by omega) (by omega)
  by_cases h : x < lo ∨ hi < x
  · exact lv_tableOut X.1 X.2.1 hd (by rw [hxi]; exact h) h1 (kout h p e Rm s m args below meth c0 H locs cells slots lR X hH hS hc hs hl)
  · have ha : ¬ x < lo := fun q => h (Or.inl q)
    have hb : ¬ hi < x := fun q => h (Or.inr q)
    obtain ⟨off, o1, o2⟩ := h3 (x - lo).toNat (by omega)
    exact lv_tableIn X.1 X.2.1 hd (by rw [hxi]; exact ha) (by rw [hxi]; exact hb) (by rw [hxi]; exact o1) o2 (kin (by omega) (by omega) p e Rm s m args below meth c0 H locs cells slots lR X hH hS hc hs hl)
end SO
section SCA
variable {g : sG} {d d2 : Nat} {M M2 : sM} {mc ms mc2 ms2 : Nat} {Q : sQ} {pc pc' idx : Nat} {ls : List (Nat × sV)} {st : List sV} {T : sT} {I L : sI} {R : sR}
theorem r_V0i {a c n2 : Nat} {q : vw_C} {P : Int → sT → sI → sI → sR → Prop} (hd : sD M.2.1 pc 3 pc' (.invokevirtual idx)) (hw : sV_ M idx M2 0) (hT : T[a]? = some (c, n2)) (hq : vwCl[c]? = some q) (hqc : q.1 = M2.1.cls) (hM : Mc g d2 M2 mc2 ms2 [vr a] T I L R (qI P)) (hdep : d2 + 1 ≤ d) (hcat : sCats st ≤ 8) (k : ∀ (z : Int) (T' : sT) (I' L' : sI) (R' : sR), P z T' I' L' R' → Cp g d M mc ms Q pc' ls (vi z :: st) T' I' L' R') : Cp g d M (mc + mc2) (ms + ms2) Q pc ls (vr a :: st) T I L R :=
  r_V (as := []) hd hw rfl hT hq hqc hM hdep hcat (fun v T' I' L' R' h => by obtain ⟨z, rfl, h⟩ := h; exact k z T' I' L' R' h)
theorem r_V0l {a c n2 : Nat} {q : vw_C} {P : Int → sT → sI → sI → sR → Prop} (hd : sD M.2.1 pc 3 pc' (.invokevirtual idx)) (hw : sV_ M idx M2 0) (hT : T[a]? = some (c, n2)) (hq : vwCl[c]? = some q) (hqc : q.1 = M2.1.cls) (hM : Mc g d2 M2 mc2 ms2 [vr a] T I L R (qL P)) (hdep : d2 + 1 ≤ d) (hcat : sCats st ≤ 8) (k : ∀ (z : Int) (T' : sT) (I' L' : sI) (R' : sR), P z T' I' L' R' → Cp g d M mc ms Q pc' ls (vl z :: st) T' I' L' R') : Cp g d M (mc + mc2) (ms + ms2) Q pc ls (vr a :: st) T I L R :=
  r_V (as := []) hd hw rfl hT hq hqc hM hdep hcat (fun v T' I' L' R' h => by obtain ⟨z, rfl, h⟩ := h; exact k z T' I' L' R' h)
theorem r_V0r {a c n2 : Nat} {q : vw_C} {P : Nat → sT → sI → sI → sR → Prop} (hd : sD M.2.1 pc 3 pc' (.invokevirtual idx)) (hw : sV_ M idx M2 0) (hT : T[a]? = some (c, n2)) (hq : vwCl[c]? = some q) (hqc : q.1 = M2.1.cls) (hM : Mc g d2 M2 mc2 ms2 [vr a] T I L R (qR P)) (hdep : d2 + 1 ≤ d) (hcat : sCats st ≤ 8) (k : ∀ (z : Nat) (T' : sT) (I' L' : sI) (R' : sR), P z T' I' L' R' → Cp g d M mc ms Q pc' ls (vr z :: st) T' I' L' R') : Cp g d M (mc + mc2) (ms + ms2) Q pc ls (vr a :: st) T I L R :=
  r_V (as := []) hd hw rfl hT hq hqc hM hdep hcat (fun v T' I' L' R' h => by obtain ⟨z, rfl, h⟩ := h; exact k z T' I' L' R' h)
theorem r_V0v {a c n2 : Nat} {q : vw_C} {P : sT → sI → sI → sR → Prop} (hd : sD M.2.1 pc 3 pc' (.invokevirtual idx)) (hw : sV_ M idx M2 0) (hT : T[a]? = some (c, n2)) (hq : vwCl[c]? = some q) (hqc : q.1 = M2.1.cls) (hM : Mc g d2 M2 mc2 ms2 [vr a] T I L R (qV P)) (hdep : d2 + 1 ≤ d) (hcat : sCats st ≤ 8) (k : ∀ (T' : sT) (I' L' : sI) (R' : sR), P T' I' L' R' → Cp g d M mc ms Q pc' ls (st) T' I' L' R') : Cp g d M (mc + mc2) (ms + ms2) Q pc ls (vr a :: st) T I L R :=
  r_V (as := []) hd hw rfl hT hq hqc hM hdep hcat (fun v T' I' L' R' h => by obtain ⟨rfl, h⟩ := h; exact k T' I' L' R' h)
theorem r_V1i {a c n2 : Nat} {v1 : sV} {q : vw_C} {P : Int → sT → sI → sI → sR → Prop} (hd : sD M.2.1 pc 3 pc' (.invokevirtual idx)) (hw : sV_ M idx M2 1) (hT : T[a]? = some (c, n2)) (hq : vwCl[c]? = some q) (hqc : q.1 = M2.1.cls) (hM : Mc g d2 M2 mc2 ms2 [vr a, v1] T I L R (qI P)) (hdep : d2 + 1 ≤ d) (hcat : sCats st ≤ 8) (k : ∀ (z : Int) (T' : sT) (I' L' : sI) (R' : sR), P z T' I' L' R' → Cp g d M mc ms Q pc' ls (vi z :: st) T' I' L' R') : Cp g d M (mc + mc2) (ms + ms2) Q pc ls (v1 :: vr a :: st) T I L R :=
  r_V (as := [v1]) hd hw rfl hT hq hqc hM hdep hcat (fun v T' I' L' R' h => by obtain ⟨z, rfl, h⟩ := h; exact k z T' I' L' R' h)
theorem r_V1l {a c n2 : Nat} {v1 : sV} {q : vw_C} {P : Int → sT → sI → sI → sR → Prop} (hd : sD M.2.1 pc 3 pc' (.invokevirtual idx)) (hw : sV_ M idx M2 1) (hT : T[a]? = some (c, n2)) (hq : vwCl[c]? = some q) (hqc : q.1 = M2.1.cls) (hM : Mc g d2 M2 mc2 ms2 [vr a, v1] T I L R (qL P)) (hdep : d2 + 1 ≤ d) (hcat : sCats st ≤ 8) (k : ∀ (z : Int) (T' : sT) (I' L' : sI) (R' : sR), P z T' I' L' R' → Cp g d M mc ms Q pc' ls (vl z :: st) T' I' L' R') : Cp g d M (mc + mc2) (ms + ms2) Q pc ls (v1 :: vr a :: st) T I L R :=
  r_V (as := [v1]) hd hw rfl hT hq hqc hM hdep hcat (fun v T' I' L' R' h => by obtain ⟨z, rfl, h⟩ := h; exact k z T' I' L' R' h)
theorem r_V1r {a c n2 : Nat} {v1 : sV} {q : vw_C} {P : Nat → sT → sI → sI → sR → Prop} (hd : sD M.2.1 pc 3 pc' (.invokevirtual idx)) (hw : sV_ M idx M2 1) (hT : T[a]? = some (c, n2)) (hq : vwCl[c]? = some q) (hqc : q.1 = M2.1.cls) (hM : Mc g d2 M2 mc2 ms2 [vr a, v1] T I L R (qR P)) (hdep : d2 + 1 ≤ d) (hcat : sCats st ≤ 8) (k : ∀ (z : Nat) (T' : sT) (I' L' : sI) (R' : sR), P z T' I' L' R' → Cp g d M mc ms Q pc' ls (vr z :: st) T' I' L' R') : Cp g d M (mc + mc2) (ms + ms2) Q pc ls (v1 :: vr a :: st) T I L R :=
  r_V (as := [v1]) hd hw rfl hT hq hqc hM hdep hcat (fun v T' I' L' R' h => by obtain ⟨z, rfl, h⟩ := h; exact k z T' I' L' R' h)
theorem r_V1v {a c n2 : Nat} {v1 : sV} {q : vw_C} {P : sT → sI → sI → sR → Prop} (hd : sD M.2.1 pc 3 pc' (.invokevirtual idx)) (hw : sV_ M idx M2 1) (hT : T[a]? = some (c, n2)) (hq : vwCl[c]? = some q) (hqc : q.1 = M2.1.cls) (hM : Mc g d2 M2 mc2 ms2 [vr a, v1] T I L R (qV P)) (hdep : d2 + 1 ≤ d) (hcat : sCats st ≤ 8) (k : ∀ (T' : sT) (I' L' : sI) (R' : sR), P T' I' L' R' → Cp g d M mc ms Q pc' ls (st) T' I' L' R') : Cp g d M (mc + mc2) (ms + ms2) Q pc ls (v1 :: vr a :: st) T I L R :=
  r_V (as := [v1]) hd hw rfl hT hq hqc hM hdep hcat (fun v T' I' L' R' h => by obtain ⟨rfl, h⟩ := h; exact k T' I' L' R' h)
theorem r_V2i {a c n2 : Nat} {v1 v2 : sV} {q : vw_C} {P : Int → sT → sI → sI → sR → Prop} (hd : sD M.2.1 pc 3 pc' (.invokevirtual idx)) (hw : sV_ M idx M2 2) (hT : T[a]? = some (c, n2)) (hq : vwCl[c]? = some q) (hqc : q.1 = M2.1.cls) (hM : Mc g d2 M2 mc2 ms2 [vr a, v1, v2] T I L R (qI P)) (hdep : d2 + 1 ≤ d) (hcat : sCats st ≤ 8) (k : ∀ (z : Int) (T' : sT) (I' L' : sI) (R' : sR), P z T' I' L' R' → Cp g d M mc ms Q pc' ls (vi z :: st) T' I' L' R') : Cp g d M (mc + mc2) (ms + ms2) Q pc ls (v2 :: v1 :: vr a :: st) T I L R :=
  r_V (as := [v1, v2]) hd hw rfl hT hq hqc hM hdep hcat (fun v T' I' L' R' h => by obtain ⟨z, rfl, h⟩ := h; exact k z T' I' L' R' h)
theorem r_V2l {a c n2 : Nat} {v1 v2 : sV} {q : vw_C} {P : Int → sT → sI → sI → sR → Prop} (hd : sD M.2.1 pc 3 pc' (.invokevirtual idx)) (hw : sV_ M idx M2 2) (hT : T[a]? = some (c, n2)) (hq : vwCl[c]? = some q) (hqc : q.1 = M2.1.cls) (hM : Mc g d2 M2 mc2 ms2 [vr a, v1, v2] T I L R (qL P)) (hdep : d2 + 1 ≤ d) (hcat : sCats st ≤ 8) (k : ∀ (z : Int) (T' : sT) (I' L' : sI) (R' : sR), P z T' I' L' R' → Cp g d M mc ms Q pc' ls (vl z :: st) T' I' L' R') : Cp g d M (mc + mc2) (ms + ms2) Q pc ls (v2 :: v1 :: vr a :: st) T I L R :=
  r_V (as := [v1, v2]) hd hw rfl hT hq hqc hM hdep hcat (fun v T' I' L' R' h => by obtain ⟨z, rfl, h⟩ := h; exact k z T' I' L' R' h)
theorem r_V2r {a c n2 : Nat} {v1 v2 : sV} {q : vw_C} {P : Nat → sT → sI → sI → sR → Prop} (hd : sD M.2.1 pc 3 pc' (.invokevirtual idx)) (hw : sV_ M idx M2 2) (hT : T[a]? = some (c, n2)) (hq : vwCl[c]? = some q) (hqc : q.1 = M2.1.cls) (hM : Mc g d2 M2 mc2 ms2 [vr a, v1, v2] T I L R (qR P)) (hdep : d2 + 1 ≤ d) (hcat : sCats st ≤ 8) (k : ∀ (z : Nat) (T' : sT) (I' L' : sI) (R' : sR), P z T' I' L' R' → Cp g d M mc ms Q pc' ls (vr z :: st) T' I' L' R') : Cp g d M (mc + mc2) (ms + ms2) Q pc ls (v2 :: v1 :: vr a :: st) T I L R :=
  r_V (as := [v1, v2]) hd hw rfl hT hq hqc hM hdep hcat (fun v T' I' L' R' h => by obtain ⟨z, rfl, h⟩ := h; exact k z T' I' L' R' h)
theorem r_V2v {a c n2 : Nat} {v1 v2 : sV} {q : vw_C} {P : sT → sI → sI → sR → Prop} (hd : sD M.2.1 pc 3 pc' (.invokevirtual idx)) (hw : sV_ M idx M2 2) (hT : T[a]? = some (c, n2)) (hq : vwCl[c]? = some q) (hqc : q.1 = M2.1.cls) (hM : Mc g d2 M2 mc2 ms2 [vr a, v1, v2] T I L R (qV P)) (hdep : d2 + 1 ≤ d) (hcat : sCats st ≤ 8) (k : ∀ (T' : sT) (I' L' : sI) (R' : sR), P T' I' L' R' → Cp g d M mc ms Q pc' ls (st) T' I' L' R') : Cp g d M (mc + mc2) (ms + ms2) Q pc ls (v2 :: v1 :: vr a :: st) T I L R :=
  r_V (as := [v1, v2]) hd hw rfl hT hq hqc hM hdep hcat (fun v T' I' L' R' h => by obtain ⟨rfl, h⟩ := h; exact k T' I' L' R' h)
theorem r_V3i {a c n2 : Nat} {v1 v2 v3 : sV} {q : vw_C} {P : Int → sT → sI → sI → sR → Prop} (hd : sD M.2.1 pc 3 pc' (.invokevirtual idx)) (hw : sV_ M idx M2 3) (hT : T[a]? = some (c, n2)) (hq : vwCl[c]? = some q) (hqc : q.1 = M2.1.cls) (hM : Mc g d2 M2 mc2 ms2 [vr a, v1, v2, v3] T I L R (qI P)) (hdep : d2 + 1 ≤ d) (hcat : sCats st ≤ 8) (k : ∀ (z : Int) (T' : sT) (I' L' : sI) (R' : sR), P z T' I' L' R' → Cp g d M mc ms Q pc' ls (vi z :: st) T' I' L' R') : Cp g d M (mc + mc2) (ms + ms2) Q pc ls (v3 :: v2 :: v1 :: vr a :: st) T I L R :=
  r_V (as := [v1, v2, v3]) hd hw rfl hT hq hqc hM hdep hcat (fun v T' I' L' R' h => by obtain ⟨z, rfl, h⟩ := h; exact k z T' I' L' R' h)
theorem r_V3l {a c n2 : Nat} {v1 v2 v3 : sV} {q : vw_C} {P : Int → sT → sI → sI → sR → Prop} (hd : sD M.2.1 pc 3 pc' (.invokevirtual idx)) (hw : sV_ M idx M2 3) (hT : T[a]? = some (c, n2)) (hq : vwCl[c]? = some q) (hqc : q.1 = M2.1.cls) (hM : Mc g d2 M2 mc2 ms2 [vr a, v1, v2, v3] T I L R (qL P)) (hdep : d2 + 1 ≤ d) (hcat : sCats st ≤ 8) (k : ∀ (z : Int) (T' : sT) (I' L' : sI) (R' : sR), P z T' I' L' R' → Cp g d M mc ms Q pc' ls (vl z :: st) T' I' L' R') : Cp g d M (mc + mc2) (ms + ms2) Q pc ls (v3 :: v2 :: v1 :: vr a :: st) T I L R :=
  r_V (as := [v1, v2, v3]) hd hw rfl hT hq hqc hM hdep hcat (fun v T' I' L' R' h => by obtain ⟨z, rfl, h⟩ := h; exact k z T' I' L' R' h)
theorem r_V3r {a c n2 : Nat} {v1 v2 v3 : sV} {q : vw_C} {P : Nat → sT → sI → sI → sR → Prop} (hd : sD M.2.1 pc 3 pc' (.invokevirtual idx)) (hw : sV_ M idx M2 3) (hT : T[a]? = some (c, n2)) (hq : vwCl[c]? = some q) (hqc : q.1 = M2.1.cls) (hM : Mc g d2 M2 mc2 ms2 [vr a, v1, v2, v3] T I L R (qR P)) (hdep : d2 + 1 ≤ d) (hcat : sCats st ≤ 8) (k : ∀ (z : Nat) (T' : sT) (I' L' : sI) (R' : sR), P z T' I' L' R' → Cp g d M mc ms Q pc' ls (vr z :: st) T' I' L' R') : Cp g d M (mc + mc2) (ms + ms2) Q pc ls (v3 :: v2 :: v1 :: vr a :: st) T I L R :=
  r_V (as := [v1, v2, v3]) hd hw rfl hT hq hqc hM hdep hcat (fun v T' I' L' R' h => by obtain ⟨z, rfl, h⟩ := h; exact k z T' I' L' R' h)
theorem r_V3v {a c n2 : Nat} {v1 v2 v3 : sV} {q : vw_C} {P : sT → sI → sI → sR → Prop} (hd : sD M.2.1 pc 3 pc' (.invokevirtual idx)) (hw : sV_ M idx M2 3) (hT : T[a]? = some (c, n2)) (hq : vwCl[c]? = some q) (hqc : q.1 = M2.1.cls) (hM : Mc g d2 M2 mc2 ms2 [vr a, v1, v2, v3] T I L R (qV P)) (hdep : d2 + 1 ≤ d) (hcat : sCats st ≤ 8) (k : ∀ (T' : sT) (I' L' : sI) (R' : sR), P T' I' L' R' → Cp g d M mc ms Q pc' ls (st) T' I' L' R') : Cp g d M (mc + mc2) (ms + ms2) Q pc ls (v3 :: v2 :: v1 :: vr a :: st) T I L R :=
  r_V (as := [v1, v2, v3]) hd hw rfl hT hq hqc hM hdep hcat (fun v T' I' L' R' h => by obtain ⟨rfl, h⟩ := h; exact k T' I' L' R' h)
theorem r_V4i {a c n2 : Nat} {v1 v2 v3 v4 : sV} {q : vw_C} {P : Int → sT → sI → sI → sR → Prop} (hd : sD M.2.1 pc 3 pc' (.invokevirtual idx)) (hw : sV_ M idx M2 4) (hT : T[a]? = some (c, n2)) (hq : vwCl[c]? = some q) (hqc : q.1 = M2.1.cls) (hM : Mc g d2 M2 mc2 ms2 [vr a, v1, v2, v3, v4] T I L R (qI P)) (hdep : d2 + 1 ≤ d) (hcat : sCats st ≤ 8) (k : ∀ (z : Int) (T' : sT) (I' L' : sI) (R' : sR), P z T' I' L' R' → Cp g d M mc ms Q pc' ls (vi z :: st) T' I' L' R') : Cp g d M (mc + mc2) (ms + ms2) Q pc ls (v4 :: v3 :: v2 :: v1 :: vr a :: st) T I L R :=
  r_V (as := [v1, v2, v3, v4]) hd hw rfl hT hq hqc hM hdep hcat (fun v T' I' L' R' h => by obtain ⟨z, rfl, h⟩ := h; exact k z T' I' L' R' h)
theorem r_V4l {a c n2 : Nat} {v1 v2 v3 v4 : sV} {q : vw_C} {P : Int → sT → sI → sI → sR → Prop} (hd : sD M.2.1 pc 3 pc' (.invokevirtual idx)) (hw : sV_ M idx M2 4) (hT : T[a]? = some (c, n2)) (hq : vwCl[c]? = some q) (hqc : q.1 = M2.1.cls) (hM : Mc g d2 M2 mc2 ms2 [vr a, v1, v2, v3, v4] T I L R (qL P)) (hdep : d2 + 1 ≤ d) (hcat : sCats st ≤ 8) (k : ∀ (z : Int) (T' : sT) (I' L' : sI) (R' : sR), P z T' I' L' R' → Cp g d M mc ms Q pc' ls (vl z :: st) T' I' L' R') : Cp g d M (mc + mc2) (ms + ms2) Q pc ls (v4 :: v3 :: v2 :: v1 :: vr a :: st) T I L R :=
  r_V (as := [v1, v2, v3, v4]) hd hw rfl hT hq hqc hM hdep hcat (fun v T' I' L' R' h => by obtain ⟨z, rfl, h⟩ := h; exact k z T' I' L' R' h)
theorem r_V4r {a c n2 : Nat} {v1 v2 v3 v4 : sV} {q : vw_C} {P : Nat → sT → sI → sI → sR → Prop} (hd : sD M.2.1 pc 3 pc' (.invokevirtual idx)) (hw : sV_ M idx M2 4) (hT : T[a]? = some (c, n2)) (hq : vwCl[c]? = some q) (hqc : q.1 = M2.1.cls) (hM : Mc g d2 M2 mc2 ms2 [vr a, v1, v2, v3, v4] T I L R (qR P)) (hdep : d2 + 1 ≤ d) (hcat : sCats st ≤ 8) (k : ∀ (z : Nat) (T' : sT) (I' L' : sI) (R' : sR), P z T' I' L' R' → Cp g d M mc ms Q pc' ls (vr z :: st) T' I' L' R') : Cp g d M (mc + mc2) (ms + ms2) Q pc ls (v4 :: v3 :: v2 :: v1 :: vr a :: st) T I L R :=
  r_V (as := [v1, v2, v3, v4]) hd hw rfl hT hq hqc hM hdep hcat (fun v T' I' L' R' h => by obtain ⟨z, rfl, h⟩ := h; exact k z T' I' L' R' h)
theorem r_V4v {a c n2 : Nat} {v1 v2 v3 v4 : sV} {q : vw_C} {P : sT → sI → sI → sR → Prop} (hd : sD M.2.1 pc 3 pc' (.invokevirtual idx)) (hw : sV_ M idx M2 4) (hT : T[a]? = some (c, n2)) (hq : vwCl[c]? = some q) (hqc : q.1 = M2.1.cls) (hM : Mc g d2 M2 mc2 ms2 [vr a, v1, v2, v3, v4] T I L R (qV P)) (hdep : d2 + 1 ≤ d) (hcat : sCats st ≤ 8) (k : ∀ (T' : sT) (I' L' : sI) (R' : sR), P T' I' L' R' → Cp g d M mc ms Q pc' ls (st) T' I' L' R') : Cp g d M (mc + mc2) (ms + ms2) Q pc ls (v4 :: v3 :: v2 :: v1 :: vr a :: st) T I L R :=
  r_V (as := [v1, v2, v3, v4]) hd hw rfl hT hq hqc hM hdep hcat (fun v T' I' L' R' h => by obtain ⟨rfl, h⟩ := h; exact k T' I' L' R' h)
theorem r_V5i {a c n2 : Nat} {v1 v2 v3 v4 v5 : sV} {q : vw_C} {P : Int → sT → sI → sI → sR → Prop} (hd : sD M.2.1 pc 3 pc' (.invokevirtual idx)) (hw : sV_ M idx M2 5) (hT : T[a]? = some (c, n2)) (hq : vwCl[c]? = some q) (hqc : q.1 = M2.1.cls) (hM : Mc g d2 M2 mc2 ms2 [vr a, v1, v2, v3, v4, v5] T I L R (qI P)) (hdep : d2 + 1 ≤ d) (hcat : sCats st ≤ 8) (k : ∀ (z : Int) (T' : sT) (I' L' : sI) (R' : sR), P z T' I' L' R' → Cp g d M mc ms Q pc' ls (vi z :: st) T' I' L' R') : Cp g d M (mc + mc2) (ms + ms2) Q pc ls (v5 :: v4 :: v3 :: v2 :: v1 :: vr a :: st) T I L R :=
  r_V (as := [v1, v2, v3, v4, v5]) hd hw rfl hT hq hqc hM hdep hcat (fun v T' I' L' R' h => by obtain ⟨z, rfl, h⟩ := h; exact k z T' I' L' R' h)
theorem r_V5l {a c n2 : Nat} {v1 v2 v3 v4 v5 : sV} {q : vw_C} {P : Int → sT → sI → sI → sR → Prop} (hd : sD M.2.1 pc 3 pc' (.invokevirtual idx)) (hw : sV_ M idx M2 5) (hT : T[a]? = some (c, n2)) (hq : vwCl[c]? = some q) (hqc : q.1 = M2.1.cls) (hM : Mc g d2 M2 mc2 ms2 [vr a, v1, v2, v3, v4, v5] T I L R (qL P)) (hdep : d2 + 1 ≤ d) (hcat : sCats st ≤ 8) (k : ∀ (z : Int) (T' : sT) (I' L' : sI) (R' : sR), P z T' I' L' R' → Cp g d M mc ms Q pc' ls (vl z :: st) T' I' L' R') : Cp g d M (mc + mc2) (ms + ms2) Q pc ls (v5 :: v4 :: v3 :: v2 :: v1 :: vr a :: st) T I L R :=
  r_V (as := [v1, v2, v3, v4, v5]) hd hw rfl hT hq hqc hM hdep hcat (fun v T' I' L' R' h => by obtain ⟨z, rfl, h⟩ := h; exact k z T' I' L' R' h)
theorem r_V5r {a c n2 : Nat} {v1 v2 v3 v4 v5 : sV} {q : vw_C} {P : Nat → sT → sI → sI → sR → Prop} (hd : sD M.2.1 pc 3 pc' (.invokevirtual idx)) (hw : sV_ M idx M2 5) (hT : T[a]? = some (c, n2)) (hq : vwCl[c]? = some q) (hqc : q.1 = M2.1.cls) (hM : Mc g d2 M2 mc2 ms2 [vr a, v1, v2, v3, v4, v5] T I L R (qR P)) (hdep : d2 + 1 ≤ d) (hcat : sCats st ≤ 8) (k : ∀ (z : Nat) (T' : sT) (I' L' : sI) (R' : sR), P z T' I' L' R' → Cp g d M mc ms Q pc' ls (vr z :: st) T' I' L' R') : Cp g d M (mc + mc2) (ms + ms2) Q pc ls (v5 :: v4 :: v3 :: v2 :: v1 :: vr a :: st) T I L R :=
  r_V (as := [v1, v2, v3, v4, v5]) hd hw rfl hT hq hqc hM hdep hcat (fun v T' I' L' R' h => by obtain ⟨z, rfl, h⟩ := h; exact k z T' I' L' R' h)
theorem r_V5v {a c n2 : Nat} {v1 v2 v3 v4 v5 : sV} {q : vw_C} {P : sT → sI → sI → sR → Prop} (hd : sD M.2.1 pc 3 pc' (.invokevirtual idx)) (hw : sV_ M idx M2 5) (hT : T[a]? = some (c, n2)) (hq : vwCl[c]? = some q) (hqc : q.1 = M2.1.cls) (hM : Mc g d2 M2 mc2 ms2 [vr a, v1, v2, v3, v4, v5] T I L R (qV P)) (hdep : d2 + 1 ≤ d) (hcat : sCats st ≤ 8) (k : ∀ (T' : sT) (I' L' : sI) (R' : sR), P T' I' L' R' → Cp g d M mc ms Q pc' ls (st) T' I' L' R') : Cp g d M (mc + mc2) (ms + ms2) Q pc ls (v5 :: v4 :: v3 :: v2 :: v1 :: vr a :: st) T I L R :=
  r_V (as := [v1, v2, v3, v4, v5]) hd hw rfl hT hq hqc hM hdep hcat (fun v T' I' L' R' h => by obtain ⟨rfl, h⟩ := h; exact k T' I' L' R' h)
theorem r_S0i {P : Int → sT → sI → sI → sR → Prop} (hd : sD M.2.1 pc 3 pc' (.invokestatic idx)) (hw : sS_ M idx M2 0) (hM : Mc g d2 M2 mc2 ms2 [] T I L R (qI P)) (hdep : d2 + 1 ≤ d) (hcat : sCats st ≤ 8) (k : ∀ (z : Int) (T' : sT) (I' L' : sI) (R' : sR), P z T' I' L' R' → Cp g d M mc ms Q pc' ls (vi z :: st) T' I' L' R') : Cp g d M (mc + mc2) (ms + ms2) Q pc ls (st) T I L R :=
  r_S (as := []) hd hw rfl hM hdep hcat (fun v T' I' L' R' h => by obtain ⟨z, rfl, h⟩ := h; exact k z T' I' L' R' h)
theorem r_S0l {P : Int → sT → sI → sI → sR → Prop} (hd : sD M.2.1 pc 3 pc' (.invokestatic idx)) (hw : sS_ M idx M2 0) (hM : Mc g d2 M2 mc2 ms2 [] T I L R (qL P)) (hdep : d2 + 1 ≤ d) (hcat : sCats st ≤ 8) (k : ∀ (z : Int) (T' : sT) (I' L' : sI) (R' : sR), P z T' I' L' R' → Cp g d M mc ms Q pc' ls (vl z :: st) T' I' L' R') : Cp g d M (mc + mc2) (ms + ms2) Q pc ls (st) T I L R :=
  r_S (as := []) hd hw rfl hM hdep hcat (fun v T' I' L' R' h => by obtain ⟨z, rfl, h⟩ := h; exact k z T' I' L' R' h)
theorem r_S0r {P : Nat → sT → sI → sI → sR → Prop} (hd : sD M.2.1 pc 3 pc' (.invokestatic idx)) (hw : sS_ M idx M2 0) (hM : Mc g d2 M2 mc2 ms2 [] T I L R (qR P)) (hdep : d2 + 1 ≤ d) (hcat : sCats st ≤ 8) (k : ∀ (z : Nat) (T' : sT) (I' L' : sI) (R' : sR), P z T' I' L' R' → Cp g d M mc ms Q pc' ls (vr z :: st) T' I' L' R') : Cp g d M (mc + mc2) (ms + ms2) Q pc ls (st) T I L R :=
  r_S (as := []) hd hw rfl hM hdep hcat (fun v T' I' L' R' h => by obtain ⟨z, rfl, h⟩ := h; exact k z T' I' L' R' h)
theorem r_S0v {P : sT → sI → sI → sR → Prop} (hd : sD M.2.1 pc 3 pc' (.invokestatic idx)) (hw : sS_ M idx M2 0) (hM : Mc g d2 M2 mc2 ms2 [] T I L R (qV P)) (hdep : d2 + 1 ≤ d) (hcat : sCats st ≤ 8) (k : ∀ (T' : sT) (I' L' : sI) (R' : sR), P T' I' L' R' → Cp g d M mc ms Q pc' ls (st) T' I' L' R') : Cp g d M (mc + mc2) (ms + ms2) Q pc ls (st) T I L R :=
  r_S (as := []) hd hw rfl hM hdep hcat (fun v T' I' L' R' h => by obtain ⟨rfl, h⟩ := h; exact k T' I' L' R' h)
theorem r_S1i {v1 : sV} {P : Int → sT → sI → sI → sR → Prop} (hd : sD M.2.1 pc 3 pc' (.invokestatic idx)) (hw : sS_ M idx M2 1) (hM : Mc g d2 M2 mc2 ms2 [v1] T I L R (qI P)) (hdep : d2 + 1 ≤ d) (hcat : sCats st ≤ 8) (k : ∀ (z : Int) (T' : sT) (I' L' : sI) (R' : sR), P z T' I' L' R' → Cp g d M mc ms Q pc' ls (vi z :: st) T' I' L' R') : Cp g d M (mc + mc2) (ms + ms2) Q pc ls (v1 :: st) T I L R :=
  r_S (as := [v1]) hd hw rfl hM hdep hcat (fun v T' I' L' R' h => by obtain ⟨z, rfl, h⟩ := h; exact k z T' I' L' R' h)
theorem r_S1l {v1 : sV} {P : Int → sT → sI → sI → sR → Prop} (hd : sD M.2.1 pc 3 pc' (.invokestatic idx)) (hw : sS_ M idx M2 1) (hM : Mc g d2 M2 mc2 ms2 [v1] T I L R (qL P)) (hdep : d2 + 1 ≤ d) (hcat : sCats st ≤ 8) (k : ∀ (z : Int) (T' : sT) (I' L' : sI) (R' : sR), P z T' I' L' R' → Cp g d M mc ms Q pc' ls (vl z :: st) T' I' L' R') : Cp g d M (mc + mc2) (ms + ms2) Q pc ls (v1 :: st) T I L R :=
  r_S (as := [v1]) hd hw rfl hM hdep hcat (fun v T' I' L' R' h => by obtain ⟨z, rfl, h⟩ := h; exact k z T' I' L' R' h)
theorem r_S1r {v1 : sV} {P : Nat → sT → sI → sI → sR → Prop} (hd : sD M.2.1 pc 3 pc' (.invokestatic idx)) (hw : sS_ M idx M2 1) (hM : Mc g d2 M2 mc2 ms2 [v1] T I L R (qR P)) (hdep : d2 + 1 ≤ d) (hcat : sCats st ≤ 8) (k : ∀ (z : Nat) (T' : sT) (I' L' : sI) (R' : sR), P z T' I' L' R' → Cp g d M mc ms Q pc' ls (vr z :: st) T' I' L' R') : Cp g d M (mc + mc2) (ms + ms2) Q pc ls (v1 :: st) T I L R :=
  r_S (as := [v1]) hd hw rfl hM hdep hcat (fun v T' I' L' R' h => by obtain ⟨z, rfl, h⟩ := h; exact k z T' I' L' R' h)
theorem r_S1v {v1 : sV} {P : sT → sI → sI → sR → Prop} (hd : sD M.2.1 pc 3 pc' (.invokestatic idx)) (hw : sS_ M idx M2 1) (hM : Mc g d2 M2 mc2 ms2 [v1] T I L R (qV P)) (hdep : d2 + 1 ≤ d) (hcat : sCats st ≤ 8) (k : ∀ (T' : sT) (I' L' : sI) (R' : sR), P T' I' L' R' → Cp g d M mc ms Q pc' ls (st) T' I' L' R') : Cp g d M (mc + mc2) (ms + ms2) Q pc ls (v1 :: st) T I L R :=
  r_S (as := [v1]) hd hw rfl hM hdep hcat (fun v T' I' L' R' h => by obtain ⟨rfl, h⟩ := h; exact k T' I' L' R' h)
theorem r_S2i {v1 v2 : sV} {P : Int → sT → sI → sI → sR → Prop} (hd : sD M.2.1 pc 3 pc' (.invokestatic idx)) (hw : sS_ M idx M2 2) (hM : Mc g d2 M2 mc2 ms2 [v1, v2] T I L R (qI P)) (hdep : d2 + 1 ≤ d) (hcat : sCats st ≤ 8) (k : ∀ (z : Int) (T' : sT) (I' L' : sI) (R' : sR), P z T' I' L' R' → Cp g d M mc ms Q pc' ls (vi z :: st) T' I' L' R') : Cp g d M (mc + mc2) (ms + ms2) Q pc ls (v2 :: v1 :: st) T I L R :=
  r_S (as := [v1, v2]) hd hw rfl hM hdep hcat (fun v T' I' L' R' h => by obtain ⟨z, rfl, h⟩ := h; exact k z T' I' L' R' h)
theorem r_S2l {v1 v2 : sV} {P : Int → sT → sI → sI → sR → Prop} (hd : sD M.2.1 pc 3 pc' (.invokestatic idx)) (hw : sS_ M idx M2 2) (hM : Mc g d2 M2 mc2 ms2 [v1, v2] T I L R (qL P)) (hdep : d2 + 1 ≤ d) (hcat : sCats st ≤ 8) (k : ∀ (z : Int) (T' : sT) (I' L' : sI) (R' : sR), P z T' I' L' R' → Cp g d M mc ms Q pc' ls (vl z :: st) T' I' L' R') : Cp g d M (mc + mc2) (ms + ms2) Q pc ls (v2 :: v1 :: st) T I L R :=
  r_S (as := [v1, v2]) hd hw rfl hM hdep hcat (fun v T' I' L' R' h => by obtain ⟨z, rfl, h⟩ := h; exact k z T' I' L' R' h)
theorem r_S2r {v1 v2 : sV} {P : Nat → sT → sI → sI → sR → Prop} (hd : sD M.2.1 pc 3 pc' (.invokestatic idx)) (hw : sS_ M idx M2 2) (hM : Mc g d2 M2 mc2 ms2 [v1, v2] T I L R (qR P)) (hdep : d2 + 1 ≤ d) (hcat : sCats st ≤ 8) (k : ∀ (z : Nat) (T' : sT) (I' L' : sI) (R' : sR), P z T' I' L' R' → Cp g d M mc ms Q pc' ls (vr z :: st) T' I' L' R') : Cp g d M (mc + mc2) (ms + ms2) Q pc ls (v2 :: v1 :: st) T I L R :=
  r_S (as := [v1, v2]) hd hw rfl hM hdep hcat (fun v T' I' L' R' h => by obtain ⟨z, rfl, h⟩ := h; exact k z T' I' L' R' h)
theorem r_S2v {v1 v2 : sV} {P : sT → sI → sI → sR → Prop} (hd : sD M.2.1 pc 3 pc' (.invokestatic idx)) (hw : sS_ M idx M2 2) (hM : Mc g d2 M2 mc2 ms2 [v1, v2] T I L R (qV P)) (hdep : d2 + 1 ≤ d) (hcat : sCats st ≤ 8) (k : ∀ (T' : sT) (I' L' : sI) (R' : sR), P T' I' L' R' → Cp g d M mc ms Q pc' ls (st) T' I' L' R') : Cp g d M (mc + mc2) (ms + ms2) Q pc ls (v2 :: v1 :: st) T I L R :=
  r_S (as := [v1, v2]) hd hw rfl hM hdep hcat (fun v T' I' L' R' h => by obtain ⟨rfl, h⟩ := h; exact k T' I' L' R' h)
theorem r_S3i {v1 v2 v3 : sV} {P : Int → sT → sI → sI → sR → Prop} (hd : sD M.2.1 pc 3 pc' (.invokestatic idx)) (hw : sS_ M idx M2 3) (hM : Mc g d2 M2 mc2 ms2 [v1, v2, v3] T I L R (qI P)) (hdep : d2 + 1 ≤ d) (hcat : sCats st ≤ 8) (k : ∀ (z : Int) (T' : sT) (I' L' : sI) (R' : sR), P z T' I' L' R' → Cp g d M mc ms Q pc' ls (vi z :: st) T' I' L' R') : Cp g d M (mc + mc2) (ms + ms2) Q pc ls (v3 :: v2 :: v1 :: st) T I L R :=
  r_S (as := [v1, v2, v3]) hd hw rfl hM hdep hcat (fun v T' I' L' R' h => by obtain ⟨z, rfl, h⟩ := h; exact k z T' I' L' R' h)
theorem r_S3l {v1 v2 v3 : sV} {P : Int → sT → sI → sI → sR → Prop} (hd : sD M.2.1 pc 3 pc' (.invokestatic idx)) (hw : sS_ M idx M2 3) (hM : Mc g d2 M2 mc2 ms2 [v1, v2, v3] T I L R (qL P)) (hdep : d2 + 1 ≤ d) (hcat : sCats st ≤ 8) (k : ∀ (z : Int) (T' : sT) (I' L' : sI) (R' : sR), P z T' I' L' R' → Cp g d M mc ms Q pc' ls (vl z :: st) T' I' L' R') : Cp g d M (mc + mc2) (ms + ms2) Q pc ls (v3 :: v2 :: v1 :: st) T I L R :=
  r_S (as := [v1, v2, v3]) hd hw rfl hM hdep hcat (fun v T' I' L' R' h => by obtain ⟨z, rfl, h⟩ := h; exact k z T' I' L' R' h)
theorem r_S3r {v1 v2 v3 : sV} {P : Nat → sT → sI → sI → sR → Prop} (hd : sD M.2.1 pc 3 pc' (.invokestatic idx)) (hw : sS_ M idx M2 3) (hM : Mc g d2 M2 mc2 ms2 [v1, v2, v3] T I L R (qR P)) (hdep : d2 + 1 ≤ d) (hcat : sCats st ≤ 8) (k : ∀ (z : Nat) (T' : sT) (I' L' : sI) (R' : sR), P z T' I' L' R' → Cp g d M mc ms Q pc' ls (vr z :: st) T' I' L' R') : Cp g d M (mc + mc2) (ms + ms2) Q pc ls (v3 :: v2 :: v1 :: st) T I L R :=
  r_S (as := [v1, v2, v3]) hd hw rfl hM hdep hcat (fun v T' I' L' R' h => by obtain ⟨z, rfl, h⟩ := h; exact k z T' I' L' R' h)
theorem r_S3v {v1 v2 v3 : sV} {P : sT → sI → sI → sR → Prop} (hd : sD M.2.1 pc 3 pc' (.invokestatic idx)) (hw : sS_ M idx M2 3) (hM : Mc g d2 M2 mc2 ms2 [v1, v2, v3] T I L R (qV P)) (hdep : d2 + 1 ≤ d) (hcat : sCats st ≤ 8) (k : ∀ (T' : sT) (I' L' : sI) (R' : sR), P T' I' L' R' → Cp g d M mc ms Q pc' ls (st) T' I' L' R') : Cp g d M (mc + mc2) (ms + ms2) Q pc ls (v3 :: v2 :: v1 :: st) T I L R :=
  r_S (as := [v1, v2, v3]) hd hw rfl hM hdep hcat (fun v T' I' L' R' h => by obtain ⟨rfl, h⟩ := h; exact k T' I' L' R' h)
theorem r_S4i {v1 v2 v3 v4 : sV} {P : Int → sT → sI → sI → sR → Prop} (hd : sD M.2.1 pc 3 pc' (.invokestatic idx)) (hw : sS_ M idx M2 4) (hM : Mc g d2 M2 mc2 ms2 [v1, v2, v3, v4] T I L R (qI P)) (hdep : d2 + 1 ≤ d) (hcat : sCats st ≤ 8) (k : ∀ (z : Int) (T' : sT) (I' L' : sI) (R' : sR), P z T' I' L' R' → Cp g d M mc ms Q pc' ls (vi z :: st) T' I' L' R') : Cp g d M (mc + mc2) (ms + ms2) Q pc ls (v4 :: v3 :: v2 :: v1 :: st) T I L R :=
  r_S (as := [v1, v2, v3, v4]) hd hw rfl hM hdep hcat (fun v T' I' L' R' h => by obtain ⟨z, rfl, h⟩ := h; exact k z T' I' L' R' h)
theorem r_S4l {v1 v2 v3 v4 : sV} {P : Int → sT → sI → sI → sR → Prop} (hd : sD M.2.1 pc 3 pc' (.invokestatic idx)) (hw : sS_ M idx M2 4) (hM : Mc g d2 M2 mc2 ms2 [v1, v2, v3, v4] T I L R (qL P)) (hdep : d2 + 1 ≤ d) (hcat : sCats st ≤ 8) (k : ∀ (z : Int) (T' : sT) (I' L' : sI) (R' : sR), P z T' I' L' R' → Cp g d M mc ms Q pc' ls (vl z :: st) T' I' L' R') : Cp g d M (mc + mc2) (ms + ms2) Q pc ls (v4 :: v3 :: v2 :: v1 :: st) T I L R :=
  r_S (as := [v1, v2, v3, v4]) hd hw rfl hM hdep hcat (fun v T' I' L' R' h => by obtain ⟨z, rfl, h⟩ := h; exact k z T' I' L' R' h)
theorem r_S4r {v1 v2 v3 v4 : sV} {P : Nat → sT → sI → sI → sR → Prop} (hd : sD M.2.1 pc 3 pc' (.invokestatic idx)) (hw : sS_ M idx M2 4) (hM : Mc g d2 M2 mc2 ms2 [v1, v2, v3, v4] T I L R (qR P)) (hdep : d2 + 1 ≤ d) (hcat : sCats st ≤ 8) (k : ∀ (z : Nat) (T' : sT) (I' L' : sI) (R' : sR), P z T' I' L' R' → Cp g d M mc ms Q pc' ls (vr z :: st) T' I' L' R') : Cp g d M (mc + mc2) (ms + ms2) Q pc ls (v4 :: v3 :: v2 :: v1 :: st) T I L R :=
  r_S (as := [v1, v2, v3, v4]) hd hw rfl hM hdep hcat (fun v T' I' L' R' h => by obtain ⟨z, rfl, h⟩ := h; exact k z T' I' L' R' h)
theorem r_S4v {v1 v2 v3 v4 : sV} {P : sT → sI → sI → sR → Prop} (hd : sD M.2.1 pc 3 pc' (.invokestatic idx)) (hw : sS_ M idx M2 4) (hM : Mc g d2 M2 mc2 ms2 [v1, v2, v3, v4] T I L R (qV P)) (hdep : d2 + 1 ≤ d) (hcat : sCats st ≤ 8) (k : ∀ (T' : sT) (I' L' : sI) (R' : sR), P T' I' L' R' → Cp g d M mc ms Q pc' ls (st) T' I' L' R') : Cp g d M (mc + mc2) (ms + ms2) Q pc ls (v4 :: v3 :: v2 :: v1 :: st) T I L R :=
  r_S (as := [v1, v2, v3, v4]) hd hw rfl hM hdep hcat (fun v T' I' L' R' h => by obtain ⟨rfl, h⟩ := h; exact k T' I' L' R' h)
theorem r_S5i {v1 v2 v3 v4 v5 : sV} {P : Int → sT → sI → sI → sR → Prop} (hd : sD M.2.1 pc 3 pc' (.invokestatic idx)) (hw : sS_ M idx M2 5) (hM : Mc g d2 M2 mc2 ms2 [v1, v2, v3, v4, v5] T I L R (qI P)) (hdep : d2 + 1 ≤ d) (hcat : sCats st ≤ 8) (k : ∀ (z : Int) (T' : sT) (I' L' : sI) (R' : sR), P z T' I' L' R' → Cp g d M mc ms Q pc' ls (vi z :: st) T' I' L' R') : Cp g d M (mc + mc2) (ms + ms2) Q pc ls (v5 :: v4 :: v3 :: v2 :: v1 :: st) T I L R :=
  r_S (as := [v1, v2, v3, v4, v5]) hd hw rfl hM hdep hcat (fun v T' I' L' R' h => by obtain ⟨z, rfl, h⟩ := h; exact k z T' I' L' R' h)
theorem r_S5l {v1 v2 v3 v4 v5 : sV} {P : Int → sT → sI → sI → sR → Prop} (hd : sD M.2.1 pc 3 pc' (.invokestatic idx)) (hw : sS_ M idx M2 5) (hM : Mc g d2 M2 mc2 ms2 [v1, v2, v3, v4, v5] T I L R (qL P)) (hdep : d2 + 1 ≤ d) (hcat : sCats st ≤ 8) (k : ∀ (z : Int) (T' : sT) (I' L' : sI) (R' : sR), P z T' I' L' R' → Cp g d M mc ms Q pc' ls (vl z :: st) T' I' L' R') : Cp g d M (mc + mc2) (ms + ms2) Q pc ls (v5 :: v4 :: v3 :: v2 :: v1 :: st) T I L R :=
  r_S (as := [v1, v2, v3, v4, v5]) hd hw rfl hM hdep hcat (fun v T' I' L' R' h => by obtain ⟨z, rfl, h⟩ := h; exact k z T' I' L' R' h)
theorem r_S5r {v1 v2 v3 v4 v5 : sV} {P : Nat → sT → sI → sI → sR → Prop} (hd : sD M.2.1 pc 3 pc' (.invokestatic idx)) (hw : sS_ M idx M2 5) (hM : Mc g d2 M2 mc2 ms2 [v1, v2, v3, v4, v5] T I L R (qR P)) (hdep : d2 + 1 ≤ d) (hcat : sCats st ≤ 8) (k : ∀ (z : Nat) (T' : sT) (I' L' : sI) (R' : sR), P z T' I' L' R' → Cp g d M mc ms Q pc' ls (vr z :: st) T' I' L' R') : Cp g d M (mc + mc2) (ms + ms2) Q pc ls (v5 :: v4 :: v3 :: v2 :: v1 :: st) T I L R :=
  r_S (as := [v1, v2, v3, v4, v5]) hd hw rfl hM hdep hcat (fun v T' I' L' R' h => by obtain ⟨z, rfl, h⟩ := h; exact k z T' I' L' R' h)
theorem r_S5v {v1 v2 v3 v4 v5 : sV} {P : sT → sI → sI → sR → Prop} (hd : sD M.2.1 pc 3 pc' (.invokestatic idx)) (hw : sS_ M idx M2 5) (hM : Mc g d2 M2 mc2 ms2 [v1, v2, v3, v4, v5] T I L R (qV P)) (hdep : d2 + 1 ≤ d) (hcat : sCats st ≤ 8) (k : ∀ (T' : sT) (I' L' : sI) (R' : sR), P T' I' L' R' → Cp g d M mc ms Q pc' ls (st) T' I' L' R') : Cp g d M (mc + mc2) (ms + ms2) Q pc ls (v5 :: v4 :: v3 :: v2 :: v1 :: st) T I L R :=
  r_S (as := [v1, v2, v3, v4, v5]) hd hw rfl hM hdep hcat (fun v T' I' L' R' h => by obtain ⟨rfl, h⟩ := h; exact k T' I' L' R' h)
theorem r_SN0i {P : Int → sT → sI → sI → sR → Prop} (hd : sD M.2.1 pc 3 pc' (.invokestatic idx)) (hw : sSN_ M idx M2 0) (hM : Mc g d2 M2 mc2 ms2 [] T I L R (qI P)) (hdep : d2 + 1 ≤ d) (hcat : sCats st ≤ 8) (k : ∀ (z : Int) (T' : sT) (I' L' : sI) (R' : sR), P z T' I' L' R' → Cp g d M mc ms Q pc' ls (vi z :: st) T' I' L' R') : Cp g d M (mc + mc2) (ms + ms2) Q pc ls (st) T I L R :=
  r_SN (as := []) hd hw rfl hM hdep hcat (fun v T' I' L' R' h => by obtain ⟨z, rfl, h⟩ := h; exact k z T' I' L' R' h)
theorem r_SN1i {v1 : sV} {P : Int → sT → sI → sI → sR → Prop} (hd : sD M.2.1 pc 3 pc' (.invokestatic idx)) (hw : sSN_ M idx M2 1) (hM : Mc g d2 M2 mc2 ms2 [v1] T I L R (qI P)) (hdep : d2 + 1 ≤ d) (hcat : sCats st ≤ 8) (k : ∀ (z : Int) (T' : sT) (I' L' : sI) (R' : sR), P z T' I' L' R' → Cp g d M mc ms Q pc' ls (vi z :: st) T' I' L' R') : Cp g d M (mc + mc2) (ms + ms2) Q pc ls (v1 :: st) T I L R :=
  r_SN (as := [v1]) hd hw rfl hM hdep hcat (fun v T' I' L' R' h => by obtain ⟨z, rfl, h⟩ := h; exact k z T' I' L' R' h)
theorem r_SN2i {v1 v2 : sV} {P : Int → sT → sI → sI → sR → Prop} (hd : sD M.2.1 pc 3 pc' (.invokestatic idx)) (hw : sSN_ M idx M2 2) (hM : Mc g d2 M2 mc2 ms2 [v1, v2] T I L R (qI P)) (hdep : d2 + 1 ≤ d) (hcat : sCats st ≤ 8) (k : ∀ (z : Int) (T' : sT) (I' L' : sI) (R' : sR), P z T' I' L' R' → Cp g d M mc ms Q pc' ls (vi z :: st) T' I' L' R') : Cp g d M (mc + mc2) (ms + ms2) Q pc ls (v2 :: v1 :: st) T I L R :=
  r_SN (as := [v1, v2]) hd hw rfl hM hdep hcat (fun v T' I' L' R' h => by obtain ⟨z, rfl, h⟩ := h; exact k z T' I' L' R' h)
theorem r_I0v {a : Nat} {P : sT → sI → sI → sR → Prop} (hd : sD M.2.1 pc 3 pc' (.invokespecial idx)) (hw : sI_ M idx M2 0) (hM : Mc g d2 M2 mc2 ms2 [vr a] T I L R (qV P)) (hdep : d2 + 1 ≤ d) (hcat : sCats st ≤ 8) (k : ∀ (T' : sT) (I' L' : sI) (R' : sR), P T' I' L' R' → Cp g d M mc ms Q pc' ls (st) T' I' L' R') : Cp g d M (mc + mc2) (ms + ms2) Q pc ls (vr a :: st) T I L R :=
  r_I (as := []) hd hw rfl hM hdep hcat (fun v T' I' L' R' h => by obtain ⟨rfl, h⟩ := h; exact k T' I' L' R' h)
theorem r_I1v {a : Nat} {v1 : sV} {P : sT → sI → sI → sR → Prop} (hd : sD M.2.1 pc 3 pc' (.invokespecial idx)) (hw : sI_ M idx M2 1) (hM : Mc g d2 M2 mc2 ms2 [vr a, v1] T I L R (qV P)) (hdep : d2 + 1 ≤ d) (hcat : sCats st ≤ 8) (k : ∀ (T' : sT) (I' L' : sI) (R' : sR), P T' I' L' R' → Cp g d M mc ms Q pc' ls (st) T' I' L' R') : Cp g d M (mc + mc2) (ms + ms2) Q pc ls (v1 :: vr a :: st) T I L R :=
  r_I (as := [v1]) hd hw rfl hM hdep hcat (fun v T' I' L' R' h => by obtain ⟨rfl, h⟩ := h; exact k T' I' L' R' h)
theorem r_I2v {a : Nat} {v1 v2 : sV} {P : sT → sI → sI → sR → Prop} (hd : sD M.2.1 pc 3 pc' (.invokespecial idx)) (hw : sI_ M idx M2 2) (hM : Mc g d2 M2 mc2 ms2 [vr a, v1, v2] T I L R (qV P)) (hdep : d2 + 1 ≤ d) (hcat : sCats st ≤ 8) (k : ∀ (T' : sT) (I' L' : sI) (R' : sR), P T' I' L' R' → Cp g d M mc ms Q pc' ls (st) T' I' L' R') : Cp g d M (mc + mc2) (ms + ms2) Q pc ls (v2 :: v1 :: vr a :: st) T I L R :=
  r_I (as := [v1, v2]) hd hw rfl hM hdep hcat (fun v T' I' L' R' h => by obtain ⟨rfl, h⟩ := h; exact k T' I' L' R' h)
theorem r_I3v {a : Nat} {v1 v2 v3 : sV} {P : sT → sI → sI → sR → Prop} (hd : sD M.2.1 pc 3 pc' (.invokespecial idx)) (hw : sI_ M idx M2 3) (hM : Mc g d2 M2 mc2 ms2 [vr a, v1, v2, v3] T I L R (qV P)) (hdep : d2 + 1 ≤ d) (hcat : sCats st ≤ 8) (k : ∀ (T' : sT) (I' L' : sI) (R' : sR), P T' I' L' R' → Cp g d M mc ms Q pc' ls (st) T' I' L' R') : Cp g d M (mc + mc2) (ms + ms2) Q pc ls (v3 :: v2 :: v1 :: vr a :: st) T I L R :=
  r_I (as := [v1, v2, v3]) hd hw rfl hM hdep hcat (fun v T' I' L' R' h => by obtain ⟨rfl, h⟩ := h; exact k T' I' L' R' h)
theorem r_I4v {a : Nat} {v1 v2 v3 v4 : sV} {P : sT → sI → sI → sR → Prop} (hd : sD M.2.1 pc 3 pc' (.invokespecial idx)) (hw : sI_ M idx M2 4) (hM : Mc g d2 M2 mc2 ms2 [vr a, v1, v2, v3, v4] T I L R (qV P)) (hdep : d2 + 1 ≤ d) (hcat : sCats st ≤ 8) (k : ∀ (T' : sT) (I' L' : sI) (R' : sR), P T' I' L' R' → Cp g d M mc ms Q pc' ls (st) T' I' L' R') : Cp g d M (mc + mc2) (ms + ms2) Q pc ls (v4 :: v3 :: v2 :: v1 :: vr a :: st) T I L R :=
  r_I (as := [v1, v2, v3, v4]) hd hw rfl hM hdep hcat (fun v T' I' L' R' h => by obtain ⟨rfl, h⟩ := h; exact k T' I' L' R' h)
theorem r_IN0v {a : Nat} {P : sT → sI → sI → sR → Prop} (hd : sD M.2.1 pc 3 pc' (.invokespecial idx)) (hw : sIN_ M idx M2 0) (hM : Mc g d2 M2 mc2 ms2 [vr a] T I L R (qV P)) (hdep : d2 + 1 ≤ d) (hcat : sCats st ≤ 8) (k : ∀ (T' : sT) (I' L' : sI) (R' : sR), P T' I' L' R' → Cp g d M mc ms Q pc' ls (st) T' I' L' R') : Cp g d M (mc + mc2) (ms + ms2) Q pc ls (vr a :: st) T I L R :=
  r_IN (as := []) hd hw rfl hM hdep hcat (fun v T' I' L' R' h => by obtain ⟨rfl, h⟩ := h; exact k T' I' L' R' h)
theorem r_IN1v {a : Nat} {v1 : sV} {P : sT → sI → sI → sR → Prop} (hd : sD M.2.1 pc 3 pc' (.invokespecial idx)) (hw : sIN_ M idx M2 1) (hM : Mc g d2 M2 mc2 ms2 [vr a, v1] T I L R (qV P)) (hdep : d2 + 1 ≤ d) (hcat : sCats st ≤ 8) (k : ∀ (T' : sT) (I' L' : sI) (R' : sR), P T' I' L' R' → Cp g d M mc ms Q pc' ls (st) T' I' L' R') : Cp g d M (mc + mc2) (ms + ms2) Q pc ls (v1 :: vr a :: st) T I L R :=
  r_IN (as := [v1]) hd hw rfl hM hdep hcat (fun v T' I' L' R' h => by obtain ⟨rfl, h⟩ := h; exact k T' I' L' R' h)
theorem r_IN2v {a : Nat} {v1 v2 : sV} {P : sT → sI → sI → sR → Prop} (hd : sD M.2.1 pc 3 pc' (.invokespecial idx)) (hw : sIN_ M idx M2 2) (hM : Mc g d2 M2 mc2 ms2 [vr a, v1, v2] T I L R (qV P)) (hdep : d2 + 1 ≤ d) (hcat : sCats st ≤ 8) (k : ∀ (T' : sT) (I' L' : sI) (R' : sR), P T' I' L' R' → Cp g d M mc ms Q pc' ls (st) T' I' L' R') : Cp g d M (mc + mc2) (ms + ms2) Q pc ls (v2 :: v1 :: vr a :: st) T I L R :=
  r_IN (as := [v1, v2]) hd hw rfl hM hdep hcat (fun v T' I' L' R' h => by obtain ⟨rfl, h⟩ := h; exact k T' I' L' R' h)
theorem r_IN3v {a : Nat} {v1 v2 v3 : sV} {P : sT → sI → sI → sR → Prop} (hd : sD M.2.1 pc 3 pc' (.invokespecial idx)) (hw : sIN_ M idx M2 3) (hM : Mc g d2 M2 mc2 ms2 [vr a, v1, v2, v3] T I L R (qV P)) (hdep : d2 + 1 ≤ d) (hcat : sCats st ≤ 8) (k : ∀ (T' : sT) (I' L' : sI) (R' : sR), P T' I' L' R' → Cp g d M mc ms Q pc' ls (st) T' I' L' R') : Cp g d M (mc + mc2) (ms + ms2) Q pc ls (v3 :: v2 :: v1 :: vr a :: st) T I L R :=
  r_IN (as := [v1, v2, v3]) hd hw rfl hM hdep hcat (fun v T' I' L' R' h => by obtain ⟨rfl, h⟩ := h; exact k T' I' L' R' h)
theorem r_IN4v {a : Nat} {v1 v2 v3 v4 : sV} {P : sT → sI → sI → sR → Prop} (hd : sD M.2.1 pc 3 pc' (.invokespecial idx)) (hw : sIN_ M idx M2 4) (hM : Mc g d2 M2 mc2 ms2 [vr a, v1, v2, v3, v4] T I L R (qV P)) (hdep : d2 + 1 ≤ d) (hcat : sCats st ≤ 8) (k : ∀ (T' : sT) (I' L' : sI) (R' : sR), P T' I' L' R' → Cp g d M mc ms Q pc' ls (st) T' I' L' R') : Cp g d M (mc + mc2) (ms + ms2) Q pc ls (v4 :: v3 :: v2 :: v1 :: vr a :: st) T I L R :=
  r_IN (as := [v1, v2, v3, v4]) hd hw rfl hM hdep hcat (fun v T' I' L' R' h => by obtain ⟨rfl, h⟩ := h; exact k T' I' L' R' h)
end SCA
