def lget (ls : List (Nat × sV)) (i : Nat) : Option sV := (ls.find? (fun q => q.1 == i)).map (fun q => q.2)
def sJ (b : ByteArray) (pc pc' tgt : Nat) (mk : Int → Instr) : Prop := ∃ off : Int, decode b pc = .ok (mk off, 3) ∧ pc + 3 = pc' ∧ (pc : Int) + off = (tgt : Int)
def sand (x y : Int) : Int := (Int32.ofInt x &&& Int32.ofInt y).toInt
def sor (x y : Int) : Int := (Int32.ofInt x ||| Int32.ofInt y).toInt
def sxor (x y : Int) : Int := (Int32.ofInt x ^^^ Int32.ofInt y).toInt
def sshl (x y : Int) : Int := (Int32.ofInt x <<< (Int32.ofInt y &&& 31)).toInt
def sshr (x y : Int) : Int := (Int32.ofInt x >>> (Int32.ofInt y &&& 31)).toInt
def sland (x y : Int) : Int := (Int64.ofInt x &&& Int64.ofInt y).toInt
def slor (x y : Int) : Int := (Int64.ofInt x ||| Int64.ofInt y).toInt
def slshl (x y : Int) : Int := (Int64.ofInt x <<< ((Int32.ofInt y).toInt64 &&& 63)).toInt
def slshr (x y : Int) : Int := (Int64.ofInt x >>> ((Int32.ofInt y).toInt64 &&& 63)).toInt
def slushr (x y : Int) : Int := ((Int64.ofInt x).toUInt64 >>> ((Int32.ofInt y).toInt64.toUInt64 &&& Int64.toUInt64 63)).toInt64.toInt
def sb2 (x : Int) : Int := ((Int32.ofInt x).toInt8.toInt32).toInt
def sc2 (x : Int) : Int := (((Int32.ofInt x).toUInt32 % 65536).toInt32).toInt
theorem r32_eq {x y : Int} (hx : -2147483648 ≤ x ∧ x ≤ 2147483647) (hy : -2147483648 ≤ y ∧ y ≤ 2147483647) : Int32.ofInt x = Int32.ofInt y ↔ x = y := by
  constructor
  · intro h
    have h1 := congrArg Int32.toInt h
    rwa [Int32.toInt_ofInt_of_le (by omega) (by omega), Int32.toInt_ofInt_of_le (by omega) (by omega)] at h1
  · rintro rfl; rfl
theorem r32_lt {x y : Int} (hx : -2147483648 ≤ x ∧ x ≤ 2147483647) (hy : -2147483648 ≤ y ∧ y ≤ 2147483647) : Int32.ofInt x < Int32.ofInt y ↔ x < y := by
  rw [Int32.lt_iff_toInt_lt, Int32.toInt_ofInt_of_le (by omega) (by omega), Int32.toInt_ofInt_of_le (by omega) (by omega)]
theorem r32_le {x y : Int} (hx : -2147483648 ≤ x ∧ x ≤ 2147483647) (hy : -2147483648 ≤ y ∧ y ≤ 2147483647) : Int32.ofInt x ≤ Int32.ofInt y ↔ x ≤ y := by
  rw [Int32.le_iff_toInt_le, Int32.toInt_ofInt_of_le (by omega) (by omega), Int32.toInt_ofInt_of_le (by omega) (by omega)]
theorem r64_eq {x y : Int} (hx : -9223372036854775808 ≤ x ∧ x ≤ 9223372036854775807) (hy : -9223372036854775808 ≤ y ∧ y ≤ 9223372036854775807) : Int64.ofInt x = Int64.ofInt y ↔ x = y := by
  constructor
  · intro h
    have h1 := congrArg Int64.toInt h
    rwa [Int64.toInt_ofInt_of_le (by omega) (by omega), Int64.toInt_ofInt_of_le (by omega) (by omega)] at h1
  · rintro rfl; rfl
theorem r64_lt {x y : Int} (hx : -9223372036854775808 ≤ x ∧ x ≤ 9223372036854775807) (hy : -9223372036854775808 ≤ y ∧ y ≤ 9223372036854775807) : Int64.ofInt x < Int64.ofInt y ↔ x < y := by
  rw [Int64.lt_iff_toInt_lt, Int64.toInt_ofInt_of_le (by omega) (by omega), Int64.toInt_ofInt_of_le (by omega) (by omega)]
theorem scv_cat (g : sG) (v : sV) : ((scv g v).category == 2) = isL v := by
  rcases v with z | z | r
  · rfl
  · rfl
  · cases r <;> rfl
theorem lget_mem {ls : List (Nat × sV)} {i : Nat} {v : sV} (h : lget ls i = some v) : (i, v) ∈ ls := by
  unfold lget at h
  cases hf : ls.find? (fun q => q.1 == i) with
  | none => rw [hf] at h; cases h
  | some q =>
    rw [hf] at h
    have h1 := List.mem_of_find?_eq_some hf
    have h2 := List.find?_some hf
    simp at h h2
    obtain ⟨a, b⟩ := q
    simp at h h2
    subst h; subst h2
    exact h1
theorem lget_at {g : sG} {lR : Array Slot} {nL : Nat} {ls : List (Nat × sV)} {i : Nat} {v : sV} (hl : lv_has lR nL (ls.map (fun q => (q.1, scv g q.2)))) (h : lget ls i = some v) : lR[i]? = some (.val (scv g v)) :=
  hl.2.2 (i, scv g v) (List.mem_map.mpr ⟨(i, v), lget_mem h, rfl⟩)
theorem lst_map (g : sG) (ls : List (Nat × sV)) (i : Nat) (v : sV) : (i, scv g v) :: (ls.map (fun q => (q.1, scv g q.2))).filter (fun q => !(q.1 == i) && !(q.1 + 1 == i && q.2.category == 2)) = (lst ls i v).map (fun q => (q.1, scv g q.2)) := by
  unfold lst
  rw [List.map_cons, List.filter_map]
  congr 1
  congr 1
  apply List.filter_congr
  intro x _
  simp only [Function.comp, scv_cat]
theorem lst2_map (g : sG) (ls : List (Nat × sV)) (i : Nat) (v : sV) : (i, scv g v) :: (ls.map (fun q => (q.1, scv g q.2))).filter (fun q => !(q.1 == i) && (!(q.1 == i + 1) && !(q.1 + 1 == i && q.2.category == 2))) = (lst2 ls i v).map (fun q => (q.1, scv g q.2)) := by
  unfold lst2
  rw [List.map_cons, List.filter_map]
  congr 1
  congr 1
  apply List.filter_congr
  intro x _
  simp only [Function.comp, scv_cat]
theorem Cp_ls {g : sG} {d : Nat} {M : sM} {mc ms : Nat} {Q : sQ} {pc : Nat} {ls ls' : List (Nat × sV)} {st : List sV} {T : sT} {I L : sI} {R : sR} (h : ls'.all (fun q => decide (lget ls q.1 = some q.2)) = true ∨ ∀ q ∈ ls', lget ls q.1 = some q.2) (k : Cp g d M mc ms Q pc ls' st T I L R) : Cp g d M mc ms Q pc ls st T I L R := by
  have h : ∀ q ∈ ls', lget ls q.1 = some q.2 := by
    rcases h with h | h
    · intro q hq
      exact of_decide_eq_true (List.all_eq_true.mp h q hq)
    · exact h
  intro p e Rm s m args below meth c H locs cells slots lR X hH hS hc hs hl
  refine k p e Rm s m args below meth c H locs cells slots lR X hH hS hc hs ⟨hl.1, hl.2.1, ?_⟩
  intro q hq
  obtain ⟨x, hx, rfl⟩ := List.mem_map.mp hq
  exact lget_at hl (h x hx)
section SR
variable {g : sG} {d : Nat} {M : sM} {mc ms : Nat} {Q : sQ} {pc pc' tgt : Nat} {ls : List (Nat × sV)} {st : List sV} {T : sT} {I L : sI} {R : sR}
theorem r_iconst {n : Int} (hd : sD M.2.1 pc 1 pc' (.iconst n)) (k : Cp g d M mc ms Q pc' ls (vi n :: st) T I L R) : Cp g d M mc ms Q pc ls st T I L R := by
  intro p e Rm s m args below meth c H locs cells slots lR X hH hS hc hs hl
  obtain ⟨hd, rfl⟩ := hd
  exact lv_iconst X.1 X.2.1 hd rfl (k p e Rm s m args below meth c H locs cells slots lR X hH hS hc hs hl)
theorem r_bipush {n : Int} (hd : sD M.2.1 pc 2 pc' (.bipush n)) (hn : (Int8.ofInt n).toInt32 = Int32.ofInt n) (k : Cp g d M mc ms Q pc' ls (vi n :: st) T I L R) : Cp g d M mc ms Q pc ls st T I L R := by
  intro p e Rm s m args below meth c H locs cells slots lR X hH hS hc hs hl
  obtain ⟨hd, rfl⟩ := hd
  exact lv_bipush X.1 X.2.1 hd hn (k p e Rm s m args below meth c H locs cells slots lR X hH hS hc hs hl)
theorem r_sipush {n : Int} (hd : sD M.2.1 pc 3 pc' (.sipush n)) (hn : (Int16.ofInt n).toInt32 = Int32.ofInt n) (k : Cp g d M mc ms Q pc' ls (vi n :: st) T I L R) : Cp g d M mc ms Q pc ls st T I L R := by
  intro p e Rm s m args below meth c H locs cells slots lR X hH hS hc hs hl
  obtain ⟨hd, rfl⟩ := hd
  exact lv_sipush X.1 X.2.1 hd hn (k p e Rm s m args below meth c H locs cells slots lR X hH hS hc hs hl)
theorem r_lconst {n : Fin 2} {z : Int} (hd : sD M.2.1 pc 1 pc' (.lconst n)) (hn : Int64.ofNat (n : Nat) = Int64.ofInt z) (k : Cp g d M mc ms Q pc' ls (vl z :: st) T I L R) : Cp g d M mc ms Q pc ls st T I L R := by
  intro p e Rm s m args below meth c H locs cells slots lR X hH hS hc hs hl
  obtain ⟨hd, rfl⟩ := hd
  exact lv_lconst X.1 X.2.1 hd hn (k p e Rm s m args below meth c H locs cells slots lR X hH hS hc hs hl)
theorem r_ldcw {idx : Nat} {z : Int} (hd : sD M.2.1 pc 3 pc' (.ldc_w idx)) (hw : Cond.constant M.1.cls idx (Int32.ofInt z) ∈ sTb) (k : Cp g d M mc ms Q pc' ls (vi z :: st) T I L R) : Cp g d M mc ms Q pc ls st T I L R := by
  intro p e Rm s m args below meth c H locs cells slots lR X hH hS hc hs hl
  obtain ⟨hd, rfl⟩ := hd
  exact lv_ldcw X.1 X.2.1 X.2.2.2.2.1 (X.2.2.2.2.2.1 _ hw) hd (k p e Rm s m args below meth c H locs cells slots lR X hH hS hc hs hl)
theorem r_ldc {idx : Nat} {z : Int} (hd : sD M.2.1 pc 2 pc' (.ldc idx)) (hw : Cond.constant M.1.cls idx (Int32.ofInt z) ∈ sTb) (k : Cp g d M mc ms Q pc' ls (vi z :: st) T I L R) : Cp g d M mc ms Q pc ls st T I L R := by
  intro p e Rm s m args below meth c H locs cells slots lR X hH hS hc hs hl
  obtain ⟨hd, rfl⟩ := hd
  exact lv_ldc X.1 X.2.1 X.2.2.2.2.1 (X.2.2.2.2.2.1 _ hw) hd (k p e Rm s m args below meth c H locs cells slots lR X hH hS hc hs hl)
theorem r_ldc2 {idx : Nat} {z : Int} (hd : sD M.2.1 pc 3 pc' (.ldc2_w idx)) (hw : Cond.constantLong M.1.cls idx (Int64.ofInt z) ∈ sTb) (k : Cp g d M mc ms Q pc' ls (vl z :: st) T I L R) : Cp g d M mc ms Q pc ls st T I L R := by
  intro p e Rm s m args below meth c H locs cells slots lR X hH hS hc hs hl
  obtain ⟨hd, rfl⟩ := hd
  exact lv_ldc2 X.1 X.2.1 X.2.2.2.2.1 (X.2.2.2.2.2.1 _ hw) hd (k p e Rm s m args below meth c H locs cells slots lR X hH hS hc hs hl)
theorem r_iload_n {n : Fin 4} {x : Int} (hd : sD M.2.1 pc 1 pc' (.iload_n n)) (hg : lget ls n = some (vi x)) (k : Cp g d M mc ms Q pc' ls (vi x :: st) T I L R) : Cp g d M mc ms Q pc ls st T I L R := by
  intro p e Rm s m args below meth c H locs cells slots lR X hH hS hc hs hl
  obtain ⟨hd, rfl⟩ := hd
  exact lv_iload_n X.1 X.2.1 hd rfl (lget_at hl hg) (k p e Rm s m args below meth c H locs cells slots lR X hH hS hc hs hl)
theorem r_iload {n : Nat} {x : Int} (hd : sD M.2.1 pc 2 pc' (.iload n)) (hg : lget ls n = some (vi x)) (k : Cp g d M mc ms Q pc' ls (vi x :: st) T I L R) : Cp g d M mc ms Q pc ls st T I L R := by
  intro p e Rm s m args below meth c H locs cells slots lR X hH hS hc hs hl
  obtain ⟨hd, rfl⟩ := hd
  exact lv_iload X.1 X.2.1 hd (lget_at hl hg) (k p e Rm s m args below meth c H locs cells slots lR X hH hS hc hs hl)
theorem r_istore_n {n : Fin 4} {x : Int} (hd : sD M.2.1 pc 1 pc' (.istore_n n)) (hn : (n : Nat) < M.2.2.1) (k : Cp g d M mc ms Q pc' (lst ls n (vi x)) st T I L R) : Cp g d M mc ms Q pc ls (vi x :: st) T I L R := by
  intro p e Rm s m args below meth c H locs cells slots lR X hH hS hc hs hl
  obtain ⟨hd, rfl⟩ := hd
  exact lv_istore_n X.1 X.2.1 hd rfl hl hn (lst_map g ls n (vi x)) (fun l1 h1 => k p e Rm s m args below meth c H locs cells slots l1 X hH hS hc hs h1)
theorem r_istore {n : Nat} {x : Int} (hd : sD M.2.1 pc 2 pc' (.istore n)) (hn : n < M.2.2.1) (k : Cp g d M mc ms Q pc' (lst ls n (vi x)) st T I L R) : Cp g d M mc ms Q pc ls (vi x :: st) T I L R := by
  intro p e Rm s m args below meth c H locs cells slots lR X hH hS hc hs hl
  obtain ⟨hd, rfl⟩ := hd
  exact lv_istore X.1 X.2.1 hd hl hn (lst_map g ls n (vi x)) (fun l1 h1 => k p e Rm s m args below meth c H locs cells slots l1 X hH hS hc hs h1)
theorem r_lload_n {n : Fin 4} {x : Int} (hd : sD M.2.1 pc 1 pc' (.lload_n n)) (hg : lget ls n = some (vl x)) (k : Cp g d M mc ms Q pc' ls (vl x :: st) T I L R) : Cp g d M mc ms Q pc ls st T I L R := by
  intro p e Rm s m args below meth c H locs cells slots lR X hH hS hc hs hl
  obtain ⟨hd, rfl⟩ := hd
  exact lv_lload_n X.1 X.2.1 hd rfl (lget_at hl hg) (k p e Rm s m args below meth c H locs cells slots lR X hH hS hc hs hl)
theorem r_lload {n : Nat} {x : Int} (hd : sD M.2.1 pc 2 pc' (.lload n)) (hg : lget ls n = some (vl x)) (k : Cp g d M mc ms Q pc' ls (vl x :: st) T I L R) : Cp g d M mc ms Q pc ls st T I L R := by
  intro p e Rm s m args below meth c H locs cells slots lR X hH hS hc hs hl
  obtain ⟨hd, rfl⟩ := hd
  exact lv_lload X.1 X.2.1 hd (lget_at hl hg) (k p e Rm s m args below meth c H locs cells slots lR X hH hS hc hs hl)
theorem r_lstore_n {n : Fin 4} {x : Int} (hd : sD M.2.1 pc 1 pc' (.lstore_n n)) (hn : (n : Nat) + 1 < M.2.2.1) (k : Cp g d M mc ms Q pc' (lst2 ls n (vl x)) st T I L R) : Cp g d M mc ms Q pc ls (vl x :: st) T I L R := by
  intro p e Rm s m args below meth c H locs cells slots lR X hH hS hc hs hl
  obtain ⟨hd, rfl⟩ := hd
  exact lv_lstore_n X.1 X.2.1 hd rfl hl hn (lst2_map g ls n (vl x)) (fun l1 h1 => k p e Rm s m args below meth c H locs cells slots l1 X hH hS hc hs h1)
theorem r_lstore {n : Nat} {x : Int} (hd : sD M.2.1 pc 2 pc' (.lstore n)) (hn : n + 1 < M.2.2.1) (k : Cp g d M mc ms Q pc' (lst2 ls n (vl x)) st T I L R) : Cp g d M mc ms Q pc ls (vl x :: st) T I L R := by
  intro p e Rm s m args below meth c H locs cells slots lR X hH hS hc hs hl
  obtain ⟨hd, rfl⟩ := hd
  exact lv_lstore X.1 X.2.1 hd hl hn (lst2_map g ls n (vl x)) (fun l1 h1 => k p e Rm s m args below meth c H locs cells slots l1 X hH hS hc hs h1)
theorem r_aload_n {n : Fin 4} {x : Nat} (hd : sD M.2.1 pc 1 pc' (.aload_n n)) (hg : lget ls n = some (vr x)) (k : Cp g d M mc ms Q pc' ls (vr x :: st) T I L R) : Cp g d M mc ms Q pc ls st T I L R := by
  intro p e Rm s m args below meth c H locs cells slots lR X hH hS hc hs hl
  obtain ⟨hd, rfl⟩ := hd
  exact lv_aload_n X.1 X.2.1 hd rfl (lget_at hl hg) (k p e Rm s m args below meth c H locs cells slots lR X hH hS hc hs hl)
theorem r_aload {n : Nat} {x : Nat} (hd : sD M.2.1 pc 2 pc' (.aload n)) (hg : lget ls n = some (vr x)) (k : Cp g d M mc ms Q pc' ls (vr x :: st) T I L R) : Cp g d M mc ms Q pc ls st T I L R := by
  intro p e Rm s m args below meth c H locs cells slots lR X hH hS hc hs hl
  obtain ⟨hd, rfl⟩ := hd
  exact lv_aload X.1 X.2.1 hd (lget_at hl hg) (k p e Rm s m args below meth c H locs cells slots lR X hH hS hc hs hl)
theorem r_astore_n {n : Fin 4} {x : Nat} (hd : sD M.2.1 pc 1 pc' (.astore_n n)) (hn : (n : Nat) < M.2.2.1) (k : Cp g d M mc ms Q pc' (lst ls n (vr x)) st T I L R) : Cp g d M mc ms Q pc ls (vr x :: st) T I L R := by
  intro p e Rm s m args below meth c H locs cells slots lR X hH hS hc hs hl
  obtain ⟨hd, rfl⟩ := hd
  exact lv_astore_n X.1 X.2.1 hd rfl hl hn (lst_map g ls n (vr x)) (fun l1 h1 => k p e Rm s m args below meth c H locs cells slots l1 X hH hS hc hs h1)
theorem r_astore {n : Nat} {x : Nat} (hd : sD M.2.1 pc 2 pc' (.astore n)) (hn : n < M.2.2.1) (k : Cp g d M mc ms Q pc' (lst ls n (vr x)) st T I L R) : Cp g d M mc ms Q pc ls (vr x :: st) T I L R := by
  intro p e Rm s m args below meth c H locs cells slots lR X hH hS hc hs hl
  obtain ⟨hd, rfl⟩ := hd
  exact lv_astore X.1 X.2.1 hd hl hn (lst_map g ls n (vr x)) (fun l1 h1 => k p e Rm s m args below meth c H locs cells slots l1 X hH hS hc hs h1)
theorem r_iinc {n : Nat} {z x : Int} (hd : sD M.2.1 pc 3 pc' (.iinc n z)) (hg : lget ls n = some (vi x)) (hn : n < M.2.2.1) (k : Cp g d M mc ms Q pc' (lst ls n (vi (x + z))) st T I L R) : Cp g d M mc ms Q pc ls st T I L R := by
  intro p e Rm s m args below meth c H locs cells slots lR X hH hS hc hs hl
  obtain ⟨hd, rfl⟩ := hd
  obtain ⟨k9, hk9⟩ := List.getElem?_of_mem (List.mem_map.mpr ⟨(n, vi x), lget_mem hg, rfl⟩ : (n, scv g (vi x)) ∈ ls.map (fun q => (q.1, scv g q.2)))
  exact lv_iinc X.1 X.2.1 hd hl hk9 (v := Int32.ofInt (x + z)) (Int32.ofInt_add x z).symm hn (lst_map g ls n (vi (x + z))) (fun l1 h1 => k p e Rm s m args below meth c H locs cells slots l1 X hH hS hc hs h1)
theorem r_iadd {x y : Int} (hd : sD M.2.1 pc 1 pc' .iadd) (k : Cp g d M mc ms Q pc' ls (vi (x + y) :: st) T I L R) : Cp g d M mc ms Q pc ls (vi y :: vi x :: st) T I L R := by
  intro p e Rm s m args below meth c H locs cells slots lR X hH hS hc hs hl
  obtain ⟨hd, rfl⟩ := hd
  refine lv_iadd X.1 X.2.1 hd ?_
  rw [← Int32.ofInt_add]
  exact k p e Rm s m args below meth c H locs cells slots lR X hH hS hc hs hl
theorem r_isub {x y : Int} (hd : sD M.2.1 pc 1 pc' .isub) (k : Cp g d M mc ms Q pc' ls (vi (x - y) :: st) T I L R) : Cp g d M mc ms Q pc ls (vi y :: vi x :: st) T I L R := by
  intro p e Rm s m args below meth c H locs cells slots lR X hH hS hc hs hl
  obtain ⟨hd, rfl⟩ := hd
  refine lv_isub X.1 X.2.1 hd ?_
  rw [← Int32.ofInt_sub]
  exact k p e Rm s m args below meth c H locs cells slots lR X hH hS hc hs hl
theorem r_imul {x y : Int} (hd : sD M.2.1 pc 1 pc' .imul) (k : Cp g d M mc ms Q pc' ls (vi (x * y) :: st) T I L R) : Cp g d M mc ms Q pc ls (vi y :: vi x :: st) T I L R := by
  intro p e Rm s m args below meth c H locs cells slots lR X hH hS hc hs hl
  obtain ⟨hd, rfl⟩ := hd
  refine lv_imul X.1 X.2.1 hd ?_
  rw [← Int32.ofInt_mul]
  exact k p e Rm s m args below meth c H locs cells slots lR X hH hS hc hs hl
theorem r_ladd {x y : Int} (hd : sD M.2.1 pc 1 pc' .ladd) (k : Cp g d M mc ms Q pc' ls (vl (x + y) :: st) T I L R) : Cp g d M mc ms Q pc ls (vl y :: vl x :: st) T I L R := by
  intro p e Rm s m args below meth c H locs cells slots lR X hH hS hc hs hl
  obtain ⟨hd, rfl⟩ := hd
  refine lv_ladd X.1 X.2.1 hd ?_
  rw [← Int64.ofInt_add]
  exact k p e Rm s m args below meth c H locs cells slots lR X hH hS hc hs hl
theorem r_lsub {x y : Int} (hd : sD M.2.1 pc 1 pc' .lsub) (k : Cp g d M mc ms Q pc' ls (vl (x - y) :: st) T I L R) : Cp g d M mc ms Q pc ls (vl y :: vl x :: st) T I L R := by
  intro p e Rm s m args below meth c H locs cells slots lR X hH hS hc hs hl
  obtain ⟨hd, rfl⟩ := hd
  refine lv_lsub X.1 X.2.1 hd ?_
  rw [← Int64.ofInt_sub]
  exact k p e Rm s m args below meth c H locs cells slots lR X hH hS hc hs hl
theorem r_lmul {x y : Int} (hd : sD M.2.1 pc 1 pc' .lmul) (k : Cp g d M mc ms Q pc' ls (vl (x * y) :: st) T I L R) : Cp g d M mc ms Q pc ls (vl y :: vl x :: st) T I L R := by
  intro p e Rm s m args below meth c H locs cells slots lR X hH hS hc hs hl
  obtain ⟨hd, rfl⟩ := hd
  refine lv_lmul X.1 X.2.1 hd ?_
  rw [← Int64.ofInt_mul]
  exact k p e Rm s m args below meth c H locs cells slots lR X hH hS hc hs hl
theorem r_ineg {x : Int} (hd : sD M.2.1 pc 1 pc' .ineg) (k : Cp g d M mc ms Q pc' ls (vi (-x) :: st) T I L R) : Cp g d M mc ms Q pc ls (vi x :: st) T I L R := by
  intro p e Rm s m args below meth c H locs cells slots lR X hH hS hc hs hl
  obtain ⟨hd, rfl⟩ := hd
  refine lv_ineg X.1 X.2.1 hd ?_
  have e9 : (0 - Int32.ofInt x) = Int32.ofInt (-x) := by rw [Int32.ofInt_neg, Int32.zero_sub]
  first | rw [e9] | rw [← Int32.ofInt_neg]
  exact k p e Rm s m args below meth c H locs cells slots lR X hH hS hc hs hl
theorem r_iand {x y : Int} (hd : sD M.2.1 pc 1 pc' .iand) (k : Cp g d M mc ms Q pc' ls (vi (sand x y) :: st) T I L R) : Cp g d M mc ms Q pc ls (vi y :: vi x :: st) T I L R := by
  intro p e Rm s m args below meth c H locs cells slots lR X hH hS hc hs hl
  obtain ⟨hd, rfl⟩ := hd
  refine lv_iand X.1 X.2.1 hd ?_
  have h9 := k p e Rm s m args below meth c H locs cells slots lR X hH hS hc hs hl
  simp only [List.map_cons, scv, sand, Int32.ofInt_toInt] at h9
  exact h9
theorem r_ior {x y : Int} (hd : sD M.2.1 pc 1 pc' .ior) (k : Cp g d M mc ms Q pc' ls (vi (sor x y) :: st) T I L R) : Cp g d M mc ms Q pc ls (vi y :: vi x :: st) T I L R := by
  intro p e Rm s m args below meth c H locs cells slots lR X hH hS hc hs hl
  obtain ⟨hd, rfl⟩ := hd
  refine lv_ior X.1 X.2.1 hd ?_
  have h9 := k p e Rm s m args below meth c H locs cells slots lR X hH hS hc hs hl
  simp only [List.map_cons, scv, sor, Int32.ofInt_toInt] at h9
  exact h9
theorem r_ixor {x y : Int} (hd : sD M.2.1 pc 1 pc' .ixor) (k : Cp g d M mc ms Q pc' ls (vi (sxor x y) :: st) T I L R) : Cp g d M mc ms Q pc ls (vi y :: vi x :: st) T I L R := by
  intro p e Rm s m args below meth c H locs cells slots lR X hH hS hc hs hl
  obtain ⟨hd, rfl⟩ := hd
  refine lv_ixor X.1 X.2.1 hd ?_
  have h9 := k p e Rm s m args below meth c H locs cells slots lR X hH hS hc hs hl
  simp only [List.map_cons, scv, sxor, Int32.ofInt_toInt] at h9
  exact h9
theorem r_ishl {x y : Int} (hd : sD M.2.1 pc 1 pc' .ishl) (k : Cp g d M mc ms Q pc' ls (vi (sshl x y) :: st) T I L R) : Cp g d M mc ms Q pc ls (vi y :: vi x :: st) T I L R := by
  intro p e Rm s m args below meth c H locs cells slots lR X hH hS hc hs hl
  obtain ⟨hd, rfl⟩ := hd
  refine lv_ishl X.1 X.2.1 hd ?_
  have h9 := k p e Rm s m args below meth c H locs cells slots lR X hH hS hc hs hl
  simp only [List.map_cons, scv, sshl, Int32.ofInt_toInt] at h9
  exact h9
theorem r_ishr {x y : Int} (hd : sD M.2.1 pc 1 pc' .ishr) (k : Cp g d M mc ms Q pc' ls (vi (sshr x y) :: st) T I L R) : Cp g d M mc ms Q pc ls (vi y :: vi x :: st) T I L R := by
  intro p e Rm s m args below meth c H locs cells slots lR X hH hS hc hs hl
  obtain ⟨hd, rfl⟩ := hd
  refine lv_ishr X.1 X.2.1 hd ?_
  have h9 := k p e Rm s m args below meth c H locs cells slots lR X hH hS hc hs hl
  simp only [List.map_cons, scv, sshr, Int32.ofInt_toInt] at h9
  exact h9
theorem r_land {x y : Int} (hd : sD M.2.1 pc 1 pc' .land) (k : Cp g d M mc ms Q pc' ls (vl (sland x y) :: st) T I L R) : Cp g d M mc ms Q pc ls (vl y :: vl x :: st) T I L R := by
  intro p e Rm s m args below meth c H locs cells slots lR X hH hS hc hs hl
  obtain ⟨hd, rfl⟩ := hd
  refine lv_land X.1 X.2.1 hd ?_
  have h9 := k p e Rm s m args below meth c H locs cells slots lR X hH hS hc hs hl
  simp only [List.map_cons, scv, sland, Int64.ofInt_toInt] at h9
  exact h9
theorem r_lor {x y : Int} (hd : sD M.2.1 pc 1 pc' .lor) (k : Cp g d M mc ms Q pc' ls (vl (slor x y) :: st) T I L R) : Cp g d M mc ms Q pc ls (vl y :: vl x :: st) T I L R := by
  intro p e Rm s m args below meth c H locs cells slots lR X hH hS hc hs hl
  obtain ⟨hd, rfl⟩ := hd
  refine lv_lor X.1 X.2.1 hd ?_
  have h9 := k p e Rm s m args below meth c H locs cells slots lR X hH hS hc hs hl
  simp only [List.map_cons, scv, slor, Int64.ofInt_toInt] at h9
  exact h9
theorem r_lshl {x y : Int} (hd : sD M.2.1 pc 1 pc' .lshl) (k : Cp g d M mc ms Q pc' ls (vl (slshl x y) :: st) T I L R) : Cp g d M mc ms Q pc ls (vi y :: vl x :: st) T I L R := by
  intro p e Rm s m args below meth c H locs cells slots lR X hH hS hc hs hl
  obtain ⟨hd, rfl⟩ := hd
  refine lv_lshl X.1 X.2.1 hd rfl ?_
  have h9 := k p e Rm s m args below meth c H locs cells slots lR X hH hS hc hs hl
  simp only [List.map_cons, scv, slshl, Int64.ofInt_toInt] at h9
  exact h9
theorem r_lshr {x y : Int} (hd : sD M.2.1 pc 1 pc' .lshr) (k : Cp g d M mc ms Q pc' ls (vl (slshr x y) :: st) T I L R) : Cp g d M mc ms Q pc ls (vi y :: vl x :: st) T I L R := by
  intro p e Rm s m args below meth c H locs cells slots lR X hH hS hc hs hl
  obtain ⟨hd, rfl⟩ := hd
  refine lv_lshr X.1 X.2.1 hd rfl ?_
  have h9 := k p e Rm s m args below meth c H locs cells slots lR X hH hS hc hs hl
  simp only [List.map_cons, scv, slshr, Int64.ofInt_toInt] at h9
  exact h9
theorem r_lushr {x y : Int} (hd : sD M.2.1 pc 1 pc' .lushr) (k : Cp g d M mc ms Q pc' ls (vl (slushr x y) :: st) T I L R) : Cp g d M mc ms Q pc ls (vi y :: vl x :: st) T I L R := by
  intro p e Rm s m args below meth c H locs cells slots lR X hH hS hc hs hl
  obtain ⟨hd, rfl⟩ := hd
  refine lv_lushr X.1 X.2.1 hd rfl ?_
  have h9 := k p e Rm s m args below meth c H locs cells slots lR X hH hS hc hs hl
  simp only [List.map_cons, scv, slushr, Int64.ofInt_toInt] at h9
  exact h9
theorem r_idiv {x y : Int} (hd : sD M.2.1 pc 1 pc' .idiv) (hx : -2147483648 ≤ x ∧ x ≤ 2147483647) (hy : 0 < y ∧ y ≤ 2147483647) (k : Cp g d M mc ms Q pc' ls (vi (x.tdiv y) :: st) T I L R) : Cp g d M mc ms Q pc ls (vi y :: vi x :: st) T I L R := by
  intro p e Rm s m args below meth c H locs cells slots lR X hH hS hc hs hl
  obtain ⟨hd, rfl⟩ := hd
  refine lv_idiv X.1 X.2.1 hd (fun h => ?_) ?_
  · have h1 := congrArg Int32.toInt h
    rw [Int32.toInt_ofInt_of_le (by omega) (by omega)] at h1
    have : (0 : Int32).toInt = 0 := rfl
    omega
  · have e9 : Int32.ofInt x / Int32.ofInt y = Int32.ofInt (x.tdiv y) := by
      apply Int32.toInt_inj.mp
      rw [Int32.toInt_div_of_ne_right, Int32.toInt_ofInt_of_le (by omega) (by omega), Int32.toInt_ofInt_of_le (by omega) (by omega), Int32.toInt_ofInt_of_le]
      · have := Int.natAbs_tdiv_le_natAbs x y
        omega
      · have := Int.natAbs_tdiv_le_natAbs x y
        by_cases h0 : x = -2147483648
        · have h2 : (x.tdiv y) ≤ 0 := by
            rw [h0]
            have := Int.tdiv_nonneg (a := 2147483648) (b := y) (by omega) (by omega)
            have h3 : (-2147483648 : Int).tdiv y = -((2147483648 : Int).tdiv y) := Int.neg_tdiv _ _
            omega
          omega
        · omega
      · intro h
        have h1 := congrArg Int32.toInt h
        rw [Int32.toInt_ofInt_of_le (by omega) (by omega)] at h1
        have : (-1 : Int32).toInt = -1 := rfl
        omega
    rw [e9]
    exact k p e Rm s m args below meth c H locs cells slots lR X hH hS hc hs hl
theorem r_irem {x y : Int} (hd : sD M.2.1 pc 1 pc' .irem) (hx : -2147483648 ≤ x ∧ x ≤ 2147483647) (hy : 0 < y ∧ y ≤ 2147483647) (k : Cp g d M mc ms Q pc' ls (vi (x.tmod y) :: st) T I L R) : Cp g d M mc ms Q pc ls (vi y :: vi x :: st) T I L R := by
  intro p e Rm s m args below meth c H locs cells slots lR X hH hS hc hs hl
  obtain ⟨hd, rfl⟩ := hd
  refine lv_irem X.1 X.2.1 hd (fun h => ?_) ?_
  · have h1 := congrArg Int32.toInt h
    rw [Int32.toInt_ofInt_of_le (by omega) (by omega)] at h1
    have : (0 : Int32).toInt = 0 := rfl
    omega
  · have e9 : Int32.ofInt x - Int32.ofInt x / Int32.ofInt y * Int32.ofInt y = Int32.ofInt (x.tmod y) := by
      apply Int32.toInt_inj.mp
      have hb := tmod_bounds (a := x) (M := y) (by omega)
      rw [rem_toInt, Int32.toInt_ofInt_of_le (by omega) (by omega), Int32.toInt_ofInt_of_le (by omega) (by omega), Int32.toInt_ofInt_of_le (by omega) (by omega)]
    rw [e9]
    exact k p e Rm s m args below meth c H locs cells slots lR X hH hS hc hs hl
theorem r_ldiv {x y : Int} (hd : sD M.2.1 pc 1 pc' .ldiv) (hx : 0 ≤ x ∧ x ≤ 9223372036854775807) (hy : 0 < y ∧ y ≤ 9223372036854775807) (k : Cp g d M mc ms Q pc' ls (vl (x / y) :: st) T I L R) : Cp g d M mc ms Q pc ls (vl y :: vl x :: st) T I L R := by
  intro p e Rm s m args below meth c H locs cells slots lR X hH hS hc hs hl
  obtain ⟨hd, rfl⟩ := hd
  refine lv_ldiv X.1 X.2.1 hd (fun h => ?_) ?_
  · have h1 := congrArg Int64.toInt h
    rw [Int64.toInt_ofInt_of_le (by omega) (by omega)] at h1
    have : (0 : Int64).toInt = 0 := rfl
    omega
  · have hq0 : 0 ≤ x / y := Int.ediv_nonneg hx.1 (by omega)
    have hq1 : x / y ≤ x := Int.ediv_le_self y hx.1
    have e9 : Int64.ofInt x / Int64.ofInt y = Int64.ofInt (x / y) := by
      apply Int64.toInt_inj.mp
      rw [Int64.toInt_div_of_ne_right, Int64.toInt_ofInt_of_le (by omega) (by omega), Int64.toInt_ofInt_of_le (by omega) (by omega), Int64.toInt_ofInt_of_le (by omega) (by omega), Int.tdiv_eq_ediv_of_nonneg hx.1]
      intro h
      have h1 := congrArg Int64.toInt h
      rw [Int64.toInt_ofInt_of_le (by omega) (by omega)] at h1
      have : (-1 : Int64).toInt = -1 := rfl
      omega
    rw [e9]
    exact k p e Rm s m args below meth c H locs cells slots lR X hH hS hc hs hl
theorem r_lrem {x y : Int} (hd : sD M.2.1 pc 1 pc' .lrem) (hx : 0 ≤ x ∧ x ≤ 9223372036854775807) (hy : 0 < y ∧ y ≤ 9223372036854775807) (k : Cp g d M mc ms Q pc' ls (vl (x % y) :: st) T I L R) : Cp g d M mc ms Q pc ls (vl y :: vl x :: st) T I L R := by
  intro p e Rm s m args below meth c H locs cells slots lR X hH hS hc hs hl
  obtain ⟨hd, rfl⟩ := hd
  refine lv_lrem X.1 X.2.1 hd (fun h => ?_) ?_
  · have h1 := congrArg Int64.toInt h
    rw [Int64.toInt_ofInt_of_le (by omega) (by omega)] at h1
    have : (0 : Int64).toInt = 0 := rfl
    omega
  · have hq0 : 0 ≤ x / y := Int.ediv_nonneg hx.1 (by omega)
    have hq1 : x / y ≤ x := Int.ediv_le_self y hx.1
    have e8 : Int64.ofInt x / Int64.ofInt y = Int64.ofInt (x / y) := by
      apply Int64.toInt_inj.mp
      rw [Int64.toInt_div_of_ne_right, Int64.toInt_ofInt_of_le (by omega) (by omega), Int64.toInt_ofInt_of_le (by omega) (by omega), Int64.toInt_ofInt_of_le (by omega) (by omega), Int.tdiv_eq_ediv_of_nonneg hx.1]
      intro h
      have h1 := congrArg Int64.toInt h
      rw [Int64.toInt_ofInt_of_le (by omega) (by omega)] at h1
      have : (-1 : Int64).toInt = -1 := rfl
      omega
    have e9 : Int64.ofInt x - Int64.ofInt x / Int64.ofInt y * Int64.ofInt y = Int64.ofInt (x % y) := by
      rw [e8, ← Int64.ofInt_mul, ← Int64.ofInt_sub, Int.emod_def, Int.mul_comm y]
    rw [e9]
    exact k p e Rm s m args below meth c H locs cells slots lR X hH hS hc hs hl
theorem r_i2l {x : Int} (hd : sD M.2.1 pc 1 pc' .i2l) (hx : -2147483648 ≤ x ∧ x ≤ 2147483647) (k : Cp g d M mc ms Q pc' ls (vl x :: st) T I L R) : Cp g d M mc ms Q pc ls (vi x :: st) T I L R := by
  intro p e Rm s m args below meth c H locs cells slots lR X hH hS hc hs hl
  obtain ⟨hd, rfl⟩ := hd
  exact lv_i2l X.1 X.2.1 hd (Int32.toInt64_ofInt (by have : Int32.minValue.toInt = -2147483648 := rfl; omega) (by have : Int32.maxValue.toInt = 2147483647 := rfl; omega)) (k p e Rm s m args below meth c H locs cells slots lR X hH hS hc hs hl)
theorem r_l2i {x : Int} (hd : sD M.2.1 pc 1 pc' .l2i) (k : Cp g d M mc ms Q pc' ls (vi x :: st) T I L R) : Cp g d M mc ms Q pc ls (vl x :: st) T I L R := by
  intro p e Rm s m args below meth c H locs cells slots lR X hH hS hc hs hl
  obtain ⟨hd, rfl⟩ := hd
  exact lv_l2i X.1 X.2.1 hd Int64.toInt32_ofInt (k p e Rm s m args below meth c H locs cells slots lR X hH hS hc hs hl)
theorem r_i2b {x : Int} (hd : sD M.2.1 pc 1 pc' .i2b) (k : Cp g d M mc ms Q pc' ls (vi (sb2 x) :: st) T I L R) : Cp g d M mc ms Q pc ls (vi x :: st) T I L R := by
  intro p e Rm s m args below meth c H locs cells slots lR X hH hS hc hs hl
  obtain ⟨hd, rfl⟩ := hd
  exact lv_i2b X.1 X.2.1 hd (Int32.ofInt_toInt _).symm (k p e Rm s m args below meth c H locs cells slots lR X hH hS hc hs hl)
theorem r_i2c {x : Int} (hd : sD M.2.1 pc 1 pc' .i2c) (k : Cp g d M mc ms Q pc' ls (vi (sc2 x) :: st) T I L R) : Cp g d M mc ms Q pc ls (vi x :: st) T I L R := by
  intro p e Rm s m args below meth c H locs cells slots lR X hH hS hc hs hl
  obtain ⟨hd, rfl⟩ := hd
  exact lv_i2c X.1 X.2.1 hd (Int32.ofInt_toInt _).symm (k p e Rm s m args below meth c H locs cells slots lR X hH hS hc hs hl)
theorem r_lcmp {x y : Int} (hd : sD M.2.1 pc 1 pc' .lcmp) (hx : -9223372036854775808 ≤ x ∧ x ≤ 9223372036854775807) (hy : -9223372036854775808 ≤ y ∧ y ≤ 9223372036854775807) (k : Cp g d M mc ms Q pc' ls (vi (if y < x then 1 else if x = y then 0 else -1) :: st) T I L R) : Cp g d M mc ms Q pc ls (vl y :: vl x :: st) T I L R := by
  intro p e Rm s m args below meth c H locs cells slots lR X hH hS hc hs hl
  obtain ⟨hd, rfl⟩ := hd
  refine W.lcmp X.1 X.2.1 hd ?_
  have e9 : lg_cmp (Int64.ofInt x) (Int64.ofInt y) = Int32.ofInt (if y < x then 1 else if x = y then 0 else -1) := by
    unfold lg_cmp
    by_cases h1 : y < x
    · have h2 : Int64.ofInt y < Int64.ofInt x := (r64_lt hy hx).mpr h1
      simp only [gt_iff_lt, h1, h2, if_true]; rfl
    · have h2 : ¬ Int64.ofInt y < Int64.ofInt x := fun h => h1 ((r64_lt hy hx).mp h)
      by_cases h3 : x = y
      · subst h3; simp only [gt_iff_lt, h1, h2, if_true, if_false]; rfl
      · have h4 : ¬ Int64.ofInt x = Int64.ofInt y := fun h => h3 ((r64_eq hx hy).mp h)
        simp only [gt_iff_lt, h1, h2, h3, h4, if_false]; rfl
  rw [e9]
  exact k p e Rm s m args below meth c H locs cells slots lR X hH hS hc hs hl
theorem r_dup {v : sV} (hd : sD M.2.1 pc 1 pc' .dup) (hv : isL v = false) (k : Cp g d M mc ms Q pc' ls (v :: v :: st) T I L R) : Cp g d M mc ms Q pc ls (v :: st) T I L R := by
  intro p e Rm s m args below meth c H locs cells slots lR X hH hS hc hs hl
  obtain ⟨hd, rfl⟩ := hd
  have h9 : (scv g v).category = 1 := by
    rcases v with z | z | r
    · rfl
    · cases hv
    · cases r <;> rfl
  exact lv_dup X.1 X.2.1 hd h9 (k p e Rm s m args below meth c H locs cells slots lR X hH hS hc hs hl)
theorem r_pop {v : sV} (hd : sD M.2.1 pc 1 pc' .pop) (hv : isL v = false) (k : Cp g d M mc ms Q pc' ls st T I L R) : Cp g d M mc ms Q pc ls (v :: st) T I L R := by
  intro p e Rm s m args below meth c H locs cells slots lR X hH hS hc hs hl
  obtain ⟨hd, rfl⟩ := hd
  have h9 : (scv g v).category = 1 := by
    rcases v with z | z | r
    · rfl
    · cases hv
    · cases r <;> rfl
  exact lv_pop X.1 X.2.1 hd h9 (k p e Rm s m args below meth c H locs cells slots lR X hH hS hc hs hl)
theorem r_dup2 {v w : sV} (hd : sD M.2.1 pc 1 pc' .dup2) (hv : isL v = false) (hw : isL w = false) (k : Cp g d M mc ms Q pc' ls (v :: w :: v :: w :: st) T I L R) : Cp g d M mc ms Q pc ls (v :: w :: st) T I L R := by
  intro p e Rm s m args below meth c H locs cells slots lR X hH hS hc hs hl
  obtain ⟨hd, rfl⟩ := hd
  have h9 : ∀ u : sV, isL u = false → (scv g u).category = 1 := fun u hu => by
    rcases u with z | z | r
    · rfl
    · cases hu
    · cases r <;> rfl
  exact lv_dup2_11 X.1 X.2.1 hd (h9 v hv) (h9 w hw) (k p e Rm s m args below meth c H locs cells slots lR X hH hS hc hs hl)
theorem r_icmp_eq {x y : Int} (hd : sJ M.2.1 pc pc' tgt (.if_icmp .eq)) (hx : -2147483648 ≤ x ∧ x ≤ 2147483647) (hy : -2147483648 ≤ y ∧ y ≤ 2147483647) (kt : x = y → Cp g d M mc ms Q tgt ls st T I L R) (kf : ¬ x = y → Cp g d M mc ms Q pc' ls st T I L R) : Cp g d M mc ms Q pc ls (vi y :: vi x :: st) T I L R := by
  intro p e Rm s m args below meth c H locs cells slots lR X hH hS hc hs hl
  obtain ⟨off, hd, rfl, ht⟩ := hd
  exact lv_icmp_eq X.1 X.2.1 hd ht (fun h => kt ((r32_eq hx hy).mp h) p e Rm s m args below meth c H locs cells slots lR X hH hS hc hs hl) (fun h => kf (fun q => h ((r32_eq hx hy).mpr q)) p e Rm s m args below meth c H locs cells slots lR X hH hS hc hs hl)
theorem r_icmp_lt {x y : Int} (hd : sJ M.2.1 pc pc' tgt (.if_icmp .lt)) (hx : -2147483648 ≤ x ∧ x ≤ 2147483647) (hy : -2147483648 ≤ y ∧ y ≤ 2147483647) (kt : x < y → Cp g d M mc ms Q tgt ls st T I L R) (kf : ¬ x < y → Cp g d M mc ms Q pc' ls st T I L R) : Cp g d M mc ms Q pc ls (vi y :: vi x :: st) T I L R := by
  intro p e Rm s m args below meth c H locs cells slots lR X hH hS hc hs hl
  obtain ⟨off, hd, rfl, ht⟩ := hd
  exact lv_icmp_lt X.1 X.2.1 hd ht (fun h => kt ((r32_lt hx hy).mp h) p e Rm s m args below meth c H locs cells slots lR X hH hS hc hs hl) (fun h => kf (fun q => h ((r32_lt hx hy).mpr q)) p e Rm s m args below meth c H locs cells slots lR X hH hS hc hs hl)
theorem r_icmp_le {x y : Int} (hd : sJ M.2.1 pc pc' tgt (.if_icmp .le)) (hx : -2147483648 ≤ x ∧ x ≤ 2147483647) (hy : -2147483648 ≤ y ∧ y ≤ 2147483647) (kt : x ≤ y → Cp g d M mc ms Q tgt ls st T I L R) (kf : ¬ x ≤ y → Cp g d M mc ms Q pc' ls st T I L R) : Cp g d M mc ms Q pc ls (vi y :: vi x :: st) T I L R := by
  intro p e Rm s m args below meth c H locs cells slots lR X hH hS hc hs hl
  obtain ⟨off, hd, rfl, ht⟩ := hd
  exact lv_icmp_le X.1 X.2.1 hd ht (fun h => kt ((r32_le hx hy).mp h) p e Rm s m args below meth c H locs cells slots lR X hH hS hc hs hl) (fun h => kf (fun q => h ((r32_le hx hy).mpr q)) p e Rm s m args below meth c H locs cells slots lR X hH hS hc hs hl)
theorem r_icmp_gt {x y : Int} (hd : sJ M.2.1 pc pc' tgt (.if_icmp .gt)) (hx : -2147483648 ≤ x ∧ x ≤ 2147483647) (hy : -2147483648 ≤ y ∧ y ≤ 2147483647) (kt : y < x → Cp g d M mc ms Q tgt ls st T I L R) (kf : ¬ y < x → Cp g d M mc ms Q pc' ls st T I L R) : Cp g d M mc ms Q pc ls (vi y :: vi x :: st) T I L R := by
  intro p e Rm s m args below meth c H locs cells slots lR X hH hS hc hs hl
  obtain ⟨off, hd, rfl, ht⟩ := hd
  exact lv_icmp_gt X.1 X.2.1 hd ht (fun h => kt ((r32_lt hy hx).mp h) p e Rm s m args below meth c H locs cells slots lR X hH hS hc hs hl) (fun h => kf (fun q => h ((r32_lt hy hx).mpr q)) p e Rm s m args below meth c H locs cells slots lR X hH hS hc hs hl)
theorem r_icmp_ge {x y : Int} (hd : sJ M.2.1 pc pc' tgt (.if_icmp .ge)) (hx : -2147483648 ≤ x ∧ x ≤ 2147483647) (hy : -2147483648 ≤ y ∧ y ≤ 2147483647) (kt : y ≤ x → Cp g d M mc ms Q tgt ls st T I L R) (kf : ¬ y ≤ x → Cp g d M mc ms Q pc' ls st T I L R) : Cp g d M mc ms Q pc ls (vi y :: vi x :: st) T I L R := by
  intro p e Rm s m args below meth c H locs cells slots lR X hH hS hc hs hl
  obtain ⟨off, hd, rfl, ht⟩ := hd
  exact lv_icmp_ge X.1 X.2.1 hd ht (fun h => kt ((r32_le hy hx).mp h) p e Rm s m args below meth c H locs cells slots lR X hH hS hc hs hl) (fun h => kf (fun q => h ((r32_le hy hx).mpr q)) p e Rm s m args below meth c H locs cells slots lR X hH hS hc hs hl)
theorem r_icmp_ne {x y : Int} (hd : sJ M.2.1 pc pc' tgt (.if_icmp .ne)) (hx : -2147483648 ≤ x ∧ x ≤ 2147483647) (hy : -2147483648 ≤ y ∧ y ≤ 2147483647) (kt : ¬ x = y → Cp g d M mc ms Q tgt ls st T I L R) (kf : x = y → Cp g d M mc ms Q pc' ls st T I L R) : Cp g d M mc ms Q pc ls (vi y :: vi x :: st) T I L R := by
  intro p e Rm s m args below meth c H locs cells slots lR X hH hS hc hs hl
  obtain ⟨off, hd, rfl, ht⟩ := hd
  exact lv_icmp_ne X.1 X.2.1 hd ht (fun h => kt (fun q => h ((r32_eq hx hy).mpr q)) p e Rm s m args below meth c H locs cells slots lR X hH hS hc hs hl) (fun h => kf ((r32_eq hx hy).mp h) p e Rm s m args below meth c H locs cells slots lR X hH hS hc hs hl)
theorem r_if_eq {x : Int} (hd : sJ M.2.1 pc pc' tgt (.ifCond .eq)) (hx : -2147483648 ≤ x ∧ x ≤ 2147483647) (kt : x = 0 → Cp g d M mc ms Q tgt ls st T I L R) (kf : ¬ x = 0 → Cp g d M mc ms Q pc' ls st T I L R) : Cp g d M mc ms Q pc ls (vi x :: st) T I L R := by
  intro p e Rm s m args below meth c H locs cells slots lR X hH hS hc hs hl
  obtain ⟨off, hd, rfl, ht⟩ := hd
  exact lv_if_eq X.1 X.2.1 hd ht (fun h => kt ((r32_eq (y := 0) hx ⟨by decide, by decide⟩).mp h) p e Rm s m args below meth c H locs cells slots lR X hH hS hc hs hl) (fun h => kf (fun q => h ((r32_eq (y := 0) hx ⟨by decide, by decide⟩).mpr q)) p e Rm s m args below meth c H locs cells slots lR X hH hS hc hs hl)
theorem r_if_lt {x : Int} (hd : sJ M.2.1 pc pc' tgt (.ifCond .lt)) (hx : -2147483648 ≤ x ∧ x ≤ 2147483647) (kt : x < 0 → Cp g d M mc ms Q tgt ls st T I L R) (kf : ¬ x < 0 → Cp g d M mc ms Q pc' ls st T I L R) : Cp g d M mc ms Q pc ls (vi x :: st) T I L R := by
  intro p e Rm s m args below meth c H locs cells slots lR X hH hS hc hs hl
  obtain ⟨off, hd, rfl, ht⟩ := hd
  exact lv_if_lt X.1 X.2.1 hd ht (fun h => kt ((r32_lt (y := 0) hx ⟨by decide, by decide⟩).mp h) p e Rm s m args below meth c H locs cells slots lR X hH hS hc hs hl) (fun h => kf (fun q => h ((r32_lt (y := 0) hx ⟨by decide, by decide⟩).mpr q)) p e Rm s m args below meth c H locs cells slots lR X hH hS hc hs hl)
theorem r_if_le {x : Int} (hd : sJ M.2.1 pc pc' tgt (.ifCond .le)) (hx : -2147483648 ≤ x ∧ x ≤ 2147483647) (kt : x ≤ 0 → Cp g d M mc ms Q tgt ls st T I L R) (kf : ¬ x ≤ 0 → Cp g d M mc ms Q pc' ls st T I L R) : Cp g d M mc ms Q pc ls (vi x :: st) T I L R := by
  intro p e Rm s m args below meth c H locs cells slots lR X hH hS hc hs hl
  obtain ⟨off, hd, rfl, ht⟩ := hd
  exact lv_if_le X.1 X.2.1 hd ht (fun h => kt ((r32_le (y := 0) hx ⟨by decide, by decide⟩).mp h) p e Rm s m args below meth c H locs cells slots lR X hH hS hc hs hl) (fun h => kf (fun q => h ((r32_le (y := 0) hx ⟨by decide, by decide⟩).mpr q)) p e Rm s m args below meth c H locs cells slots lR X hH hS hc hs hl)
theorem r_if_gt {x : Int} (hd : sJ M.2.1 pc pc' tgt (.ifCond .gt)) (hx : -2147483648 ≤ x ∧ x ≤ 2147483647) (kt : 0 < x → Cp g d M mc ms Q tgt ls st T I L R) (kf : ¬ 0 < x → Cp g d M mc ms Q pc' ls st T I L R) : Cp g d M mc ms Q pc ls (vi x :: st) T I L R := by
  intro p e Rm s m args below meth c H locs cells slots lR X hH hS hc hs hl
  obtain ⟨off, hd, rfl, ht⟩ := hd
  exact lv_if_gt X.1 X.2.1 hd ht (fun h => kt ((r32_lt (x := 0) ⟨by decide, by decide⟩ hx).mp h) p e Rm s m args below meth c H locs cells slots lR X hH hS hc hs hl) (fun h => kf (fun q => h ((r32_lt (x := 0) ⟨by decide, by decide⟩ hx).mpr q)) p e Rm s m args below meth c H locs cells slots lR X hH hS hc hs hl)
theorem r_if_ge {x : Int} (hd : sJ M.2.1 pc pc' tgt (.ifCond .ge)) (hx : -2147483648 ≤ x ∧ x ≤ 2147483647) (kt : 0 ≤ x → Cp g d M mc ms Q tgt ls st T I L R) (kf : ¬ 0 ≤ x → Cp g d M mc ms Q pc' ls st T I L R) : Cp g d M mc ms Q pc ls (vi x :: st) T I L R := by
  intro p e Rm s m args below meth c H locs cells slots lR X hH hS hc hs hl
  obtain ⟨off, hd, rfl, ht⟩ := hd
  exact lv_if_ge X.1 X.2.1 hd ht (fun h => kt ((r32_le (x := 0) ⟨by decide, by decide⟩ hx).mp h) p e Rm s m args below meth c H locs cells slots lR X hH hS hc hs hl) (fun h => kf (fun q => h ((r32_le (x := 0) ⟨by decide, by decide⟩ hx).mpr q)) p e Rm s m args below meth c H locs cells slots lR X hH hS hc hs hl)
theorem r_if_ne {x : Int} (hd : sJ M.2.1 pc pc' tgt (.ifCond .ne)) (hx : -2147483648 ≤ x ∧ x ≤ 2147483647) (kt : ¬ x = 0 → Cp g d M mc ms Q tgt ls st T I L R) (kf : x = 0 → Cp g d M mc ms Q pc' ls st T I L R) : Cp g d M mc ms Q pc ls (vi x :: st) T I L R := by
  intro p e Rm s m args below meth c H locs cells slots lR X hH hS hc hs hl
  obtain ⟨off, hd, rfl, ht⟩ := hd
  exact lv_if_ne X.1 X.2.1 hd ht (fun h => kt (fun q => h ((r32_eq (y := 0) hx ⟨by decide, by decide⟩).mpr q)) p e Rm s m args below meth c H locs cells slots lR X hH hS hc hs hl) (fun h => kf ((r32_eq (y := 0) hx ⟨by decide, by decide⟩).mp h) p e Rm s m args below meth c H locs cells slots lR X hH hS hc hs hl)
theorem r_goto (hd : sJ M.2.1 pc pc' tgt .goto) (k : Cp g d M mc ms Q tgt ls st T I L R) : Cp g d M mc ms Q pc ls st T I L R := by
  intro p e Rm s m args below meth c H locs cells slots lR X hH hS hc hs hl
  obtain ⟨off, hd, rfl, ht⟩ := hd
  exact lv_goto X.1 X.2.1 hd ht (k p e Rm s m args below meth c H locs cells slots lR X hH hS hc hs hl)
end SR
