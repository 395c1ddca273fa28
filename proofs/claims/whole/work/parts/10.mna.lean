theorem q_outer (c : ClassId) (N h0 : Nat) : ∀ i : Nat, Jvm.Free.Multi.outerC c N h0 i = arrV c N (fun j => va_rf (if j < i then some (h0 + 1 + j) else none))
  | 0 => by
    show ({ cls := c, slots := Array.replicate N .null, vm := .none } : Cell) = _
    rw [arrV_new]
    refine congrArg (arrV c N) (funext fun j => ?_)
    simp [va_rf]
  | i + 1 => by
    show (Jvm.Free.Multi.outerC c N h0 i).setSlot i (.ref (h0 + 1 + i)) = _
    rw [q_outer c N h0 i, arrV_store]
    refine congrArg (arrV c N) (funext fun j => ?_)
    by_cases e : j = i
    · subst e
      simp [updV, va_rf]
    · by_cases h : j < i
      · simp [updV, e, h, Nat.lt_succ_of_lt h]
      · simp [updV, e, h, show ¬ j < i + 1 by omega]
def rmn (R : sR) (a N : Nat) : sR := fun x j => if x = a then (if j < N then some (a + 1 + j) else none) else if a < x then none else R x j
theorem rmn_lt {R : sR} {a N x : Nat} (h : x < a) : rmn R a N x = R x := by
  funext j; unfold rmn; rw [if_neg (by omega), if_neg (by omega)]
section SM9
variable {g : sG} {d : Nat} {M : sM} {mc ms : Nat} {Q : sQ} {pc pc' tgt : Nat} {ls : List (Nat × sV)} {st : List sV} {T : sT} {I L : sI} {R : sR}
theorem r_mna {n k : Int} {N K idx kd ke : Nat} {ty : FieldType} (hd : sD M.2.1 pc 4 pc' (.multianewarray idx 2)) (hk : (ty = .int ∧ kd = 16 ∧ ke = 10) ∨ (ty = .long ∧ kd = 17 ∧ ke = 11)) (hw : Cond.classLink M.1.cls idx ("[" ++ (FieldType.array ty).toString) ∈ sTb) (hx : Cond.arrayOver (.array ty) ∈ sEx) (ha : Cond.arrayClass ty ∈ sTb) (hn : 0 ≤ n ∧ n ≤ 65536) (hm : 0 ≤ k ∧ k ≤ 65536) (hN : n.toNat = N) (hK : k.toNat = K) (kk : Cp g d M mc ms Q pc' ls (vr T.length :: st) (T ++ ((kd, N) :: List.replicate N (ke, K))) (zrf I T.length) (zrf L T.length) (rmn R T.length N)) : Cp g d M (mc + (1 + N)) (ms + (N + N * K)) Q pc ls (vi k :: vi n :: st) T I L R := by
  intro p e Rm s m args below meth c0 H locs cells slots lR X hH hS hc hs hl
  obtain ⟨hd, rfl⟩ := hd
  have hts := X.2.2.2.2.2.1
  have hKn := X.2.2.2.2.2.2.2.2.1.1.2
  have h0 : ∀ z : Int, 0 ≤ z ∧ z ≤ 65536 → ¬ Int32.ofInt z < 0 := fun z hz h => by
    have h3 : Int32.ofInt z < Int32.ofInt 0 := h
    rw [r32_lt (by omega) (by omega)] at h3
    omega
  have hcl : ∀ z : Int, 0 ≤ z ∧ z ≤ 65536 → (Int32.ofInt z).toNatClampNeg = z.toNat := fun z hz => Int32.toNatClampNeg_ofInt_of_le (by omega) (by omega)
  have hcn := (hcl n hn).trans hN
  have hck := (hcl k hm).trans hK
  have hover : (Cond.arrayOver (.array ty)).before args s = true := by
    have h9 : va_Nw (Cond.arrayOver (.array ty)) s := X.2.2.2.2.2.2.2.2.1.2.2.2.2.2.2.1 _ hx
    exact h9
  have hprim : fits ty (defaultValue ty) = true ∧ (defaultValue ty).isDefault = true ∧ componentBytes ty ≤ 8 := by
    rcases hk with ⟨rfl, -, -⟩ | ⟨rfl, -, -⟩ <;> exact ⟨by decide, by decide, by decide⟩
  have hl3 : 2 < T.length := (List.getElem?_eq_some_iff.mp hH.1.2.2.1).1
  have hsz := hH.2.1
  intro T9 hT9 X9
  obtain ⟨vm₁, cA, comp, -, fA, fC, hO, -, X', step⟩ := X9.multianewarray2F X.1 X.2.2.2.2.1 (hts _ hw) hover (hts _ ha) (g := F0 m pc lR ((vi k :: vi n :: st).map (scv g))) rfl (by rw [X.2.1]; exact hd) rfl (h0 n hn) (h0 k hm) (by rw [hcn]; omega) (by rw [hck]; have := Nat.mul_le_mul (show K ≤ 65536 by omega) hprim.2.2; omega) (by rw [hck]; omega) hprim.1 hprim.2.1 (by rw [hcn]; omega) (by rw [hcn, hck]; omega)
  rw [hcn, hck] at X' step
  generalize hF : Jvm.Free.Multi.fill (T9.setVm vm₁) cA comp N K (defaultValue ty) N = F at X' step
  have hTh : (T9.setVm vm₁).heap = H := hT9
  obtain ⟨f1, f2, -, -⟩ := Jvm.Free.Multi.fill_facts (T9.setVm vm₁) cA comp N K (defaultValue ty) N
  rw [hF, hTh] at f1 f2
  have hold : ∀ x : Nat, x < H.size → F.heap[x]? = H[x]? := fun x hx => by
    have := Jvm.Free.Multi.fill_old (T9.setVm vm₁) cA comp N K (defaultValue ty) (a := x) (by rw [hTh]; exact hx) N
    rw [hF, hTh] at this
    exact this
  have hrow : ∀ j : Nat, j < N → F.heap[H.size + 1 + j]? = some (Jvm.Free.Multi.innerC comp K (defaultValue ty)) := fun j hj => by
    have := Jvm.Free.Multi.fill_inner (T9.setVm vm₁) cA comp N K (defaultValue ty) N j hj
    rw [hF, hTh] at this
    exact this
  rw [q_outer] at f2
  have hP1 : va_P g.2.2.2.1 vwCl (sws g (T ++ ((kd, N) :: List.replicate N (ke, K))) (zrf I T.length) (zrf L T.length) (rmn R T.length N)) F.heap := by
    rw [sws_push (I := I) (L := L) (R := R) (by omega) (fun x hx => ⟨zrf_lt hx, zrf_lt hx, rmn_lt hx⟩)]
    refine va_P.app (hH.2.2.kept (fun k q hk => hold _ (hH.2.2 k q hk).lt)) ?_
    intro i q hi
    rw [List.getElem?_map] at hi
    have hil : i < N + 1 := by
      by_cases h : i < N + 1
      · exact h
      · rw [List.getElem?_eq_none (by rw [List.length_range, List.length_cons, List.length_replicate]; omega)] at hi
        cases hi
    rw [List.getElem?_range (by rw [List.length_cons, List.length_replicate]; exact hil)] at hi
    simp only [Option.map_some, Option.some.injEq] at hi
    rw [← hi, ← hsz]
    cases i with
    | zero =>
      show va_at _ _ (H.size + 0, scell g (kd, N) (T.length + 0) _ _ _) _
      rw [scell_q (by omega)]
      have hcy : g.2.2.2.2.1 kd = cA := by
        rcases hk with ⟨rfl, rfl, -⟩ | ⟨rfl, rfl, -⟩
        · exact Option.some.inj ((hKn 6 _ rfl).2.symm.trans fA)
        · exact Option.some.inj ((hKn 7 _ rfl).2.symm.trans fA)
      show F.heap[H.size]? = some (vp_cell _ _)
      rw [f2, vp_cell_q, hcy]
      congr 2
      funext j
      show va_rf _ = va_rf (Option.map (sad g) (rmn R T.length N T.length j))
      unfold rmn
      rw [if_pos rfl]
      by_cases hj : j < N
      · rw [if_pos hj, if_pos hj]
        show _ = va_rf (some (sad g (T.length + 1 + j)))
        unfold sad
        rw [if_neg (by omega), hsz]
        congr 2
        omega
      · rw [if_neg hj, if_neg hj]; rfl
    | succ i =>
      have e1 : ((kd, N) :: List.replicate N (ke, K)).getD (i + 1) (0, 0) = (ke, K) := by
        rw [List.getD_eq_getElem?_getD, List.getElem?_cons_succ, List.getElem?_replicate, if_pos (by omega)]; rfl
      rw [e1]
      have e2 : H.size + (i + 1) = H.size + 1 + i := by omega
      rw [e2]
      have hr9 := hrow i (by omega)
      have hi0 : (fun j => Int32.ofInt (zrf I T.length (T.length + (i + 1)) j)) = fun _ => (0 : Int32) := by
        funext j; rw [zrf_ge (by omega)]; rfl
      have hl0 : (fun j => Int64.ofInt (zrf L T.length (T.length + (i + 1)) j)) = fun _ => (0 : Int64) := by
        funext j; rw [zrf_ge (by omega)]; rfl
      rcases hk with ⟨rfl, rfl, rfl⟩ | ⟨rfl, rfl, rfl⟩
      · rw [scell_i (by omega), hi0]
        obtain rfl := Option.some.inj (fC.symm.trans (hKn 0 _ rfl).2)
        show F.heap[H.size + 1 + i]? = some (vp_cell _ _)
        rw [hr9, vp_cell_i]
        show some ({ cls := _, slots := Array.replicate K (.int 0), vm := .none } : Cell) = _
        rw [arrV_new]
      · rw [scell_l, hl0]
        obtain rfl := Option.some.inj (fC.symm.trans (hKn 1 _ rfl).2)
        show F.heap[H.size + 1 + i]? = some (vp_cell _ _)
        rw [hr9, vp_cell_l]
        show some ({ cls := _, slots := Array.replicate K (.long 0), vm := .none } : Cell) = _
        rw [arrV_new]
  have hFz : F.heap.size = H.size + 1 + N := by rw [f1]
  have h9 := kk p e Rm s m args below meth c0 F.heap locs (cells + 1 + N) (slots + N + N * K) lR X ⟨sXt_push hH.1 (fun x h => zrf_lt (by omega)) (fun x h => zrf_lt (by omega)), by rw [hFz, hsz, List.length_append, List.length_cons, List.length_replicate]; omega, hP1⟩ ⟨by rw [hFz]; have := hS.1; omega, fun q h1 h2 => by rw [hold q (Nat.lt_of_lt_of_le h1 hS.1)]; exact hS.2.1 q h1 h2, hS.2.2⟩ ⟨by omega, by rw [hFz]; omega⟩ (by omega) hl
  have e9 : scv g (vr T.length) = .ref T9.heap.size := by
    show Value.ref (sad g T.length) = _
    unfold sad
    rw [if_neg (by omega), hT9, hsz]
  have h8 : (vr T.length :: st).map (scv g) = .ref T9.heap.size :: st.map (scv g) := by rw [List.map_cons, e9]
  rw [h8] at h9
  obtain ⟨t, a1, b1⟩ := h9 F rfl X'
  exact ⟨t, step t a1, b1⟩
end SM9
