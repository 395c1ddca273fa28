def zrf (I : sI) (a : Nat) : sI := fun x j => if a ≤ x then 0 else I x j
def rnf (R : sR) (a : Nat) : sR := fun x j => if a ≤ x then none else R x j
theorem sws_push {g : sG} {T N : sT} {I L I' L' : sI} {R R' : sR} (h3 : 3 ≤ T.length) (hx : ∀ x, x < T.length → I' x = I x ∧ L' x = L x ∧ R' x = R x) : sws g (T ++ N) I' L' R' = sws g T I L R ++ (List.range N.length).map (fun q => (g.2.1 + (T.length - 3) + q, scell g (N.getD q (0, 0)) (T.length + q) I' L' R')) := by
  apply List.ext_getElem?
  intro i
  by_cases h1 : i < T.length - 3
  · rw [List.getElem?_append_left (by unfold sws; rw [List.length_map, List.length_range]; exact h1)]
    unfold sws
    rw [List.getElem?_map, List.getElem?_map, List.getElem?_range (by rw [List.length_append]; omega), List.getElem?_range h1]
    obtain ⟨e1, e2, e3⟩ := hx (i + 3) (by omega)
    have e4 : (T ++ N).getD (i + 3) (0, 0) = T.getD (i + 3) (0, 0) := by
      rw [List.getD_eq_getElem?_getD, List.getD_eq_getElem?_getD, List.getElem?_append_left (by omega)]
    simp only [Option.map_some, e4]
    rw [scell_congr e1 e2 e3]
  · have hl : (sws g T I L R).length = T.length - 3 := by unfold sws; rw [List.length_map, List.length_range]
    rw [List.getElem?_append_right (by omega), hl]
    unfold sws
    rw [List.getElem?_map, List.getElem?_map, List.length_append]
    by_cases h2 : i < T.length + N.length - 3
    · rw [List.getElem?_range h2, List.getElem?_range (by omega)]
      have e4 : (T ++ N).getD (i + 3) (0, 0) = N.getD (i - (T.length - 3)) (0, 0) := by
        rw [List.getD_eq_getElem?_getD, List.getD_eq_getElem?_getD, List.getElem?_append_right (by omega)]
        congr 2
        omega
      have e5 : i + 3 = T.length + (i - (T.length - 3)) := by omega
      have e6 : g.2.1 + i = g.2.1 + (T.length - 3) + (i - (T.length - 3)) := by omega
      simp only [Option.map_some, e4]
      rw [← e5, ← e6]
    · rw [List.getElem?_eq_none (by rw [List.length_range]; omega), List.getElem?_eq_none (by rw [List.length_range]; omega)]
      rfl
theorem sXt_push {g : sG} {T N : sT} {I L I' L' : sI} (h : sXt g T I L) (hI : ∀ x, x < 3 → I' x = I x) (hL : ∀ x, x < 3 → L' x = L x) : sXt g (T ++ N) I' L' := by
  obtain ⟨h1, h2, h3, h4, h5, h6⟩ := h
  have hl : 2 < T.length := (List.getElem?_eq_some_iff.mp h3).1
  exact ⟨by rw [List.getElem?_append_left (by omega)]; exact h1, by rw [List.getElem?_append_left (by omega)]; exact h2, by rw [List.getElem?_append_left (by omega)]; exact h3, fun j hj => by rw [hI 0 (by omega)]; exact h4 j hj, fun j hj => by rw [hI 1 (by omega)]; exact h5 j hj, fun j hj => by rw [hL 2 (by omega)]; exact h6 j hj⟩
theorem zrf_lt {I : sI} {a x : Nat} (h : x < a) : zrf I a x = I x := by
  funext j; unfold zrf; rw [if_neg (by omega)]
theorem rnf_lt {R : sR} {a x : Nat} (h : x < a) : rnf R a x = R x := by
  funext j; unfold rnf; rw [if_neg (by omega)]
theorem zrf_ge {I : sI} {a x j : Nat} (h : a ≤ x) : zrf I a x j = 0 := by unfold zrf; rw [if_pos h]
theorem rnf_ge {R : sR} {a x j : Nat} (h : a ≤ x) : rnf R a x j = none := by unfold rnf; rw [if_pos h]
section SN
variable {g : sG} {d : Nat} {M : sM} {mc ms : Nat} {Q : sQ} {pc pc' tgt : Nat} {ls : List (Nat × sV)} {st : List sV} {T : sT} {I L : sI} {R : sR}
/-- one cell more: the memory behind it -/
theorem new_fin {p : Program} {e : Env} {Rm : Room} {s : State} {m : MethodId} {args : Array Value} {below : List Frame} {meth : Method} {c0 : Code} {H H1 : Heap} {locs : List Loc} {cells slots n : Nat} {lR : Array Slot} {kd : Nat} (X : sCx g d M p Rm s m args meth c0) (hH : sHR g T I L R H) (hS : va_S (sA g) s.heap H locs) (hc : cells + (mc + 1) = Rm.cells ∧ s.heap.size + cells = H.size) (hs : slots + (ms + n) ≤ Rm.slots) (hl : lv_has lR M.2.2.1 (ls.map (fun q => (q.1, scv g q.2))))
    (kk : Cp g d M mc ms Q pc' ls (vr T.length :: st) (T ++ [(kd, n)]) (zrf I T.length) (zrf L T.length) (rnf R T.length)) (hz : H1.size = H.size + 1) (ho : ∀ q, q < H.size → H1[q]? = H[q]?) (hat : va_at g.2.2.2.1 vwCl (H.size, scell g (kd, n) T.length (zrf I T.length) (zrf L T.length) (rnf R T.length)) H1) : W p g.1 e Rm s m args below meth c0 H1 locs (cells + 1) (slots + n) (MQ below (sQm g Rm.cells Q) args s Rm.cells Rm.slots (sA g)) (F0 m pc' lR (.ref H.size :: st.map (scv g))) := by
  have hl3 : 2 < T.length := (List.getElem?_eq_some_iff.mp hH.1.2.2.1).1
  have hsz := hH.2.1
  have hb := X.2.2.2.2.2.2.2.2.1.2.2.2.2.2.2.2.1
  have hP1 : va_P g.2.2.2.1 vwCl (sws g (T ++ [(kd, n)]) (zrf I T.length) (zrf L T.length) (rnf R T.length)) H1 := by
    rw [sws_push (I := I) (L := L) (R := R) (by omega) (fun x hx => ⟨zrf_lt hx, zrf_lt hx, rnf_lt hx⟩)]
    refine va_P.app (hH.2.2.kept (fun k q hk => ho _ (hH.2.2 k q hk).lt)) ?_
    intro k q hk
    have hk1 : k < 1 := by have := (List.getElem?_eq_some_iff.mp hk).1; simpa using this
    have hk0 : k = 0 := by omega
    subst hk0
    simp at hk
    rw [← hk, ← hsz]
    exact hat
  have h9 := kk p e Rm s m args below meth c0 H1 locs (cells + 1) (slots + n) lR X ⟨sXt_push hH.1 (fun x h => zrf_lt (by omega)) (fun x h => zrf_lt (by omega)), by rw [hz, hsz, List.length_append]; simp; omega, hP1⟩ ⟨by rw [hz]; exact Nat.le_trans hS.1 (Nat.le_succ _), fun q h1 h2 => by rw [ho q (Nat.lt_of_lt_of_le h1 hS.1)]; exact hS.2.1 q h1 h2, hS.2.2⟩ ⟨by omega, by rw [hz]; omega⟩ (by omega) hl
  have e9 : scv g (vr T.length) = .ref H.size := by
    show Value.ref (sad g T.length) = _
    have h4 : ¬ T.length < 3 := by omega
    unfold sad
    rw [if_neg h4, hsz]
  have h8 : (vr T.length :: st).map (scv g) = .ref H.size :: st.map (scv g) := by rw [List.map_cons, e9]
  rw [h8] at h9
  exact h9
def dft : Nat → List FieldType → Bool
  | _, [] => true
  | _, t :: ts => (defaultValue t == defaultValue t) && dft 0 ts
theorem sfv_dft (g : sG) (t : FieldType) (ht : sfk t ≤ 3) : sfv g t 0 0 none = defaultValue t := by
  cases t <;> simp [sfk] at ht <;> rfl
theorem r_new {idx c n : Nat} {q : vw_C} (hd : sD M.2.1 pc 3 pc' (.new idx)) (hq : vwCl[c]? = some q) (hn : q.2.2 = n) (hw : Cond.classLink M.1.cls idx q.1 ∈ sTb ∧ Cond.instantiable q.1 n ∈ sTb ∧ Cond.initialized q.1 ∈ sTb) (hty : ∀ k, k < n → sfk (sTy c k) ≤ 3) (kk : Cp g d M mc ms Q pc' ls (vr T.length :: st) (T ++ [(c, n)]) (zrf I T.length) (zrf L T.length) (rnf R T.length)) : Cp g d M (mc + 1) (ms + n) Q pc ls st T I L R := by
  intro p e Rm s m args below meth c0 H locs cells slots lR X hH hS hc hs hl
  obtain ⟨hd, rfl⟩ := hd
  obtain ⟨⟨ok1, ok2, ok3, ok4⟩, hc9⟩ := sCl_ok hq
  have hts := X.2.2.2.2.2.1
  have hKn := X.2.2.2.2.2.2.2.2.1.1.1 c q hq
  subst hn
  refine W.newcK X.1 X.2.1 X.2.2.2.2.1 (hts _ hw.1) (hts _ hw.2.1) (hts _ hw.2.2) rfl hd (by omega) (by omega) hKn.2.1 rfl fun H1 kC hkC e1 z1 o1 => ?_
  refine new_fin X hH hS hc hs hl kk z1 o1 ?_
  rw [scell_obj hc9]
  refine ⟨q, hq, (u_born (sTy c) hts ok1 hKn hkC e1 ok3).to (fun j hj => ?_)⟩
  have : (sobj g c q.2.2 T.length (zrf I T.length) (zrf L T.length) (rnf R T.length))[j]? = some (defaultValue (sTy c j)) := by
    rw [sobj_get hj, zrf_ge (Nat.le_refl _), zrf_ge (Nat.le_refl _), rnf_ge (Nat.le_refl _), sfv_dft g _ (hty j hj)]
  simp [vp_V, this]
theorem r_newa {n : Int} {N kd : Nat} {aty : ArrayType} (hd : sD M.2.1 pc 2 pc' (.newarray aty)) (hk : (aty = .int ∧ kd = 10) ∨ (aty = .long ∧ kd = 11) ∨ (aty = .boolean ∧ kd = 12) ∨ (aty = .char ∧ kd = 13) ∨ (aty = .byte ∧ kd = 14)) (hw : Cond.arrayClass (newarray.typeOf aty) ∈ sTb) (hn : 0 ≤ n ∧ n ≤ 65536) (hN : n.toNat = N) (kk : Cp g d M mc ms Q pc' ls (vr T.length :: st) (T ++ [(kd, N)]) (zrf I T.length) (zrf L T.length) (rnf R T.length)) : Cp g d M (mc + 1) (ms + N) Q pc ls (vi n :: st) T I L R := by
  intro p e Rm s m args below meth c0 H locs cells slots lR X hH hS hc hs hl
  obtain ⟨hd, rfl⟩ := hd
  have hts := X.2.2.2.2.2.1
  have hKn := X.2.2.2.2.2.2.2.2.1.1.2
  have h0 : ¬ Int32.ofInt n < 0 := fun h => by
    have h3 : Int32.ofInt n < Int32.ofInt 0 := h
    rw [r32_lt (by omega) (by omega)] at h3
    omega
  have hcl : (Int32.ofInt n).toNatClampNeg = N := by rw [Int32.toNatClampNeg_ofInt_of_le (by omega) (by omega)]; exact hN
  have hby : N * componentBytes (newarray.typeOf aty) ≤ 536870912 := by
    have hN2 : N ≤ 65536 := by omega
    have hb8 : componentBytes (newarray.typeOf aty) ≤ 8 := by cases aty <;> decide
    calc N * componentBytes (newarray.typeOf aty) ≤ 65536 * 8 := Nat.mul_le_mul hN2 hb8
      _ ≤ 536870912 := by decide
  refine va_newaK X.1 X.2.1 (hts _ hw) rfl hd rfl h0 hcl hby (by omega) (by omega) rfl fun H1 cA e1 z1 o1 hAr hNm => ?_
  refine new_fin X hH hS hc hs hl kk z1 o1 ?_
  have hi0 : (fun i => Int32.ofInt (zrf I T.length T.length i)) = fun _ => (0 : Int32) := by
    funext i; rw [zrf_ge (Nat.le_refl _)]; rfl
  have hl0 : (fun i => Int64.ofInt (zrf L T.length T.length i)) = fun _ => (0 : Int64) := by
    funext i; rw [zrf_ge (Nat.le_refl _)]; rfl
  rcases hk with ⟨rfl, rfl⟩ | ⟨rfl, rfl⟩ | ⟨rfl, rfl⟩ | ⟨rfl, rfl⟩ | ⟨rfl, rfl⟩
  · obtain rfl := Option.some.inj (hNm.symm.trans (hKn 0 _ rfl).2)
    rw [scell_i (by omega), hi0]
    exact e1
  · obtain rfl := Option.some.inj (hNm.symm.trans (hKn 1 _ rfl).2)
    rw [scell_l, hl0]
    exact e1
  · obtain rfl := Option.some.inj (hNm.symm.trans (hKn 2 _ rfl).2)
    rw [scell_i (by omega), hi0]
    exact e1
  · obtain rfl := Option.some.inj (hNm.symm.trans (hKn 3 _ rfl).2)
    rw [scell_i (by omega), hi0]
    exact e1
  · obtain rfl := Option.some.inj (hNm.symm.trans (hKn 4 _ rfl).2)
    rw [scell_i (by omega), hi0]
    exact e1
theorem r_anewa {n : Int} {N idx : Nat} (hd : sD M.2.1 pc 3 pc' (.anewarray idx)) (hw : Cond.classLink M.1.cls idx "RoomsByThree$Rule" ∈ sTb) (hx : Cond.arrayOver (.object "RoomsByThree$Rule") ∈ sEx) (hn : 0 ≤ n ∧ n ≤ 65536) (hN : n.toNat = N) (kk : Cp g d M mc ms Q pc' ls (vr T.length :: st) (T ++ [(15, N)]) (zrf I T.length) (zrf L T.length) (rnf R T.length)) : Cp g d M (mc + 1) (ms + N) Q pc ls (vi n :: st) T I L R := by
  intro p e Rm s m args below meth c0 H locs cells slots lR X hH hS hc hs hl
  obtain ⟨hd, rfl⟩ := hd
  have hts := X.2.2.2.2.2.1
  have hKn := X.2.2.2.2.2.2.2.2.1.1.2
  have hov : va_AO "RoomsByThree$Rule" s := X.2.2.2.2.2.2.2.2.1.2.2.2.2.2.2.1 _ hx
  have h0 : ¬ Int32.ofInt n < 0 := fun h => by
    have h3 : Int32.ofInt n < Int32.ofInt 0 := h
    rw [r32_lt (by omega) (by omega)] at h3
    omega
  have hcl : (Int32.ofInt n).toNatClampNeg = N := by rw [Int32.toNatClampNeg_ofInt_of_le (by omega) (by omega)]; exact hN
  refine W.anew X.1 X.2.1 X.2.2.2.2.1 (hts _ hw) (va_AO.use hov) rfl hd rfl h0 (by rw [hcl]; omega) (by omega) (by rw [hcl]; omega) fun cA kA comp f1 f2 f3 f4 => ?_
  rw [hcl]
  have e1 : (H.push ({ cls := cA, slots := Array.replicate N .null, vm := .none } : Cell))[H.size]? = some (arrV cA N (fun _ => .null)) := by rw [Array.getElem?_push_size, ← arrV_new]
  refine new_fin X hH hS hc hs hl kk (Array.size_push _) (fun q hq => by rw [Array.getElem?_push, if_neg (Nat.ne_of_lt hq)]) ?_
  obtain ⟨kA2, comp2, -, -, -, hfA⟩ := (hKn 5 _ rfl).2
  obtain rfl := Option.some.inj (f1.symm.trans hfA)
  rw [scell_q (by omega)]
  have hr0 : (fun i => (rnf R T.length T.length i).map (sad g)) = fun _ => (none : Option Nat) := by
    funext i; rw [rnf_ge (Nat.le_refl _)]; rfl
  rw [hr0]
  exact e1
end SN
