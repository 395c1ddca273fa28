theorem sws_low {g : sG} {T : sT} {I L : sI} {R : sR} {H1 : Heap} (hP : va_P g.2.2.2.1 vwCl (sws g T I L R) H1) (hl : 3 < T.length) : g.2.1 + (T.length - 3) ≤ H1.size := by
  have h : T[T.length - 1]? = some (T[T.length - 1]'(by omega)) := List.getElem?_eq_getElem (by omega)
  have h2 := (hP _ _ (sws_get (g := g) (I := I) (L := L) (R := R) h (by omega))).lt
  have h3 : ¬ T.length - 1 < 3 := by omega
  simp only [sad, h3, if_false] at h2
  omega
theorem W_sz {p : Program} {l : Launch} {e : Env} {Rm : Room} {s : State} {m : MethodId} {args : Array Value} {below : List Frame} {meth : Method} {c : Code} {H1 : Heap} {locs : List Loc} {cells slots n : Nat} {Q : State → Prop} {f : JFrame} (hlow : n ≤ H1.size) (hup : s.heap.size + cells = n) (h : H1.size = n → W p l e Rm s m args below meth c H1 locs cells slots Q f) : W p l e Rm s m args below meth c H1 locs cells slots Q f := by
  intro T hT X
  have h1 : T.heap.size ≤ s.heap.size + cells := X.same.2.2.1
  rw [hT] at h1
  exact h (by omega) T hT X
section SH
variable {g : sG} {d : Nat} {M : sM} {mc ms : Nat} {Q : sQ} {pc pc' tgt : Nat} {ls : List (Nat × sV)} {st : List sV} {T : sT} {I L : sI} {R : sR}
theorem r_get {idx c k n a : Nat} {fin : Bool} (hd : sD M.2.1 pc 3 pc' (.getfield idx)) (hf : sFL M.1.cls idx c k fin) (hT : T[a]? = some (c, n)) (hk : k < n) {v : sV} (hv : sfv g (sTy c k) (I a k) (L a k) (R a k) = scv g v) (kk : Cp g d M mc ms Q pc' ls (v :: st) T I L R) : Cp g d M mc ms Q pc ls (vr a :: st) T I L R := by
  intro p e Rm s m args below meth c0 H locs cells slots lR X hH hS hc hs hl
  obtain ⟨hd, rfl⟩ := hd
  obtain ⟨q, hq, hkq, -, hw⟩ := hf
  obtain ⟨⟨ok1, ok2, ok3, ok4⟩, hc9⟩ := sCl_ok hq
  have ha := sXt_ge hH.1 hT (by omega)
  have he := sws_get (g := g) (I := I) (L := L) (R := R) hT ha
  rw [scell_obj hc9] at he
  obtain ⟨C, Tt, N⟩ := q
  refine va_get (D := g.2.2.2.1) (ci := c) (C := C) (T := Tt) (N := N) X.1 X.2.1 X.2.2.2.2.2.1 ok1 X.2.2.2.2.1 X.2.2.2.2.2.2.2.2.1.1 hH.2.2 (a - 3) he hq k hkq (X.2.2.2.2.2.1 _ hw) (fun _ h9 => h9) (sobj_get hk) hd ?_
  rw [hv]
  exact kk p e Rm s m args below meth c0 H locs cells slots lR X hH hS hc hs hl
theorem r_geti {idx c k n a : Nat} {fin : Bool} (hd : sD M.2.1 pc 3 pc' (.getfield idx)) (hf : sFL M.1.cls idx c k fin) (hT : T[a]? = some (c, n)) (hk : k < n) (hty : sfk (sTy c k) = 0 ∨ sfk (sTy c k) = 3) (kk : Cp g d M mc ms Q pc' ls (vi (I a k) :: st) T I L R) : Cp g d M mc ms Q pc ls (vr a :: st) T I L R := by
  refine r_get hd hf hT hk (v := vi (I a k)) ?_ kk
  generalize sTy c k = t at hty
  cases t <;> simp [sfk] at hty <;> rfl
theorem r_getl {idx c k n a : Nat} {fin : Bool} (hd : sD M.2.1 pc 3 pc' (.getfield idx)) (hf : sFL M.1.cls idx c k fin) (hT : T[a]? = some (c, n)) (hk : k < n) (hty : sfk (sTy c k) = 1) (kk : Cp g d M mc ms Q pc' ls (vl (L a k) :: st) T I L R) : Cp g d M mc ms Q pc ls (vr a :: st) T I L R := by
  refine r_get hd hf hT hk (v := vl (L a k)) ?_ kk
  generalize sTy c k = t at hty
  cases t <;> simp [sfk] at hty <;> rfl
theorem r_getr {idx c k n a b : Nat} {fin : Bool} (hd : sD M.2.1 pc 3 pc' (.getfield idx)) (hf : sFL M.1.cls idx c k fin) (hT : T[a]? = some (c, n)) (hk : k < n) (hty : sfk (sTy c k) = 2) (hr : R a k = some b) (kk : Cp g d M mc ms Q pc' ls (vr b :: st) T I L R) : Cp g d M mc ms Q pc ls (vr a :: st) T I L R := by
  refine r_get hd hf hT hk (v := vr b) ?_ kk
  rw [hr]
  generalize sTy c k = t at hty
  cases t <;> simp [sfk] at hty <;> rfl
theorem r_put {idx c k n a : Nat} {fin : Bool} (hd : sD M.2.1 pc 3 pc' (.putfield idx)) (hf : sFL M.1.cls idx c k fin) (hfi : fin = false ∨ M.1.name = "<init>" ∧ ∀ q, vwCl[c]? = some q → q.1 = M.1.cls) (hT : T[a]? = some (c, n)) (hk : k < n) {v : sV} {I' L' : sI} {R' : sR} (hv : scv g v = sfv g (sTy c k) (I' a k) (L' a k) (R' a k)) (hn : narrow (sTy c k) (scv g v) = scv g v) (hfit : fits (sTy c k) (scv g v) = true) (hx : ∀ j, j ≠ k → I' a j = I a j ∧ L' a j = L a j ∧ R' a j = R a j) (hy : ∀ x, x ≠ a → I' x = I x ∧ L' x = L x ∧ R' x = R x) (kk : Cp g d M mc ms Q pc' ls st T I' L' R') : Cp g d M mc ms Q pc ls (v :: vr a :: st) T I L R := by
  intro p e Rm s m args below meth c0 H locs cells slots lR X hH hS hc hs hl
  obtain ⟨hd, rfl⟩ := hd
  obtain ⟨q, hq, hkq, hfin, hw⟩ := hf
  obtain ⟨⟨ok1, ok2, ok3, ok4⟩, hc9⟩ := sCl_ok hq
  have ha := sXt_ge hH.1 hT (by omega)
  have hal : a < T.length := (List.getElem?_eq_some_iff.mp hT).1
  have he := sws_get (g := g) (I := I) (L := L) (R := R) hT ha
  rw [scell_obj hc9] at he
  have fin9 : ∀ (H1 : Heap) (locs1 : List Loc), va_P g.2.2.2.1 vwCl ((sws g T I L R).set (a - 3) (sad g a, .inr (c, (sobj g c n a I L R).set k (scv g v)))) H1 → va_S (sA g) s.heap H1 locs1 → W p g.1 e Rm s m args below meth c0 H1 locs1 cells slots (MQ below (sQm g Rm.cells Q) args s Rm.cells Rm.slots (sA g)) (F0 m (pc + 3) lR (st.map (scv g))) := by
    intro H1 locs1 hP1 hS1
    rw [sobj_set hk hv hx, ← scell_obj (g := g) (n := n) hc9, sws_set hT ha hy] at hP1
    have h3 := hH.2.1
    refine W_sz (n := H.size) (by have := sws_low hP1 (by omega); omega) hc.2 (fun hz => ?_)
    exact kk p e Rm s m args below meth c0 H1 locs1 cells slots lR X ⟨sXt_put hH.1 (fun x h => (hy x (by omega)).1) (fun x h => (hy x (by omega)).2.1), by rw [hz]; exact hH.2.1, hP1⟩ hS1 ⟨hc.1, by rw [hz]; exact hc.2⟩ hs hl
  obtain ⟨C, Tt, N⟩ := q
  cases fin with
  | false =>
    exact va_put (D := g.2.2.2.1) (ci := c) (C := C) (T := Tt) (N := N) X.1 X.2.1 X.2.2.2.2.2.1 ok1 (sTy c) ok3 ok2 X.2.2.2.2.1 X.2.2.2.2.2.2.2.2.1.1 hH.2.2 sws_D hS (a - 3) he hq k hkq (X.2.2.2.2.2.1 _ hw) (fun _ h9 => h9) hfin (ok3 k hkq) hn hfit (by rw [sobj_len]; exact hk) hd (fun H1 locs1 hP1 hD1 hS1 => fin9 H1 locs1 hP1 hS1)
  | true =>
    obtain h0 | ⟨h1, h2⟩ := hfi
    · cases h0
    · have hnm : meth.name = "<init>" := by rw [X.2.2.2.2.2.2.2.1]; exact h1
      have hde : (Tt k).1 = M.1.cls := by rw [ok4 k hkq]; exact h2 _ hq
      exact va_putF (D := g.2.2.2.1) (ci := c) (C := C) (T := Tt) (N := N) X.1 X.2.1 X.2.2.2.2.2.1 ok1 (sTy c) ok3 ok2 X.2.2.2.2.1 X.2.2.2.2.2.2.2.2.1.1 hH.2.2 sws_D hS (a - 3) he hq k hkq (X.2.2.2.2.2.1 _ hw) (fun _ h9 => h9) hfin hnm hde (ok3 k hkq) hn hfit (by rw [sobj_len]; exact hk) hd (fun H1 locs1 hP1 hD1 hS1 => fin9 H1 locs1 hP1 hS1)
theorem r_puti {idx c k n a : Nat} {x : Int} (hd : sD M.2.1 pc 3 pc' (.putfield idx)) (hf : sFL M.1.cls idx c k false) (hT : T[a]? = some (c, n)) (hk : k < n) (hty : sfk (sTy c k) = 0 ∨ (sfk (sTy c k) = 3 ∧ (x = 0 ∨ x = 1))) (kk : Cp g d M mc ms Q pc' ls st T (up2 I a k x) L R) : Cp g d M mc ms Q pc ls (vi x :: vr a :: st) T I L R := by
  refine r_put hd hf (Or.inl rfl) hT hk (v := vi x) (I' := up2 I a k x) (L' := L) (R' := R) ?_ ?_ ?_ (fun j hj => ⟨up2_nj I x hj, rfl, rfl⟩) (fun y hy => ⟨up2_ne I x hy, rfl, rfl⟩) kk
  · rw [up2_at]
    generalize sTy c k = t at hty
    cases t <;> simp [sfk] at hty <;> rfl
  · generalize sTy c k = t at hty
    cases t <;> simp [sfk] at hty <;> first | rfl | (rcases hty with rfl | rfl <;> rfl)
  · generalize sTy c k = t at hty
    cases t <;> simp [sfk] at hty <;> first | rfl | (rcases hty with rfl | rfl <;> rfl)
theorem r_putl {idx c k n a : Nat} {x : Int} (hd : sD M.2.1 pc 3 pc' (.putfield idx)) (hf : sFL M.1.cls idx c k false) (hT : T[a]? = some (c, n)) (hk : k < n) (hty : sfk (sTy c k) = 1) (kk : Cp g d M mc ms Q pc' ls st T I (up2 L a k x) R) : Cp g d M mc ms Q pc ls (vl x :: vr a :: st) T I L R := by
  refine r_put hd hf (Or.inl rfl) hT hk (v := vl x) (I' := I) (L' := up2 L a k x) (R' := R) ?_ ?_ ?_ (fun j hj => ⟨rfl, up2_nj L x hj, rfl⟩) (fun y hy => ⟨rfl, up2_ne L x hy, rfl⟩) kk
  · rw [up2_at]
    generalize sTy c k = t at hty
    cases t <;> simp [sfk] at hty <;> rfl
  · generalize sTy c k = t at hty
    cases t <;> simp [sfk] at hty <;> rfl
  · generalize sTy c k = t at hty
    cases t <;> simp [sfk] at hty <;> rfl
theorem r_putr {idx c k n a b : Nat} {fin : Bool} (hd : sD M.2.1 pc 3 pc' (.putfield idx)) (hf : sFL M.1.cls idx c k fin) (hfi : fin = false ∨ M.1.name = "<init>" ∧ ∀ q, vwCl[c]? = some q → q.1 = M.1.cls) (hT : T[a]? = some (c, n)) (hk : k < n) (hty : sfk (sTy c k) = 2) (kk : Cp g d M mc ms Q pc' ls st T I L (up2 R a k (some b))) : Cp g d M mc ms Q pc ls (vr b :: vr a :: st) T I L R := by
  refine r_put hd hf hfi hT hk (v := vr b) (I' := I) (L' := L) (R' := up2 R a k (some b)) ?_ ?_ ?_ (fun j hj => ⟨rfl, rfl, up2_nj R _ hj⟩) (fun y hy => ⟨rfl, rfl, up2_ne R _ hy⟩) kk
  · rw [up2_at]
    generalize sTy c k = t at hty
    cases t <;> simp [sfk] at hty <;> rfl
  · generalize sTy c k = t at hty
    cases t <;> simp [sfk] at hty <;> rfl
  · generalize sTy c k = t at hty
    cases t <;> simp [sfk] at hty <;> rfl
end SH
