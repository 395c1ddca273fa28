def sarg : Nat → List sV → List (Nat × sV)
  | _, [] => []
  | i, v :: vs => (i, v) :: sarg (i + (if isL v then 2 else 1)) vs
def sargN : List sV → Nat
  | [] => 0
  | v :: vs => (if isL v then 2 else 1) + sargN vs
theorem scv_catN (g : sG) (v : sV) : (scv g v).category = (if isL v then 2 else 1) := by
  rcases v with z | z | r
  · rfl
  · rfl
  · cases r <;> rfl
theorem sarg_map (g : sG) : ∀ (as : List sV) (i : Nat), (sarg i as).map (fun q => (q.1, scv g q.2)) = lv_args i (as.map (scv g))
  | [], _ => rfl
  | v :: vs, i => by
    show (i, scv g v) :: (sarg (i + (if isL v then 2 else 1)) vs).map _ = _
    rw [sarg_map g vs]
    simp only [List.map_cons, lv_args, scv_catN]
    cases isL v <;> rfl
theorem sarg_len (g : sG) : ∀ as : List sV, (lg_sl (as.map (scv g))).length = sargN as
  | [] => rfl
  | v :: vs => by
    have ih := sarg_len g vs
    unfold lg_sl at ih ⊢
    rw [List.map_cons, List.flatMap_cons, List.length_append, ih]
    show _ = (if isL v then 2 else 1) + sargN vs
    congr 1
    rw [scv_catN]
    cases isL v <;> rfl
def sCats : List sV → Nat
  | [] => 0
  | v :: vs => (if isL v then 2 else 1) + sCats vs
theorem sCats_sum (g : sG) : ∀ st : List sV, ((st.map (scv g)).map fun v => v.category).sum = sCats st
  | [] => rfl
  | v :: vs => by
    have ih := sCats_sum g vs
    rw [List.map_cons, List.map_cons, List.sum_cons, ih, scv_catN]
    rfl
/-- a method's contract: from this memory, with these arguments, it returns, with Q -/
def Mc (g : sG) (d : Nat) (M : sM) (mc ms : Nat) (as : List sV) (T : sT) (I L : sI) (R : sR) (Q : sQ) : Prop :=
  Met g.1 M.1 (Cond.code M.1 M.2.1 M.2.2.1 M.2.2.2 :: sTb) { frames := d, cells := mc, slots := ms, locals := d * 64 } (va_Pc (as.map (scv g)) (fun U => sHR g T I L R U.heap ∧ sKn g U)) (sQm g mc Q) mc ms (sA g)
theorem Mc_of {g : sG} {d : Nat} {M : sM} {mc ms : Nat} {as : List sV} {T : sT} {I L : sI} {R : sR} {Q : sQ} (hpl : plainName M.1.cls = true) (hlen : sargN as ≤ M.2.2.1) (k : Cp g d M mc ms Q 0 (sarg 0 as) [] T I L R) : Mc g d M mc ms as T I L R Q := by
  refine Met.ofW (cc := M.2.1) (maxL := M.2.2.1) (ret := M.2.2.2) hpl rfl ?_
  intro p e s m args below meth c s₁ B hml hv
  obtain ⟨rfl, hH, hK⟩ := hv
  have hts0 := atoms_spec (ws := Cond.code M.1 M.2.1 M.2.2.1 M.2.2.2 :: sTb) B.pre
  have hts : ∀ w ∈ sTb, w.before (as.map (scv g)).toArray s = true := fun w h => hts0 w (List.mem_cons_of_mem _ h)
  have hown : s.vm.findClass M.1.cls = some m.cls := findClass_of_methodNamed B.named
  have hnm : meth.name = M.1.name := (name_of_methodNamed B.named B.method).1
  have hl := lv_entry (as.map (scv g)) (n := M.2.2.1) (by rw [sarg_len]; exact hlen)
  rw [lg_entry_eq]
  rw [← sarg_map] at hl
  exact k p e { frames := d, cells := mc, slots := ms, locals := d * 64 } s m (as.map (scv g)).toArray below meth c s.heap [] 0 0 _ ⟨B.exec, B.bytes, B.returns, hml, hown, hts, B.notSynchronized, hnm, hK, Nat.le_refl _, Nat.le_refl _⟩ hH va_S.rf ⟨Nat.zero_add _, by rfl⟩ (by rw [Nat.zero_add]; exact Nat.le_refl _) hl
/-- the words of a call -/
def sCw (M M2 : sM) (n : Nat) : Prop := Cond.code M2.1 M2.2.1 M2.2.2.1 M2.2.2.2 ∈ sTb ∧ Cond.initialized M2.1.cls ∈ sTb ∧ (M2.1.cls ≠ "java/lang/invoke/MethodHandle" ∧ M2.1.cls ≠ "java/lang/invoke/VarHandle") ∧ (parseMethodDescriptor M2.1.desc).map (fun d => d.parameters.length) = some n ∧ M2.2.2.1 ≤ 40
def sV_ (M : sM) (idx : Nat) (M2 : sM) (n : Nat) : Prop := sCw M M2 n ∧ Cond.methodLink M.1.cls idx M2.1 ∈ sTb ∧ Cond.instanceMethod M2.1 ∈ sTb ∧ Cond.selects M2.1.cls M2.1 M2.1 ∈ sTb ∧ ∃ (c : Nat) (q : vw_C), vwCl[c]? = some q ∧ q.1 = M2.1.cls
def sS_ (M : sM) (idx : Nat) (M2 : sM) (n : Nat) : Prop := sCw M M2 n ∧ Cond.methodLink M.1.cls idx M2.1 ∈ sTb ∧ Cond.static M2.1 ∈ sTb
def sSN_ (M : sM) (idx : Nat) (M2 : sM) (n : Nat) : Prop := sCw M M2 n ∧ (∃ host, Cond.methodLinkNest M.1.cls idx M2.1 host ∈ sEx) ∧ Cond.static M2.1 ∈ sTb
def sI_ (M : sM) (idx : Nat) (M2 : sM) (n : Nat) : Prop := sCw M M2 n ∧ M2.2.2.2 = none ∧ Cond.methodLink M.1.cls idx M2.1 ∈ sTb ∧ Cond.instanceMethod M2.1 ∈ sTb ∧ M2.1.name = "<init>"
def sIN_ (M : sM) (idx : Nat) (M2 : sM) (n : Nat) : Prop := sCw M M2 n ∧ M2.2.2.2 = none ∧ (∃ host, Cond.methodLinkNest M.1.cls idx M2.1 host ∈ sEx) ∧ Cond.instanceMethod M2.1 ∈ sTb ∧ M2.1.name = "<init>"
theorem sPay {M2 : sM} {args : Array Value} {s : State} (hts : ∀ w ∈ sTb, w.before args s = true) (hc : Cond.code M2.1 M2.2.1 M2.2.2.1 M2.2.2.2 ∈ sTb) : ∀ w ∈ (Cond.code M2.1 M2.2.1 M2.2.2.1 M2.2.2.2 :: sTb), ∀ (a' : Array Value) (U : State), s.WarmedH U.vm → w.before a' U = true := by
  intro w hw a' U hW
  have h : w ∈ sTb := by
    rcases List.mem_cons.mp hw with rfl | h
    · exact hc
    · exact h
  exact word_at hW (sTb_good h) (hts w h)
theorem sEx_vm {w : Cond} (hw : w ∈ sEx) {u U : State} (h : u.vm = U.vm) (hZ : va_Nw w u) : va_Nw w U := by
  obtain ⟨-, hk⟩ := List.mem_filter.mp hw
  cases w with
  | methodLinkNest => exact va_Nw.same rfl h hZ
  | fieldLinkNest => exact va_Nw.same rfl h hZ
  | arrayOver ty =>
    simp only [va_Nw, Cond.before, Cond.holds, Cond.value] at hZ ⊢
    rw [← h]; exact hZ
  | _ => simp at hk
section SC
variable {g : sG} {d d2 : Nat} {M M2 : sM} {mc ms mc2 ms2 : Nat} {Q Q2 : sQ} {pc pc' idx n : Nat} {ls : List (Nat × sV)} {st as : List sV} {T : sT} {I L : sI} {R : sR}
/-- what a call comes back with, to what goes on -/
theorem call_fin {p : Program} {e : Env} {Rm : Room} {s : State} {m : MethodId} {args : Array Value} {below : List Frame} {meth : Method} {c : Code} {H : Heap} {locs : List Loc} {cells slots : Nat} {lR : Array Slot} {st0 : List Value} {av : Array Value}
    (hr : va_Run p g.1 e Rm s m args below meth c H locs cells slots mc2 ms2 (F0 m pc lR st0) (st.map (scv g)) (sQm g mc2 Q2 av) (sA g)) (X : sCx g d M p Rm s m args meth c) (hS : va_S (sA g) s.heap H locs) (hc : cells + (mc + mc2) = Rm.cells ∧ s.heap.size + cells = H.size) (hs : slots + (ms + ms2) ≤ Rm.slots) (hl : lv_has lR M.2.2.1 (ls.map (fun q => (q.1, scv g q.2))))
    (k : ∀ (v : Option sV) (T' : sT) (I' L' : sI) (R' : sR), Q2 v T' I' L' R' → Cp g d M mc ms Q (pc + 3) ls (v.toList ++ st) T' I' L' R') : W p g.1 e Rm s m args below meth c H locs cells slots (MQ below (sQm g Rm.cells Q) args s Rm.cells Rm.slots (sA g)) (F0 m pc lR st0) := by
  intro T9 hT9 X9
  obtain ⟨v, st₀, t, T', L9, h0, X', hL9, e1, e2, ⟨v2, T2, I2, L2, R2, hv, hq, hH2, hF, hz⟩, stp⟩ := hr T9 hT9 X9
  have hv2 : v = v2.map (scv g) := Outcome.returned.inj hv
  subst hv2
  have hS' : va_S (sA g) s.heap T'.heap (locs ++ L9) := by
    refine ⟨?_, fun q h1 h2 => ?_, fun q hq => ?_⟩
    · rw [e1]; have h3 := hF.1; rw [h0] at h3; exact Nat.le_trans hS.1 h3
    · rw [e1, hF.2 q (by rw [h0]; exact Nat.lt_of_lt_of_le h1 hS.1) h2, h0]; exact hS.2.1 q h1 h2
    · rcases List.mem_append.mp hq with h | h
      · exact hS.2.2 q h
      · exact hL9 q h
  have hK := k v2 T2 I2 L2 R2 hq p e Rm s m args below meth c T'.heap (locs ++ L9) (cells + mc2) (slots + ms2) lR X (by rw [e1]; exact hH2) hS' ⟨by omega, by rw [e1, hz, h0]; omega⟩ (by omega) hl
  have hst9 : (v2.toList ++ st).map (scv g) = (v2.map (scv g)).toList ++ st.map (scv g) := by cases v2 <;> rfl
  rw [hst9] at hK
  obtain ⟨t2, a1, b1⟩ := hK T' rfl X'
  exact ⟨t2, stp t2 a1, b1⟩
theorem sPre {p : Program} {Rm : Room} {s : State} {m : MethodId} {args : Array Value} {meth : Method} {c : Code} {H : Heap} {locs : List Loc} (X : sCx g d M p Rm s m args meth c) (hH : sHR g T I L R H) (hS : va_S (sA g) s.heap H locs) : FrameBlind (va_Pc (as.map (scv g)) (fun U => sHR g T I L R U.heap ∧ sKn g U)) ∧ ∀ U : State, U.heap = H → s.WarmedH U.vm → va_Pc (as.map (scv g)) (fun U => sHR g T I L R U.heap ∧ sKn g U) (as.map (scv g)).toArray U := by
  refine ⟨fun a U g9 mk hq => ?_, fun U hU hW => ⟨rfl, by rw [hU]; exact hH, ?_⟩⟩
  · obtain ⟨h1, h2, h3⟩ := hq
    refine ⟨h1, h2, ?_⟩
    obtain ⟨k1, k2, k3, k4, k5, k6, k7, k8, k9⟩ := h3
    have ha := Vm.Alike.refl U.vm
    exact ⟨va_K.moved (u := U) (U := U.calling g9 mk a) ha k1, va_T.moved (u := U) (U := U.calling g9 mk a) ha k2, va_T.moved (u := U) (U := U.calling g9 mk a) ha k3, va_T.moved (u := U) (U := U.calling g9 mk a) ha k4, va_Z.moved (u := U) (U := U.calling g9 mk a) ha k5, va_Z.moved (u := U) (U := U.calling g9 mk a) ha k6, fun w hw => sEx_vm hw (u := U) (U := U.calling g9 mk a) rfl (k7 w hw), k8, k9⟩
  · refine sKn_warm hW (fun q h1 h2 => ?_) (by rw [hU]; exact hS.1) X.2.2.2.2.2.2.2.2.1
    rw [hU]; exact hS.2.1 q h1 h2
theorem sCB {M2 : sM} {p : Program} {Rm : Room} {s : State} {m : MethodId} {args : Array Value} {meth : Method} {c : Code} (X : sCx g d M p Rm s m args meth c) (hw : sCw M M2 n) (hdep : d2 + 1 ≤ d) (hl : Cond.methodLink M.1.cls idx M2.1 ∈ sTb) : CallB Rm s args M.1.cls idx M2.1 M2.2.1 M2.2.2.1 M2.2.2.2 (Cond.code M2.1 M2.2.1 M2.2.2.1 M2.2.2.2 :: sTb) { frames := d2, cells := mc2, slots := ms2, locals := d2 * 64 } mc2 ms2 n := by
  obtain ⟨h1, h2, h3, h4, h5⟩ := hw
  have hts := X.2.2.2.2.2.1
  have hf := X.2.2.2.2.2.2.2.2.2.1
  have hlo := X.2.2.2.2.2.2.2.2.2.2
  refine ⟨rfl, rfl, ?_, ?_, sPay hts h1, List.mem_cons_self, hts _ h1, hts _ h2, h3, fun sig h => ?_, hts _ hl⟩
  · show d2 + 1 ≤ Rm.frames; omega
  · show 8 + (M2.2.2.1 + 11) + d2 * 64 ≤ Rm.locals; omega
  · rw [h] at h4
    exact (Option.some.inj h4).symm
theorem sCN {M2 : sM} {host : String} {p : Program} {Rm : Room} {s : State} {m : MethodId} {args : Array Value} {meth : Method} {c : Code} (X : sCx g d M p Rm s m args meth c) (hw : sCw M M2 n) (hdep : d2 + 1 ≤ d) (hl : Cond.methodLinkNest M.1.cls idx M2.1 host ∈ sEx) : va_CN Rm s args M.1.cls idx M2.1 host M2.2.1 M2.2.2.1 M2.2.2.2 (Cond.code M2.1 M2.2.1 M2.2.2.1 M2.2.2.2 :: sTb) { frames := d2, cells := mc2, slots := ms2, locals := d2 * 64 } mc2 ms2 n := by
  obtain ⟨h1, h2, h3, h4, h5⟩ := hw
  have hts := X.2.2.2.2.2.1
  have hf := X.2.2.2.2.2.2.2.2.2.1
  have hlo := X.2.2.2.2.2.2.2.2.2.2
  refine ⟨⟨rfl, rfl, ?_, ?_, sPay hts h1, List.mem_cons_self⟩, hts _ h1, hts _ h2, h3, fun sig h => ?_, va_Nw.use rfl (X.2.2.2.2.2.2.2.2.1.2.2.2.2.2.2.1 _ hl)⟩
  · show d2 + 1 ≤ Rm.frames; omega
  · show 8 + (M2.2.2.1 + 11) + d2 * 64 ≤ Rm.locals; omega
  · rw [h] at h4
    exact (Option.some.inj h4).symm
theorem sRec {a c n : Nat} {p : Program} {Rm : Room} {s : State} {m : MethodId} {args : Array Value} {meth : Method} {c0 : Code} {H : Heap} {C : String} (X : sCx g d M p Rm s m args meth c0) (hH : sHR g T I L R H) (hT : T[a]? = some (c, n)) {q : vw_C} (hq : vwCl[c]? = some q) (hC : q.1 = C) : ∃ cell : Cell, H[sad g a]? = some cell ∧ cell.vm.isStatics = false ∧ s.vm.findClass C = some cell.cls := by
  have hc9 := (sCl_ok hq).2
  have ha := sXt_ge hH.1 hT (by omega)
  have he := sws_get (g := g) (I := I) (L := L) (R := R) hT ha
  rw [scell_obj hc9] at he
  rw [← hC]
  exact va_recv X.2.2.2.2.2.2.2.2.1.1 hH.2.2 hq he
/-- invokevirtual -/
theorem r_V {a c n2 : Nat} {q : vw_C} (hd : sD M.2.1 pc 3 pc' (.invokevirtual idx)) (hw : sV_ M idx M2 n) (hn : as.length = n) (hT : T[a]? = some (c, n2)) (hq : vwCl[c]? = some q) (hqc : q.1 = M2.1.cls) (hM : Mc g d2 M2 mc2 ms2 (vr a :: as) T I L R Q2) (hdep : d2 + 1 ≤ d) (hcat : sCats st ≤ 8)
    (k : ∀ (v : Option sV) (T' : sT) (I' L' : sI) (R' : sR), Q2 v T' I' L' R' → Cp g d M mc ms Q pc' ls (v.toList ++ st) T' I' L' R') : Cp g d M (mc + mc2) (ms + ms2) Q pc ls (as.reverse ++ vr a :: st) T I L R := by
  intro p e Rm s m args below meth c0 H locs cells slots lR X hH hS hc hs hl
  obtain ⟨hd, rfl⟩ := hd
  obtain ⟨w1, w2, w3, w4, -⟩ := hw
  have hts := X.2.2.2.2.2.1
  have hp := sPre (as := vr a :: as) X hH hS
  refine call_fin (va_runV (Ts := sTb) (As := as.map (scv g)) (rest := st.map (scv g)) ⟨X.1, X.2.1, X.2.2.2.1, X.2.2.2.2.1, hts⟩ hM ⟨sCB X w1 hdep w2, hts _ w3, hts _ w4⟩ ⟨hp.1, sRec X hH hT hq hqc, hp.2⟩ rfl (by rw [List.length_map]; exact hn) hl.1 ?_ (lv_room (by rw [sCats_sum]; exact hcat)) hd ⟨by omega, by omega⟩) X hS hc hs hl k
  show (as.reverse ++ vr a :: st).map (scv g) = _
  rw [List.map_append, List.map_reverse]
  rfl
theorem r_S (hd : sD M.2.1 pc 3 pc' (.invokestatic idx)) (hw : sS_ M idx M2 n) (hn : as.length = n) (hM : Mc g d2 M2 mc2 ms2 as T I L R Q2) (hdep : d2 + 1 ≤ d) (hcat : sCats st ≤ 8)
    (k : ∀ (v : Option sV) (T' : sT) (I' L' : sI) (R' : sR), Q2 v T' I' L' R' → Cp g d M mc ms Q pc' ls (v.toList ++ st) T' I' L' R') : Cp g d M (mc + mc2) (ms + ms2) Q pc ls (as.reverse ++ st) T I L R := by
  intro p e Rm s m args below meth c0 H locs cells slots lR X hH hS hc hs hl
  obtain ⟨hd, rfl⟩ := hd
  obtain ⟨w1, w2, w3⟩ := hw
  have hts := X.2.2.2.2.2.1
  have hp := sPre (as := as) X hH hS
  refine call_fin (va_runS (Ts := sTb) (As := as.map (scv g)) (rest := st.map (scv g)) ⟨X.1, X.2.1, X.2.2.2.1, X.2.2.2.2.1, hts⟩ hM ⟨sCB X w1 hdep w2, hts _ w3⟩ ⟨hp.1, hp.2⟩ rfl (by rw [List.length_map]; exact hn) hl.1 ?_ (lv_room (by rw [sCats_sum]; exact hcat)) hd ⟨by omega, by omega⟩) X hS hc hs hl k
  show (as.reverse ++ st).map (scv g) = _
  rw [List.map_append, List.map_reverse]
theorem r_SN (hd : sD M.2.1 pc 3 pc' (.invokestatic idx)) (hw : sSN_ M idx M2 n) (hn : as.length = n) (hM : Mc g d2 M2 mc2 ms2 as T I L R Q2) (hdep : d2 + 1 ≤ d) (hcat : sCats st ≤ 8)
    (k : ∀ (v : Option sV) (T' : sT) (I' L' : sI) (R' : sR), Q2 v T' I' L' R' → Cp g d M mc ms Q pc' ls (v.toList ++ st) T' I' L' R') : Cp g d M (mc + mc2) (ms + ms2) Q pc ls (as.reverse ++ st) T I L R := by
  intro p e Rm s m args below meth c0 H locs cells slots lR X hH hS hc hs hl
  obtain ⟨hd, rfl⟩ := hd
  obtain ⟨w1, ⟨host, w2⟩, w3⟩ := hw
  have hts := X.2.2.2.2.2.1
  have hp := sPre (as := as) X hH hS
  refine call_fin (va_runSN (Ts := sTb) (As := as.map (scv g)) (rest := st.map (scv g)) ⟨X.1, X.2.1, X.2.2.2.1, X.2.2.2.2.1, hts⟩ hM ⟨sCN X w1 hdep w2, hts _ w3, trivial⟩ ⟨hp.1, hp.2⟩ rfl (by rw [List.length_map]; exact hn) hl.1 ?_ (lv_room (by rw [sCats_sum]; exact hcat)) hd ⟨by omega, by omega⟩) X hS hc hs hl k
  show (as.reverse ++ st).map (scv g) = _
  rw [List.map_append, List.map_reverse]
theorem r_I {a : Nat} (hd : sD M.2.1 pc 3 pc' (.invokespecial idx)) (hw : sI_ M idx M2 n) (hn : as.length = n) (hM : Mc g d2 M2 mc2 ms2 (vr a :: as) T I L R Q2) (hdep : d2 + 1 ≤ d) (hcat : sCats st ≤ 8)
    (k : ∀ (v : Option sV) (T' : sT) (I' L' : sI) (R' : sR), Q2 v T' I' L' R' → Cp g d M mc ms Q pc' ls (v.toList ++ st) T' I' L' R') : Cp g d M (mc + mc2) (ms + ms2) Q pc ls (as.reverse ++ vr a :: st) T I L R := by
  intro p e Rm s m args below meth c0 H locs cells slots lR X hH hS hc hs hl
  obtain ⟨hd, rfl⟩ := hd
  obtain ⟨w1, w0, w2, w3, w4⟩ := hw
  have hts := X.2.2.2.2.2.1
  have hp := sPre (as := vr a :: as) X hH hS
  have hcb := sCB (mc2 := mc2) (ms2 := ms2) X w1 hdep w2
  unfold Mc at hM
  rw [w0] at hcb hM
  refine call_fin (va_runI (Ts := sTb) (As := as.map (scv g)) (rest := st.map (scv g)) ⟨X.1, X.2.1, X.2.2.2.1, X.2.2.2.2.1, hts⟩ hM ⟨hcb, w4, hts _ w3⟩ ⟨hp.1, hp.2⟩ rfl (by rw [List.length_map]; exact hn) hl.1 ?_ (lv_room (by rw [sCats_sum]; exact hcat)) hd ⟨by omega, by omega⟩) X hS hc hs hl k
  show (as.reverse ++ vr a :: st).map (scv g) = _
  rw [List.map_append, List.map_reverse]
  rfl
theorem r_IN {a : Nat} (hd : sD M.2.1 pc 3 pc' (.invokespecial idx)) (hw : sIN_ M idx M2 n) (hn : as.length = n) (hM : Mc g d2 M2 mc2 ms2 (vr a :: as) T I L R Q2) (hdep : d2 + 1 ≤ d) (hcat : sCats st ≤ 8)
    (k : ∀ (v : Option sV) (T' : sT) (I' L' : sI) (R' : sR), Q2 v T' I' L' R' → Cp g d M mc ms Q pc' ls (v.toList ++ st) T' I' L' R') : Cp g d M (mc + mc2) (ms + ms2) Q pc ls (as.reverse ++ vr a :: st) T I L R := by
  intro p e Rm s m args below meth c0 H locs cells slots lR X hH hS hc hs hl
  obtain ⟨hd, rfl⟩ := hd
  obtain ⟨w1, w0, ⟨host, w2⟩, w3, w4⟩ := hw
  have hts := X.2.2.2.2.2.1
  have hp := sPre (as := vr a :: as) X hH hS
  have hcb := sCN (mc2 := mc2) (ms2 := ms2) X w1 hdep w2
  unfold Mc at hM
  rw [w0] at hcb hM
  refine call_fin (va_runIN (Ts := sTb) (As := as.map (scv g)) (rest := st.map (scv g)) ⟨X.1, X.2.1, X.2.2.2.1, X.2.2.2.2.1, hts⟩ hM ⟨hcb, w4, hts _ w3⟩ ⟨hp.1, hp.2⟩ rfl (by rw [List.length_map]; exact hn) hl.1 ?_ (lv_room (by rw [sCats_sum]; exact hcat)) hd ⟨by omega, by omega⟩) X hS hc hs hl k
  show (as.reverse ++ vr a :: st).map (scv g) = _
  rw [List.map_append, List.map_reverse]
  rfl
end SC
