/-! THE CLAIM: what holds at the law's entry, told to the machine of these rows (the frame of what follows: kit/laws/SKELETON) -/
def R_law : String := "RoomsByThreeLaw"
def lw_P (b : Addr) (xs : List Int32) (args : Array Value) (s : State) : Prop := args = #[.ref b] ∧ s.IntsAt b xs ∧ xs.length ≤ 3072 ∧ (Jvm.Cond.and given_1 narrow_1).before args s = true
def lw_Q (_ : Array Value) (s : State) (o : Outcome) (t : State) : Prop := o = .returned (some (.int 1)) ∧ Framed s o t [] 666704 7102136
def lw_Z (below : List Frame) (a : Array Value) (s : State) : State → Prop := fun t => ∃ o, t.status = .running ∧ Ended t below o ∧ lw_Q a s o t
def lw_At (p : Program) (s : State) (m : MethodId) (meth : Method) (c : Code) (b L : Nat) (xs : Nat → Int32) : Prop :=
  p.tables.exec = Jvm.exec ∧ c.code = code ∧ meth.sig.returnType = ret ∧ c.maxLocals = 4 ∧ s.vm.findClass R_law = some m.cls ∧ (∀ w ∈ lw_tbl, w.before #[Value.ref b] s = true) ∧ va_X b L xs s s.heap ∧ b < s.heap.size ∧ meth.locks = false ∧ (Jvm.Cond.and given_1 narrow_1).before #[Value.ref b] s = true
theorem hasRoom_sub {s : State} {pl : Platform} {mc ms : Nat} (h : s.hasRoom pl room_1 = true) (hc : mc ≤ 300) (hs : ms ≤ 12000) : s.hasRoom pl { frames := 14, cells := mc, slots := ms, locals := 896 } = true := by
  have hR : room_1 = { frames := 2048, cells := 666704, slots := 7102136, locals := 84000 } := rfl
  rw [hR] at h
  have h0 : s.slotsTrue = true := by
    simp only [State.hasRoom, Bool.and_eq_true] at h
    exact h.2
  obtain ⟨a1, a2⟩ := State.hasRoom_heap h
  obtain ⟨b1, b2⟩ := State.hasRoom_stack h
  have c1 := State.hasRoom_plain h
  have d1 := State.hasRoom_real h
  dsimp only at a1 a2 b1 b2 d1
  exact State.hasRoom_of c1 (by show _ + 14 ≤ _; omega) (by show _ + 896 ≤ _; omega) (by show _ + mc ≤ _; omega) (by show _ + ms ≤ _; omega) h0 (by show _ + 896 + _ ≤ _; omega)
/-- classes -/
theorem cls_ex {args : Array Value} {s : State} (hts : ∀ w ∈ sTb, w.before args s = true) : ∃ (dC : Nat → ClassId) (dI : Nat → Nat → Nat), ∀ (k : Nat) (q : vw_C), vwCl[k]? = some q → u_Kn s q.1 q.2.1 q.2.2 (dC k) (dI k) := by
  have one : ∀ {C : String} {T : u_T} {N c : Nat}, sClOK c (C, T, N) → Cond.instantiable C N ∈ sTb → ∃ (cC : ClassId) (iS : Nat → Nat), u_Kn s C T N cC iS := fun h hi => u_known hts h.1 (hts _ hi)
  obtain ⟨c0, i0, k0⟩ := one sCl0 (sTb_of 241 (by decide +kernel) rfl)
  obtain ⟨c1, i1, k1⟩ := one sCl1 (sTb_of 293 (by decide +kernel) rfl)
  obtain ⟨c2, i2, k2⟩ := one sCl2 (sTb_of 161 (by decide +kernel) rfl)
  obtain ⟨c3, i3, k3⟩ := one sCl3 (sTb_of 299 (by decide +kernel) rfl)
  obtain ⟨c4, i4, k4⟩ := one sCl4 (sTb_of 349 (by decide +kernel) rfl)
  obtain ⟨c5, i5, k5⟩ := one sCl5 (sTb_of 128 (by decide +kernel) rfl)
  obtain ⟨c6, i6, k6⟩ := one sCl6 (sTb_of 541 (by decide +kernel) rfl)
  obtain ⟨c7, i7, k7⟩ := one sCl7 (sTb_of 120 (by decide +kernel) rfl)
  obtain ⟨c8, i8, k8⟩ := one sCl8 (sTb_of 965 (by decide +kernel) rfl)
  refine ⟨fun k => match k with | 0 => c0 | 1 => c1 | 2 => c2 | 3 => c3 | 4 => c4 | 5 => c5 | 6 => c6 | 7 => c7 | _ => c8, fun k => match k with | 0 => i0 | 1 => i1 | 2 => i2 | 3 => i3 | 4 => i4 | 5 => i5 | 6 => i6 | 7 => i7 | _ => i8, ?_⟩
  intro k q hq
  match k, hq with
  | 0, hq => cases hq; exact k0
  | 1, hq => cases hq; exact k1
  | 2, hq => cases hq; exact k2
  | 3, hq => cases hq; exact k3
  | 4, hq => cases hq; exact k4
  | 5, hq => cases hq; exact k5
  | 6, hq => cases hq; exact k6
  | 7, hq => cases hq; exact k7
  | 8, hq => cases hq; exact k8
  | n + 9, hq => simp at hq
theorem acl_p {args : Array Value} {s : State} {ty : FieldType} (h : (Cond.arrayClass ty).before args s = true) : ∃ cA : ClassId, ArrOfT s cA ty ∧ s.vm.findClass ("[" ++ ty.toString) = some cA := by
  obtain ⟨c, k, comp, h1, h2, h3⟩ := Cond.arrayClass_spec h
  exact ⟨c, fun n z => ⟨fun k h => (by cases h), k, h2, comp, h3⟩, h1⟩
theorem acl_o {args : Array Value} {s : State} {C : String} (h : (Cond.arrayOver (.object C)).before args s = true) : ∃ cA : ClassId, ArrOfT s cA (.object C) ∧ va_RA s cA (.object C) := by
  obtain ⟨comp, c, k, f1, f2, f3, f4, f5⟩ := Cond.arrayOver_spec h
  exact ⟨c, fun n z => ⟨fun k h => (by cases h), k, f3, comp, f4⟩, k, comp, f3, f4, f1, f5⟩
theorem acl_a {args : Array Value} {s : State} {ty : FieldType} (h : (Cond.arrayOver (.array ty)).before args s = true) : ∃ cA : ClassId, ArrOfT s cA (.array ty) ∧ s.vm.findClass ("[" ++ (FieldType.array ty).toString) = some cA := by
  obtain ⟨comp, c, k, g1, g2, g3, g4, g5⟩ := arrayOverA_spec h
  exact ⟨c, fun n z => ⟨fun k h => (by cases h), k, g3, comp, g4⟩, g5⟩
theorem sEx_nw {b : Addr} {s : State} (hts : ∀ w ∈ lw_tbl, w.before #[Value.ref b] s = true) : ∀ w ∈ sEx, va_Nw w s := by
  intro w hw
  obtain ⟨hm, hk⟩ := List.mem_filter.mp hw
  have h := hts w hm
  cases w with
  | methodLinkNest => exact h
  | fieldLinkNest => exact h
  | arrayOver ty => exact h
  | _ => simp at hk
/-- the two arrays that the classes hold -/
theorem num_ex {b : Addr} {s : State} (hg : ∀ w ∈ flatC (Jvm.Cond.and given_1 narrow_1), w.before #[Value.ref b] s = true) : ∃ t : Nat, (Term.static "RoomsByThree" "AS_NUMBERED" "[I").eval #[Value.ref b] s none [] s = some (.ref t) ∧ va_T .int t 8 (fun j => .int (Int32.ofInt (j : Int))) (fun q => s.heap.size ≤ q) s s.heap := by
  refine va_Tof (by decide) (hg _ (by decide +kernel)) (va_eqt (z := 8) (hg _ (by decide +kernel))) (fun j hj => ?_) (fun a h => Nat.not_le.mpr h)
  rcases (show j = 0 ∨ j = 1 ∨ j = 2 ∨ j = 3 ∨ j = 4 ∨ j = 5 ∨ j = 6 ∨ j = 7 by omega) with rfl | rfl | rfl | rfl | rfl | rfl | rfl | rfl
  · exact va_eqt (z := 0) (hg (Cond.eq (.elem (.static "RoomsByThree" "AS_NUMBERED" "[I") (.int 0)) (.int 0)) (by decide +kernel))
  · exact va_eqt (z := 1) (hg (Cond.eq (.elem (.static "RoomsByThree" "AS_NUMBERED" "[I") (.int 1)) (.int 1)) (by decide +kernel))
  · exact va_eqt (z := 2) (hg (Cond.eq (.elem (.static "RoomsByThree" "AS_NUMBERED" "[I") (.int 2)) (.int 2)) (by decide +kernel))
  · exact va_eqt (z := 3) (hg (Cond.eq (.elem (.static "RoomsByThree" "AS_NUMBERED" "[I") (.int 3)) (.int 3)) (by decide +kernel))
  · exact va_eqt (z := 4) (hg (Cond.eq (.elem (.static "RoomsByThree" "AS_NUMBERED" "[I") (.int 4)) (.int 4)) (by decide +kernel))
  · exact va_eqt (z := 5) (hg (Cond.eq (.elem (.static "RoomsByThree" "AS_NUMBERED" "[I") (.int 5)) (.int 5)) (by decide +kernel))
  · exact va_eqt (z := 6) (hg (Cond.eq (.elem (.static "RoomsByThree" "AS_NUMBERED" "[I") (.int 6)) (.int 6)) (by decide +kernel))
  · exact va_eqt (z := 7) (hg (Cond.eq (.elem (.static "RoomsByThree" "AS_NUMBERED" "[I") (.int 7)) (.int 7)) (by decide +kernel))
theorem rank_ex {b : Addr} {s : State} (hg : ∀ w ∈ flatC (Jvm.Cond.and given_1 narrow_1), w.before #[Value.ref b] s = true) : ∃ t : Nat, (Term.static "RoomsByThree$Keys" "RANK_OF_GUEST" "[J").eval #[Value.ref b] s none [] s = some (.ref t) ∧ va_T .long t 8 (fun j => .long (Int64.ofInt (sRank j))) (fun q => s.heap.size ≤ q) s s.heap := by
  refine va_Tof (by decide) (hg _ (by decide +kernel)) (va_eqt (z := 8) (hg _ (by decide +kernel))) (fun j hj => ?_) (fun a h => Nat.not_le.mpr h)
  rcases (show j = 0 ∨ j = 1 ∨ j = 2 ∨ j = 3 ∨ j = 4 ∨ j = 5 ∨ j = 6 ∨ j = 7 by omega) with rfl | rfl | rfl | rfl | rfl | rfl | rfl | rfl
  · exact va_eqtl (z := 4782969) (hg (Cond.eq (.elem (.static "RoomsByThree$Keys" "RANK_OF_GUEST" "[J") (.int 0)) (.long 4782969)) (by decide +kernel))
  · exact va_eqtl (z := 531441) (hg (Cond.eq (.elem (.static "RoomsByThree$Keys" "RANK_OF_GUEST" "[J") (.int 1)) (.long 531441)) (by decide +kernel))
  · exact va_eqtl (z := 59049) (hg (Cond.eq (.elem (.static "RoomsByThree$Keys" "RANK_OF_GUEST" "[J") (.int 2)) (.long 59049)) (by decide +kernel))
  · exact va_eqtl (z := 6561) (hg (Cond.eq (.elem (.static "RoomsByThree$Keys" "RANK_OF_GUEST" "[J") (.int 3)) (.long 6561)) (by decide +kernel))
  · exact va_eqtl (z := 729) (hg (Cond.eq (.elem (.static "RoomsByThree$Keys" "RANK_OF_GUEST" "[J") (.int 4)) (.long 729)) (by decide +kernel))
  · exact va_eqtl (z := 81) (hg (Cond.eq (.elem (.static "RoomsByThree$Keys" "RANK_OF_GUEST" "[J") (.int 5)) (.long 81)) (by decide +kernel))
  · exact va_eqtl (z := 9) (hg (Cond.eq (.elem (.static "RoomsByThree$Keys" "RANK_OF_GUEST" "[J") (.int 6)) (.long 9)) (by decide +kernel))
  · exact va_eqtl (z := 1) (hg (Cond.eq (.elem (.static "RoomsByThree$Keys" "RANK_OF_GUEST" "[J") (.int 7)) (.long 1)) (by decide +kernel))
/-- the machine at the law's entry -/
theorem kn_ex {s : State} (l : Launch) {b L : Nat} {xs : Nat → Int32} (hL : L ≤ 3072) (hts : ∀ w ∈ lw_tbl, w.before #[Value.ref b] s = true) (hX : va_X b L xs s s.heap) (hbl : b < s.heap.size) (hgv : (Jvm.Cond.and given_1 narrow_1).before #[Value.ref b] s = true) : ∃ g : sG, g.1 = l ∧ g.2.1 = s.heap.size ∧ g.2.2.1 0 = b ∧ g.2.2.2.2.2.1 = L ∧ g.2.2.2.2.2.2 = xs ∧ sKn g s := by
  have hg := flat_of_before _ hgv
  have hT : ∀ w ∈ sTb, w.before #[Value.ref b] s = true := fun w hw => hts w (List.mem_filter.mp hw).1
  have hE : ∀ w ∈ sEx, w.before #[Value.ref b] s = true := fun w hw => hts w (List.mem_filter.mp hw).1
  have hnA : ∀ a : Nat, a < s.heap.size → ¬ (fun q : Nat => s.heap.size ≤ q) a := fun a h => Nat.not_le.mpr h
  obtain ⟨t1, e1, hT1⟩ := num_ex hg
  obtain ⟨t2, e2, hT2⟩ := rank_ex hg
  obtain ⟨dC, dI, hKc⟩ := cls_ex hT
  obtain ⟨a0, b0, d0⟩ := acl_p (hT _ ac_int)
  obtain ⟨a1, b1, d1⟩ := acl_p (hT _ ac_long)
  obtain ⟨a2, b2, d2⟩ := acl_p (hT _ ac_boolean)
  obtain ⟨a3, b3, d3⟩ := acl_p (hT _ ac_char)
  obtain ⟨a4, b4, d4⟩ := acl_p (hT _ ac_byte)
  obtain ⟨a5, b5, d5⟩ := acl_o (hE _ ov_r)
  obtain ⟨a6, b6, d6⟩ := acl_a (hE _ ov_i)
  obtain ⟨a7, b7, d7⟩ := acl_a (hE _ ov_l)
  have z1 : va_Z "RoomsByThree" "AS_NUMBERED" "[I" (.ref t1) (fun q => s.heap.size ≤ q) s s.heap := va_Zof (hts _ (List.mem_of_getElem? (i := 664) (by decide +kernel))) (hts _ (List.mem_of_getElem? (i := 108) (by decide +kernel))) e1 hnA
  have z2 : va_Z "RoomsByThree$Keys" "RANK_OF_GUEST" "[J" (.ref t2) (fun q => s.heap.size ≤ q) s s.heap := va_Zof (hts _ (List.mem_of_getElem? (i := 733) (by decide +kernel))) (hts _ (List.mem_of_getElem? (i := 113) (by decide +kernel))) e2 hnA
  refine ⟨(l, s.heap.size, (fun i => match i with | 0 => b | 1 => t1 | _ => t2), (dC, dI), (fun k => match k with | 10 => a0 | 11 => a1 | 12 => a2 | 13 => a3 | 14 => a4 | 15 => a5 | 16 => a6 | _ => a7), L, xs), rfl, rfl, rfl, rfl, rfl, ⟨hKc, fun k q hq => ?_⟩, ?_, hT1, hT2, z1, z2, sEx_nw hts, Nat.le_refl _, hL⟩
  · match k, hq with
    | 0, hq => cases hq; exact ⟨b0, d0⟩
    | 1, hq => cases hq; exact ⟨b1, d1⟩
    | 2, hq => cases hq; exact ⟨b2, d2⟩
    | 3, hq => cases hq; exact ⟨b3, d3⟩
    | 4, hq => cases hq; exact ⟨b4, d4⟩
    | 5, hq => cases hq; exact ⟨b5, d5⟩
    | 6, hq => cases hq; exact ⟨b6, d6⟩
    | 7, hq => cases hq; exact ⟨b7, d7⟩
    | n + 8, hq => simp [stys] at hq
  · obtain ⟨scr, h1, h2, h3, h4, h5⟩ := hX
    exact ⟨scr, h1, h2, h3, by rw [h4]; exact Nat.le_refl _, by rw [h4], h5, hnA b hbl⟩
theorem whole_start {p : Program} {e : Env} {s : State} {m : MethodId} {below : List Frame} {meth : Method} {c : Code} (l : Launch) (hflags : l.flags = flags0) {b L : Nat} {xs : Nat → Int32} (hL : L ≤ 3072) (hnm : meth.name = "law") (C0 : lw_At p s m meth c b L xs) : W p l e room_1 s m #[Value.ref b] below meth c s.heap [] 0 0 (lw_Z below #[Value.ref b] s) (entryFrame m ([Value.ref b] : List Value).toArray 4) := by
  obtain ⟨hx, hb, hr, hml, hown, hts, hX, hbl, hlocks, hgv⟩ := id C0
  obtain ⟨g, g1, g2, g3, g4, g5, hKn⟩ := kn_ex l hL hts hX hbl hgv
  obtain ⟨mc, ms, m1, m2, hCp⟩ := law_start (g := g) (Ls := L) (A0 := fun j => (xs j).toInt) hL (fun j => by
    have h1 := Int32.le_toInt (xs j)
    have h2 := Int32.toInt_lt (xs j)
    unfold i32
    omega)
  have hT : ∀ w ∈ sTb, w.before #[Value.ref b] s = true := fun w hw => hts w (List.mem_filter.mp hw).1
  have hCx : sCx g 14 m_L_law p { frames := 14, cells := mc, slots := ms, locals := 896 } s m #[Value.ref b] meth c := ⟨hx, hb, hr, hml, hown, hT, hlocks, hnm, hKn, Nat.le_refl _, Nat.le_refl _⟩
  have hHR : sHR g (tk 3 L) (sI0 fun j => (xs j).toInt) sL0 (rOf rl_0) s.heap := by
    refine ⟨⟨by rw [g4]; rfl, rfl, rfl, fun j hj => ?_, fun j hj => rfl, fun j hj => rfl⟩, by rw [g2]; rfl, fun k q h => ?_⟩
    · rw [g5]
      show Int32.ofInt (xs j).toInt = xs j
      exact Int32.ofInt_toInt _
    · have e0 : sws g (tk 3 L) (sI0 fun j => (xs j).toInt) sL0 (rOf rl_0) = [] := rfl
      rw [e0] at h
      cases h
  have hl := lv_entry ([Value.ref b]) (n := 4) (Nat.le_of_ble_eq_true rfl)
  rw [lg_entry_eq]
  intro T hT9 X
  have X' : Stand p g.1 e { frames := 14, cells := mc, slots := ms, locals := 896 } s m #[Value.ref b] below meth c T [] 0 0 := by
    rw [g1]
    exact ⟨X.admits, X.cas, X.clock, X.frames, hasRoom_sub X.room m1 m2, X.hears, X.method, X.code, X.here, X.tail, X.warmed, X.limits, X.bytes, X.same⟩
  have hl2 : lv_has ((lg_sl [Value.ref b] ++ List.replicate (4 - (lg_sl [Value.ref b]).length) Slot.unset).toArray) 4 (([(0, vr 0)] : List (Nat × sV)).map (fun q => (q.1, scv g q.2))) := by
    have e0 : (([(0, vr 0)] : List (Nat × sV)).map (fun q => (q.1, scv g q.2))) = [(0, Value.ref (g.2.2.1 0))] := rfl
    rw [e0, g3]
    exact hl
  obtain ⟨t, st, o, h1, h2, hq, Lc, hfe, hfree⟩ := hCp p e { frames := 14, cells := mc, slots := ms, locals := 896 } s m #[Value.ref b] below meth c s.heap [] 0 0 _ hCx hHR va_S.rf ⟨Nat.zero_add _, rfl⟩ (by show 0 + ms ≤ ms; omega) hl2 T hT9 X'
  obtain ⟨v, T2, I2, L2, R2, ho, hv, -, -, -⟩ := hq
  have hv1 : v = some (vi 1) := hv
  refine ⟨t, st, o, h1, h2, ?_, hfe.1, hfe.2.1, hfe.2.2.weaken (fun y hy hlt => absurd hlt (Nat.not_lt.mpr ?_)) ?_ ?_⟩
  · rw [ho, hv1]
    rfl
  · have := hfree y hy
    have h9 : g.2.1 ≤ y.base := this
    rw [g2] at h9
    exact h9
  · show mc ≤ 666704
    exact Nat.le_trans m1 (Nat.le_of_ble_eq_true rfl)
  · show ms ≤ 7102136
    exact Nat.le_trans m2 (Nat.le_of_ble_eq_true rfl)
set_option maxHeartbeats 4000000 in
theorem lw_walk (l : Launch) (hflags : l.flags = flags0) (b : Addr) (xs : List Int32) : MetFree l x (headSpec (Jvm.Cond.code x code maxLocals ret :: tables_1) room_1) (lw_P b xs) (fun _ _ _ _ _ => True) lw_Q := by
  refine MetFree.of_bodyS (code := code) (maxLocals := maxLocals) (ret := ret) (by decide) ?_ ?_
  · intro args s m h hn
    obtain ⟨meth, c, h1, h2, h3, h4, h5, h6, -, -⟩ := Cond.code_spec hn (atoms_spec (ws := Jvm.Cond.code x code maxLocals ret :: tables_1) h _ List.mem_cons_self)
    exact ⟨meth, c, h1, h2, h3, h4, h5, h6⟩
  · intro p e s m args below meth c s₁ B hml0 hP _
    obtain ⟨rfl, hx, hbd, hgv⟩ := hP
    obtain ⟨scr, harrAt, hlist, hof, hsmall⟩ := hx
    obtain ⟨hcb, hkn, -, -⟩ := State.arrayAt?_spec harrAt
    have hown : s.vm.findClass R_law = some m.cls := findClass_of_methodNamed B.named
    have hts0 : ∀ c ∈ (Jvm.Cond.code x code maxLocals ret :: tables_1), c.before #[Value.ref b] s = true := atoms_spec (ws := Jvm.Cond.code x code maxLocals ret :: tables_1) B.pre
    have hts : ∀ w ∈ lw_tbl, w.before #[Value.ref b] s = true := k2_hts_sels lw_privs (fun w hw => hts0 w (List.mem_cons_of_mem _ hw)) lw_privs_ok
    have hml : c.maxLocals = 4 := B.maxLocals_eq (hts0 _ List.mem_cons_self)
    have X₀ : Stand p l e room_1 s m #[Value.ref b] below meth c s₁ [] 0 0 := Stand.of_body B
    have hh0 : s₁.heap = s.heap := by rw [B.state]; rfl
    have hsz : scr.slots.size = xs.length := by rw [← Array.length_toList, hlist, List.length_map]
    have hval : ∀ j : Nat, j < xs.length → scr.slots[j]? = some (.int (xs.getD j 0)) := fun j hj => by
      rw [← Array.getElem?_toList, hlist]
      simp [hj]
    have hbl : b < s.heap.size := (Array.getElem?_eq_some_iff.mp hcb).1
    have hX : va_X b xs.length (fun j => xs.getD j 0) s s.heap := ⟨scr, hcb, hof, hkn, hsz, hval⟩
    have K : W p l e room_1 s m #[Value.ref b] below meth c s₁.heap [] 0 0 (lw_Z below #[Value.ref b] s) (entryFrame m ([Value.ref b] : List Value).toArray 4) := by
      rw [hh0]
      exact whole_start l hflags hbd (name_of_methodNamed B.named B.method).1 ⟨B.exec, B.bytes, B.returns, hml, hown, hts, hX, hbl, B.notSynchronized, hgv⟩
    obtain ⟨t, a1, o, b1, b2, b3⟩ := K s₁ rfl X₀
    exact ⟨t, o, a1, b1, b2, b3⟩
theorem lw_pre_spec {args : Array Value} {s : State} (h : (Jvm.Cond.and given_1 narrow_1).before args s = true) (hr : rest_1_c.before args s = true) : ∃ (b : Addr) (xs : List Int32), lw_P b xs args s := by
  have hs := flat_of_before _ h
  have hq := flat_of_before _ hr
  have hc : (Cond.count 1).before args s = true := hs _ (by decide +kernel)
  have harr : (Cond.arrayOf (.arg 0) .int).before args s = true := hs _ (by decide +kernel)
  have hle : (Cond.le (.length (.arg 0)) (.int 3072)).before args s = true := hs _ (by decide +kernel)
  have hlen : (Cond.isInt (.length (.arg 0))).before args s = true := hq _ (by decide +kernel)
  have hall : (Cond.all (.arg 0) (.isInt (.elem (.arg 0) (.index 0)))).before args s = true := hq _ (by decide +kernel)
  obtain ⟨b, xs, hb, hx⟩ := State.ints_of_pre rfl harr hlen hall
  have hsm : xs.length < 2 ^ 31 := hx.choose_spec.2.2.2
  have hev : (Term.length (.arg 0)).eval args s none [] s = some (.int xs.length.toInt32) := hx.length_eval hb
  have hv := Cond.le_ints hev (show (Term.int 3072).eval args s none [] s = some (.int 3072) from rfl)
  have hd : xs.length.toInt32 ≤ 3072 := by
    simpa [Cond.before, Cond.holds, hv] using hle
  have hN : xs.length ≤ 3072 := (Int32.ofNat_le_ofNat hsm (by decide)).mp (show Int32.ofNat xs.length ≤ Int32.ofNat 3072 from hd)
  exact ⟨b, xs, Cond.one_arg hc (show args[0]? = some (.ref b) from hb), hx, hN, h⟩
theorem lw_comes (l : Launch) (hflags : l.flags = flags0) : Comes l x (Jvm.Cond.code x code maxLocals ret :: tables_1) room_1 (fun tb e args s => Calls_1 tb e args s ∧ rest_1 tb e args s ∧ Pre_1 tb e args s)
    (fun _ _ args s o t => lw_Q args s o t) := by
  intro p e ha hc hk s m args below hf hfit hheap happ hpre
  obtain ⟨b, xs, hP⟩ := lw_pre_spec hpre.2.2 hpre.2.1
  obtain ⟨k, o, h1, h2, h3, hQ⟩ := lw_walk l hflags b xs p e ha hc hk s m args below hf ((Spec.applies_iff_loose hf).mp happ).1 hP trivial
  exact ⟨k, o, h1, h2, h3, hQ⟩
theorem lw_frame {s t : State} {o : Outcome} {args : Array Value} (h : Framed s o t [] 666704 7102136) :
    Framed s o t (fieldLocs frame_1_writes args s ++ arrayLocs frame_1_arrays args s ++ staticLocs frame_1_statics s) 666704 7102136 := h
theorem lw_limb (L : Cond) (hL : ∀ (args : Array Value) (s t : State), L.after args s (.returned (some (.int 1))) t = true) :
    ArmFor flags0 classFile x code maxLocals ret World_1 tables_1 room_1 Calls_1 rest_1 Pre_1
      (fun tb e a s o t => postC L tb e a s o t ∧ Framed s o t (fieldLocs frame_1_writes a s ++ arrayLocs frame_1_arrays a s ++ staticLocs frame_1_statics s) 666704 7102136) := by
  intro l hflags _ _ p e ha hc hk s m args below hf hfit hheap happ hpre
  obtain ⟨k, o, h1, h2, h3, rfl, hF⟩ := lw_comes l hflags p e ha hc hk s m args below hf hfit hheap happ hpre
  exact ⟨k, _, h1, h2, h3, hL args s _, lw_frame hF⟩
theorem i_vc : Claimed_1_1 ∧ Claimed_1_2 := ⟨lw_limb limb_1_1 (fun args s t => by simp [limb_1_1, Cond.after, Cond.holds, Cond.value]), lw_limb limb_1_2 (fun args s t => Cond.after_iff.mpr (by
  first | (rw [show limb_1_2 = Cond.eq .result (.int 1) from rfl, Cond.eq_ints (x := 1) (y := 1) rfl rfl]; simp; done) | (simp [limb_1_2, Cond.value, Term.eval]; done)))⟩
