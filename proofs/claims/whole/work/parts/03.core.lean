/-! an abstract machine's words: ints and longs as integers (two's complement when told to the JVM), references by numbers -/
abbrev sV : Type := Int ⊕ Int ⊕ Option Nat
abbrev vi (z : Int) : sV := Sum.inl z
abbrev vl (z : Int) : sV := Sum.inr (Sum.inl z)
abbrev vr (a : Nat) : sV := Sum.inr (Sum.inr (some a))
abbrev sM : Type := MethodName × ByteArray × Nat × Option FieldType
abbrev sT : Type := List (Nat × Nat)
abbrev sI : Type := Nat → Nat → Int
abbrev sR : Type := Nat → Nat → Option Nat
abbrev sQ : Type := Option sV → sT → sI → sI → sR → Prop
/-- launch; the first address that is ours; the three arrays from outside; classes and slots; array classes; the script -/
abbrev sG : Type := Launch × Nat × (Nat → Nat) × va_G × (Nat → ClassId) × Nat × (Nat → Int32)
def sad (g : sG) (i : Nat) : Nat := if i < 3 then g.2.2.1 i else g.2.1 + (i - 3)
def scv (g : sG) : sV → Value
  | .inl z => .int (Int32.ofInt z)
  | .inr (.inl z) => .long (Int64.ofInt z)
  | .inr (.inr r) => va_rf (r.map (sad g))
def sTy (c : Nat) : Nat → FieldType := match c with
  | 0 => tyX0
  | 1 => tyX1
  | 2 => tyX2
  | 3 => tyX3
  | 4 => tyX4
  | 5 => tyX5
  | 6 => tyX6
  | 7 => tyX7
  | _ => tyX8
def sfv (g : sG) (t : FieldType) (z l : Int) (r : Option Nat) : Value := match t with
  | .long => .long (Int64.ofInt l)
  | .object _ => va_rf (r.map (sad g))
  | .array _ => va_rf (r.map (sad g))
  | _ => .int (Int32.ofInt z)
def sobj (g : sG) (c n a : Nat) (I L : sI) (R : sR) : List Value := (List.range n).map (fun i => sfv g (sTy c i) (I a i) (L a i) (R a i))
def scell (g : sG) (kn : Nat × Nat) (a : Nat) (I L : sI) (R : sR) : va_E :=
  if kn.1 < 9 then .inr (kn.1, sobj g kn.1 kn.2 a I L R)
  else if kn.1 = 11 then .inl (g.2.2.2.2.1 kn.1, kn.2, .inr (.inl (fun i => Int64.ofInt (L a i))))
  else if 15 ≤ kn.1 then .inl (g.2.2.2.2.1 kn.1, kn.2, .inr (.inr (.inr (.inr (fun i => (R a i).map (sad g))))))
  else .inl (g.2.2.2.2.1 kn.1, kn.2, .inl (fun i => Int32.ofInt (I a i)))
def sws (g : sG) (T : sT) (I L : sI) (R : sR) : va_W := (List.range (T.length - 3)).map (fun q => (g.2.1 + q, scell g (T.getD (q + 3) (0, 0)) (q + 3) I L R))
def sA (g : sG) : Nat → Prop := fun q => g.2.1 ≤ q
def sRank : Nat → Int := fun j => match j with
  | 0 => 4782969
  | 1 => 531441
  | 2 => 59049
  | 3 => 6561
  | 4 => 729
  | 5 => 81
  | 6 => 9
  | _ => 1
/-- what is outside: never written -/
def sXt (g : sG) (T : sT) (I L : sI) : Prop := T[0]? = some (10, g.2.2.2.2.2.1) ∧ T[1]? = some (10, 8) ∧ T[2]? = some (11, 8) ∧ (∀ j, j < g.2.2.2.2.2.1 → Int32.ofInt (I 0 j) = g.2.2.2.2.2.2 j) ∧ (∀ j : Nat, j < 8 → I 1 j = (j : Int)) ∧ (∀ j, j < 8 → L 2 j = sRank j)
def sHR (g : sG) (T : sT) (I L : sI) (R : sR) (H : Heap) : Prop := sXt g T I L ∧ H.size = g.2.1 + (T.length - 3) ∧ va_P g.2.2.2.1 vwCl (sws g T I L R) H
def stys (g : sG) : List (ClassId × FieldType) := [(g.2.2.2.2.1 10, .int), (g.2.2.2.2.1 11, .long), (g.2.2.2.2.1 12, .boolean), (g.2.2.2.2.1 13, .char), (g.2.2.2.2.1 14, .byte), (g.2.2.2.2.1 15, .object "RoomsByThree$Rule"), (g.2.2.2.2.1 16, .array .int), (g.2.2.2.2.1 17, .array .long)]
/-- the words of the tables that hold on, and those that must be carried -/
def sTb : List Cond := lw_tbl.filter goodWord
def sEx : List Cond := lw_tbl.filter (fun w => match w with
  | .methodLinkNest .. => true
  | .fieldLinkNest .. => true
  | .arrayOver _ => true
  | _ => false)
theorem sTb_of {w : Cond} (i : Nat) (h : lw_tbl[i]? = some w) (hg : goodWord w = true) : w ∈ sTb := List.mem_filter.mpr ⟨List.mem_of_getElem? h, hg⟩
theorem sTb_good {w : Cond} (h : w ∈ sTb) : (w.onTables && w.keeps) = true ∨ ∃ ty, w = .arrayClass ty := good_of_word (List.mem_filter.mp h).2
/-- what a state knows: classes, array classes, the arrays from outside, the carried words -/
def sKn (g : sG) (U : State) : Prop :=
  va_K g.2.2.2.1 vwCl (stys g) U ∧
  va_T .int (g.2.2.1 0) g.2.2.2.2.2.1 (fun j => .int (g.2.2.2.2.2.2 j)) (sA g) U U.heap ∧
  va_T .int (g.2.2.1 1) 8 (fun j => .int (Int32.ofInt (j : Int))) (sA g) U U.heap ∧
  va_T .long (g.2.2.1 2) 8 (fun j => .long (Int64.ofInt (sRank j))) (sA g) U U.heap ∧
  va_Z "RoomsByThree" "AS_NUMBERED" "[I" (.ref (g.2.2.1 1)) (sA g) U U.heap ∧
  va_Z "RoomsByThree$Keys" "RANK_OF_GUEST" "[J" (.ref (g.2.2.1 2)) (sA g) U U.heap ∧
  (∀ w ∈ sEx, va_Nw w U) ∧ g.2.1 ≤ U.heap.size ∧ g.2.2.2.2.2.1 ≤ 3072
theorem sEx_warm {w : Cond} (hw : w ∈ sEx) {s U : State} (hW : s.WarmedH U.vm) (h : va_Nw w s) : va_Nw w U := by
  obtain ⟨-, hk⟩ := List.mem_filter.mp hw
  cases w with
  | methodLinkNest => exact va_Nw.warmM hW h
  | fieldLinkNest => exact va_Nw.warmF hW h
  | arrayOver ty =>
    have h1 : (Cond.arrayOver ty).before #[] (s.setVm U.vm) = true := by rw [Cond.arrayOver_setVmC hW.alike]; exact h
    have h2 : (Cond.arrayOver ty).before #[] U = (Cond.arrayOver ty).before #[] (s.setVm U.vm) := rfl
    show (Cond.arrayOver ty).before #[] U = true
    rw [h2]; exact h1
  | _ => simp at hk
theorem sKn_warm {g : sG} {s U : State} (hW : s.WarmedH U.vm) (hq : ∀ q : Nat, q < s.heap.size → ¬ sA g q → U.heap[q]? = s.heap[q]?) (hz : s.heap.size ≤ U.heap.size) (h : sKn g s) : sKn g U := by
  obtain ⟨h1, h2, h3, h4, h5, h6, h7, h8, h9⟩ := h
  exact ⟨va_K.moved hW.alike h1, (h2.moved hW.alike).kept hq, (h3.moved hW.alike).kept hq, (h4.moved hW.alike).kept hq, (h5.moved hW.alike).kept hq, (h6.moved hW.alike).kept hq, fun w hw => sEx_warm hw hW (h7 w hw), Nat.le_trans h8 hz, h9⟩
/-- how a method stands -/
def sCx (g : sG) (d : Nat) (M : sM) (p : Program) (Rm : Room) (s : State) (m : MethodId) (args : Array Value) (meth : Method) (c : Code) : Prop :=
  p.tables.exec = Jvm.exec ∧ c.code = M.2.1 ∧ meth.sig.returnType = M.2.2.2 ∧ c.maxLocals = M.2.2.1 ∧ s.vm.findClass M.1.cls = some m.cls ∧ (∀ w ∈ sTb, w.before args s = true) ∧ meth.locks = false ∧ meth.name = M.1.name ∧ sKn g s ∧ d ≤ Rm.frames ∧ d * 64 ≤ Rm.locals
def sQm (g : sG) (mc : Nat) (Q : sQ) : Array Value → State → Outcome → State → Prop := fun _ st o t => ∃ (v : Option sV) (T : sT) (I L : sI) (R : sR), o = .returned (v.map (scv g)) ∧ Q v T I L R ∧ sHR g T I L R t.heap ∧ va_F (sA g) st t ∧ t.heap.size = st.heap.size + mc
/-- the judgement: from this frame over this memory the method comes to its end, with Q; it makes at most mc cells of ms slots -/
def Cp (g : sG) (d : Nat) (M : sM) (mc ms : Nat) (Q : sQ) (pc : Nat) (ls : List (Nat × sV)) (st : List sV) (T : sT) (I L : sI) (R : sR) : Prop :=
  ∀ (p : Program) (e : Env) (Rm : Room) (s : State) (m : MethodId) (args : Array Value) (below : List Frame) (meth : Method) (c : Code) (H : Heap) (locs : List Loc) (cells slots : Nat) (lR : Array Slot),
    sCx g d M p Rm s m args meth c → sHR g T I L R H → va_S (sA g) s.heap H locs → (cells + mc = Rm.cells ∧ s.heap.size + cells = H.size) → slots + ms ≤ Rm.slots → lv_has lR M.2.2.1 (ls.map (fun q => (q.1, scv g q.2))) →
    W p g.1 e Rm s m args below meth c H locs cells slots (MQ below (sQm g Rm.cells Q) args s Rm.cells Rm.slots (sA g)) (F0 m pc lR (st.map (scv g)))
def sD (b : ByteArray) (pc len pc' : Nat) (i : Instr) : Prop := decode b pc = .ok (i, len) ∧ pc + len = pc'
def up2 {α : Type} (f : Nat → Nat → α) (a i : Nat) (v : α) : Nat → Nat → α := fun x j => if x = a then (if j = i then v else f x j) else f x j
def isL : sV → Bool
  | .inr (.inl _) => true
  | _ => false
def lst (ls : List (Nat × sV)) (i : Nat) (v : sV) : List (Nat × sV) := (i, v) :: ls.filter (fun q => !(q.1 == i) && !(q.1 + 1 == i && isL q.2))
def lst2 (ls : List (Nat × sV)) (i : Nat) (v : sV) : List (Nat × sV) := (i, v) :: ls.filter (fun q => !(q.1 == i) && (!(q.1 == i + 1) && !(q.1 + 1 == i && isL q.2)))
