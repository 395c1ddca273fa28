def lsub (ls : List (Nat × sV)) : List (Nat × sV) → Prop
  | [] => True
  | q :: r => lget ls q.1 = some q.2 ∧ lsub ls r
theorem lsub_all {ls : List (Nat × sV)} : ∀ {l : List (Nat × sV)}, lsub ls l → ∀ q ∈ l, lget ls q.1 = some q.2
  | [], _, q, hq => by cases hq
  | a :: r, h, q, hq => by
    rcases List.mem_cons.mp hq with rfl | h2
    · exact h.1
    · exact lsub_all h.2 q h2
theorem CpL {g : sG} {d : Nat} {M : sM} {mc ms : Nat} {Q : sQ} {pc : Nat} {ls ls' : List (Nat × sV)} {st : List sV} {T : sT} {I L : sI} {R : sR} (k : Cp g d M mc ms Q pc ls' st T I L R) (h : lsub ls ls') : Cp g d M mc ms Q pc ls st T I L R := Cp_ls (Or.inr (lsub_all h)) k
def same (T : sT) (I L : sI) (R : sR) : sT → sI → sI → sR → Prop := fun T' I' L' R' => T = T' ∧ I = I' ∧ L = L' ∧ R = R'
theorem same_rf {T : sT} {I L : sI} {R : sR} : same T I L R T I L R := ⟨rfl, rfl, rfl, rfl⟩
section SJ
variable {g : sG} {d : Nat} {M : sM} {mc ms : Nat} {Q : sQ} {pc pc' tgt : Nat} {ls : List (Nat × sV)} {st : List sV} {T : sT} {I L : sI} {R : sR}
theorem r_ialdJ {a n j : Nat} {i : Int} (hd : sD M.2.1 pc 1 pc' .iaload) (hT : T[a]? = some (10, n)) (hj : i = (j : Int)) (hi : j < n) (hn : n ≤ 2147483647 := by decide) (kk : Cp g d M mc ms Q pc' ls (vi (I a j) :: st) T I L R) : Cp g d M mc ms Q pc ls (vi i :: vr a :: st) T I L R := by
  subst hj
  refine r_iald hd hT (by omega) hn ?_
  rw [Int.toNat_natCast]; exact kk
theorem r_laldJ {a n j : Nat} {i : Int} (hd : sD M.2.1 pc 1 pc' .laload) (hT : T[a]? = some (11, n)) (hj : i = (j : Int)) (hi : j < n) (hn : n ≤ 2147483647 := by decide) (kk : Cp g d M mc ms Q pc' ls (vl (L a j) :: st) T I L R) : Cp g d M mc ms Q pc ls (vi i :: vr a :: st) T I L R := by
  subst hj
  refine r_lald hd hT (by omega) hn ?_
  rw [Int.toNat_natCast]; exact kk
theorem r_zaldJ {a n j : Nat} {i : Int} (hd : sD M.2.1 pc 1 pc' .baload) (hT : T[a]? = some (12, n)) (hj : i = (j : Int)) (hi : j < n) (hn : n ≤ 2147483647 := by decide) (kk : Cp g d M mc ms Q pc' ls (vi (I a j) :: st) T I L R) : Cp g d M mc ms Q pc ls (vi i :: vr a :: st) T I L R := by
  subst hj
  refine r_zald hd hT (by omega) hn ?_
  rw [Int.toNat_natCast]; exact kk
theorem r_caldJ {a n j : Nat} {i : Int} (hd : sD M.2.1 pc 1 pc' .caload) (hT : T[a]? = some (13, n)) (hj : i = (j : Int)) (hi : j < n) (hn : n ≤ 2147483647 := by decide) (kk : Cp g d M mc ms Q pc' ls (vi (I a j) :: st) T I L R) : Cp g d M mc ms Q pc ls (vi i :: vr a :: st) T I L R := by
  subst hj
  refine r_cald hd hT (by omega) hn ?_
  rw [Int.toNat_natCast]; exact kk
theorem r_baldJ {a n j : Nat} {i : Int} (hd : sD M.2.1 pc 1 pc' .baload) (hT : T[a]? = some (14, n)) (hj : i = (j : Int)) (hi : j < n) (hn : n ≤ 2147483647 := by decide) (kk : Cp g d M mc ms Q pc' ls (vi (I a j) :: st) T I L R) : Cp g d M mc ms Q pc ls (vi i :: vr a :: st) T I L R := by
  subst hj
  refine r_bald hd hT (by omega) hn ?_
  rw [Int.toNat_natCast]; exact kk
theorem r_aaldJ {a n kd b j : Nat} {i : Int} (hd : sD M.2.1 pc 1 pc' .aaload) (hT : T[a]? = some (kd, n)) (hkd : kd = 15 ∨ kd = 16 ∨ kd = 17) (hj : i = (j : Int)) (hi : j < n) (hr : R a j = some b) (hn : n ≤ 2147483647 := by decide) (kk : Cp g d M mc ms Q pc' ls (vr b :: st) T I L R) : Cp g d M mc ms Q pc ls (vi i :: vr a :: st) T I L R := by
  subst hj
  exact r_aald hd hT hkd (by omega) (by rw [Int.toNat_natCast]; exact hr) hn kk
theorem r_iastJ {a n j : Nat} {i x : Int} (hd : sD M.2.1 pc 1 pc' .iastore) (hT : T[a]? = some (10, n)) (ha : 3 ≤ a) (hj : i = (j : Int)) (hi : j < n) (hn : n ≤ 2147483647 := by decide) (kk : Cp g d M mc ms Q pc' ls st T (up2 I a j x) L R) : Cp g d M mc ms Q pc ls (vi x :: vi i :: vr a :: st) T I L R := by
  subst hj
  refine r_iast hd hT ha (by omega) hn ?_
  rw [Int.toNat_natCast]; exact kk
theorem r_zastJ {a n j : Nat} {i x : Int} (hd : sD M.2.1 pc 1 pc' .bastore) (hT : T[a]? = some (12, n)) (ha : 3 ≤ a) (hj : i = (j : Int)) (hi : j < n) (hx : x = 0 ∨ x = 1) (hn : n ≤ 2147483647 := by decide) (kk : Cp g d M mc ms Q pc' ls st T (up2 I a j x) L R) : Cp g d M mc ms Q pc ls (vi x :: vi i :: vr a :: st) T I L R := by
  subst hj
  refine r_zast hd hT ha (by omega) hx hn ?_
  rw [Int.toNat_natCast]; exact kk
theorem r_castJ {a n j : Nat} {i x : Int} (hd : sD M.2.1 pc 1 pc' .castore) (hT : T[a]? = some (13, n)) (ha : 3 ≤ a) (hj : i = (j : Int)) (hi : j < n) (hx : 0 ≤ x ∧ x ≤ 65535) (hn : n ≤ 2147483647 := by decide) (kk : Cp g d M mc ms Q pc' ls st T (up2 I a j x) L R) : Cp g d M mc ms Q pc ls (vi x :: vi i :: vr a :: st) T I L R := by
  subst hj
  refine r_cast hd hT ha (by omega) hx hn ?_
  rw [Int.toNat_natCast]; exact kk
theorem r_bastJ {a n j : Nat} {i x : Int} (hd : sD M.2.1 pc 1 pc' .bastore) (hT : T[a]? = some (14, n)) (ha : 3 ≤ a) (hj : i = (j : Int)) (hi : j < n) (hx : -128 ≤ x ∧ x ≤ 127) (hn : n ≤ 2147483647 := by decide) (kk : Cp g d M mc ms Q pc' ls st T (up2 I a j x) L R) : Cp g d M mc ms Q pc ls (vi x :: vi i :: vr a :: st) T I L R := by
  subst hj
  refine r_bast hd hT ha (by omega) hx hn ?_
  rw [Int.toNat_natCast]; exact kk
theorem r_lastJ {a n j : Nat} {i x : Int} (hd : sD M.2.1 pc 1 pc' .lastore) (hT : T[a]? = some (11, n)) (ha : 3 ≤ a) (hj : i = (j : Int)) (hi : j < n) (hn : n ≤ 2147483647 := by decide) (kk : Cp g d M mc ms Q pc' ls st T I (up2 L a j x) R) : Cp g d M mc ms Q pc ls (vl x :: vi i :: vr a :: st) T I L R := by
  subst hj
  refine r_last hd hT ha (by omega) hn ?_
  rw [Int.toNat_natCast]; exact kk
theorem r_aastJ {a n b m2 j : Nat} {i : Int} (hd : sD M.2.1 pc 1 pc' .aastore) (hT : T[a]? = some (15, n)) (hj : i = (j : Int)) (hi : j < n) (hb : T[b]? = some (6, m2)) (hn : n ≤ 2147483647 := by decide) (kk : Cp g d M mc ms Q pc' ls st T I L (up2 R a j (some b))) : Cp g d M mc ms Q pc ls (vr b :: vi i :: vr a :: st) T I L R := by
  subst hj
  refine r_aast hd hT (by omega) hb hn ?_
  rw [Int.toNat_natCast]; exact kk
end SJ
