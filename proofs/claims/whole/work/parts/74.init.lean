def tk (n Ls : Nat) : sT := (TT0 Ls).take n
/-- references, as a list tells them -/
def rOf : List (Nat × Nat × Nat) → sR
  | [] => fun _ _ => none
  | e :: l => up2 (rOf l) e.1 e.2.1 (some e.2.2)
def rws (a : Nat) : Nat → List (Nat × Nat × Nat)
  | 0 => []
  | N + 1 => (a, N, a + 1 + N) :: rws a N
theorem rOf_none : ∀ {l : List (Nat × Nat × Nat)} {n x j : Nat}, l.all (fun e => decide (e.1 < n)) = true → n ≤ x → rOf l x j = none
  | [], _, _, _, _, _ => rfl
  | e :: l, n, x, j, h, hx => by
    rw [List.all_cons, Bool.and_eq_true, decide_eq_true_iff] at h
    show up2 (rOf l) e.1 e.2.1 (some e.2.2) x j = none
    rw [up2_ne _ _ (by omega)]
    exact rOf_none h.2 hx
theorem rnf_rOf {l : List (Nat × Nat × Nat)} {n : Nat} (h : l.all (fun e => decide (e.1 < n)) = true) : rnf (rOf l) n = rOf l := by
  funext x j
  unfold rnf
  split
  · next hx => rw [rOf_none h hx]
  · rfl
theorem rws_at {a : Nat} {l : List (Nat × Nat × Nat)} : ∀ N j, rOf (rws a N ++ l) a j = if j < N then some (a + 1 + j) else rOf l a j
  | 0, j => by rw [if_neg (by omega)]; rfl
  | N + 1, j => by
    show up2 (rOf (rws a N ++ l)) a N (some (a + 1 + N)) a j = _
    by_cases e : j = N
    · rw [e, up2_at, if_pos (by omega)]
    · rw [up2_nj _ _ e, rws_at N j]
      by_cases h : j < N
      · rw [if_pos h, if_pos (by omega)]
      · rw [if_neg h, if_neg (by omega)]
theorem rws_ne {a x : Nat} {l : List (Nat × Nat × Nat)} (hx : x ≠ a) : ∀ N, rOf (rws a N ++ l) x = rOf l x
  | 0 => rfl
  | N + 1 => by
    show up2 (rOf (rws a N ++ l)) a N (some (a + 1 + N)) x = _
    rw [up2_ne _ _ hx, rws_ne hx N]
theorem rmn_rOf {l : List (Nat × Nat × Nat)} {n N : Nat} (h : l.all (fun e => decide (e.1 < n)) = true) : rmn (rOf l) n N = rOf (rws n N ++ l) := by
  funext x j
  unfold rmn
  by_cases e : x = n
  · rw [if_pos e, e, rws_at, rOf_none h (Nat.le_refl _)]
  · rw [if_neg e, rws_ne e]
    split
    · next hx => rw [rOf_none h (by omega)]
    · rfl
theorem zrf_up {I : sI} {a k n : Nat} {x : Int} (ha : a < n) (h : zrf I n = I) : zrf (up2 I a k x) n = up2 I a k x := by
  funext b j
  have hb : zrf I n b j = I b j := by rw [h]
  unfold zrf at hb ⊢
  by_cases e : n ≤ b
  · rw [if_pos e] at hb ⊢
    rw [up2_ne _ _ (by omega)]; exact hb
  · rw [if_neg e]
section K74
variable {g : sG} {d : Nat} {M : sM} {mc ms : Nat} {Q : sQ} {pc pc' : Nat} {ls : List (Nat × sV)} {st : List sV} {T T' : sT} {I L : sI} {R R' : sR} {n0 : Nat}
theorem k_new {idx c n : Nat} {q : vw_C} (hd : sD M.2.1 pc 3 pc' (.new idx)) (hq : vwCl[c]? = some q) (hn : q.2.2 = n) (hw : Cond.classLink M.1.cls idx q.1 ∈ sTb ∧ Cond.instantiable q.1 n ∈ sTb ∧ Cond.initialized q.1 ∈ sTb) (hty : ∀ k, k < n → sfk (sTy c k) ≤ 3) (hl : T.length = n0) (hT : T ++ [(c, n)] = T') (hI : zrf I n0 = I) (hL : zrf L n0 = L) (hR : rnf R n0 = R) (kk : Cp g d M mc ms Q pc' ls (vr n0 :: st) T' I L R) : Cp g d M (mc + 1) (ms + n) Q pc ls st T I L R := by
  refine r_new hd hq hn hw hty ?_
  rw [hl, hT, hI, hL, hR]; exact kk
theorem k_newa {n : Int} {N kd : Nat} {aty : ArrayType} (hd : sD M.2.1 pc 2 pc' (.newarray aty)) (hk : (aty = .int ∧ kd = 10) ∨ (aty = .long ∧ kd = 11) ∨ (aty = .boolean ∧ kd = 12) ∨ (aty = .char ∧ kd = 13) ∨ (aty = .byte ∧ kd = 14)) (hw : Cond.arrayClass (newarray.typeOf aty) ∈ sTb) (hn : 0 ≤ n ∧ n ≤ 65536) (hN : n.toNat = N) (hl : T.length = n0) (hT : T ++ [(kd, N)] = T') (hI : zrf I n0 = I) (hL : zrf L n0 = L) (hR : rnf R n0 = R) (kk : Cp g d M mc ms Q pc' ls (vr n0 :: st) T' I L R) : Cp g d M (mc + 1) (ms + N) Q pc ls (vi n :: st) T I L R := by
  refine r_newa hd hk hw hn hN ?_
  rw [hl, hT, hI, hL, hR]; exact kk
theorem k_anewa {n : Int} {N idx : Nat} (hd : sD M.2.1 pc 3 pc' (.anewarray idx)) (hw : Cond.classLink M.1.cls idx "RoomsByThree$Rule" ∈ sTb) (hx : Cond.arrayOver (.object "RoomsByThree$Rule") ∈ sEx) (hn : 0 ≤ n ∧ n ≤ 65536) (hN : n.toNat = N) (hl : T.length = n0) (hT : T ++ [(15, N)] = T') (hI : zrf I n0 = I) (hL : zrf L n0 = L) (hR : rnf R n0 = R) (kk : Cp g d M mc ms Q pc' ls (vr n0 :: st) T' I L R) : Cp g d M (mc + 1) (ms + N) Q pc ls (vi n :: st) T I L R := by
  refine r_anewa hd hw hx hn hN ?_
  rw [hl, hT, hI, hL, hR]; exact kk
theorem k_mna {n k : Int} {N K idx kd ke : Nat} {ty : FieldType} (hd : sD M.2.1 pc 4 pc' (.multianewarray idx 2)) (hk : (ty = .int ∧ kd = 16 ∧ ke = 10) ∨ (ty = .long ∧ kd = 17 ∧ ke = 11)) (hw : Cond.classLink M.1.cls idx ("[" ++ (FieldType.array ty).toString) ∈ sTb) (hx : Cond.arrayOver (.array ty) ∈ sEx) (ha : Cond.arrayClass ty ∈ sTb) (hn : 0 ≤ n ∧ n ≤ 65536) (hm : 0 ≤ k ∧ k ≤ 65536) (hN : n.toNat = N) (hK : k.toNat = K) (hl : T.length = n0) (hT : T ++ ((kd, N) :: List.replicate N (ke, K)) = T') (hI : zrf I n0 = I) (hL : zrf L n0 = L) (hR : rmn R n0 N = R') (kk : Cp g d M mc ms Q pc' ls (vr n0 :: st) T' I L R') : Cp g d M (mc + (1 + N)) (ms + (N + N * K)) Q pc ls (vi k :: vi n :: st) T I L R := by
  refine r_mna hd hk hw hx ha hn hm hN hK ?_
  rw [hl, hT, hI, hL, hR]; exact kk
theorem k_putr {idx c k n a b : Nat} {fin : Bool} (hd : sD M.2.1 pc 3 pc' (.putfield idx)) (hf : sFL M.1.cls idx c k fin) (hfi : fin = false ∨ M.1.name = "<init>" ∧ ∀ q, vwCl[c]? = some q → q.1 = M.1.cls) (hT : T[a]? = some (c, n)) (hk : k < n) (hty : sfk (sTy c k) = 2) (hR : up2 R a k (some b) = R') (kk : Cp g d M mc ms Q pc' ls st T I L R') : Cp g d M mc ms Q pc ls (vr b :: vr a :: st) T I L R := by
  refine r_putr hd hf hfi hT hk hty ?_
  rw [hR]; exact kk
end K74
def rl_0 : List (Nat × Nat × Nat) := []
def rl_1 : List (Nat × Nat × Nat) := (4, 0, 5) :: rl_0
def rl_2 : List (Nat × Nat × Nat) := (4, 4, 6) :: rl_1
def rl_3 : List (Nat × Nat × Nat) := (4, 5, 7) :: rl_2
def rl_4 : List (Nat × Nat × Nat) := (3, 0, 4) :: rl_3
def rl_5 : List (Nat × Nat × Nat) := rws 9 8 ++ rl_4
def rl_6 : List (Nat × Nat × Nat) := (8, 0, 9) :: rl_5
def rl_7 : List (Nat × Nat × Nat) := rws 18 3 ++ rl_6
def rl_8 : List (Nat × Nat × Nat) := (8, 1, 18) :: rl_7
def rl_9 : List (Nat × Nat × Nat) := rws 22 8 ++ rl_8
def rl_10 : List (Nat × Nat × Nat) := (8, 2, 22) :: rl_9
def rl_11 : List (Nat × Nat × Nat) := (8, 7, 31) :: rl_10
def rl_12 : List (Nat × Nat × Nat) := (8, 8, 32) :: rl_11
def rl_13 : List (Nat × Nat × Nat) := (8, 9, 33) :: rl_12
def rl_14 : List (Nat × Nat × Nat) := (8, 10, 34) :: rl_13
def rl_15 : List (Nat × Nat × Nat) := (3, 1, 8) :: rl_14
def rl_16 : List (Nat × Nat × Nat) := rws 36 8 ++ rl_15
def rl_17 : List (Nat × Nat × Nat) := (35, 0, 36) :: rl_16
def rl_18 : List (Nat × Nat × Nat) := rws 45 3 ++ rl_17
def rl_19 : List (Nat × Nat × Nat) := (35, 1, 45) :: rl_18
def rl_20 : List (Nat × Nat × Nat) := rws 49 8 ++ rl_19
def rl_21 : List (Nat × Nat × Nat) := (35, 2, 49) :: rl_20
def rl_22 : List (Nat × Nat × Nat) := (35, 7, 58) :: rl_21
def rl_23 : List (Nat × Nat × Nat) := (35, 8, 59) :: rl_22
def rl_24 : List (Nat × Nat × Nat) := (35, 9, 60) :: rl_23
def rl_25 : List (Nat × Nat × Nat) := (35, 10, 61) :: rl_24
def rl_26 : List (Nat × Nat × Nat) := (3, 2, 35) :: rl_25
def rl_27 : List (Nat × Nat × Nat) := (3, 3, 62) :: rl_26
def rl_28 : List (Nat × Nat × Nat) := rws 64 4 ++ rl_27
def rl_29 : List (Nat × Nat × Nat) := (63, 1, 64) :: rl_28
def rl_30 : List (Nat × Nat × Nat) := (63, 2, 69) :: rl_29
def rl_31 : List (Nat × Nat × Nat) := (63, 4, 70) :: rl_30
def rl_32 : List (Nat × Nat × Nat) := (63, 5, 71) :: rl_31
def rl_33 : List (Nat × Nat × Nat) := (63, 6, 72) :: rl_32
def rl_34 : List (Nat × Nat × Nat) := (63, 8, 73) :: rl_33
def rl_35 : List (Nat × Nat × Nat) := (63, 9, 74) :: rl_34
def rl_36 : List (Nat × Nat × Nat) := (63, 10, 75) :: rl_35
def rl_37 : List (Nat × Nat × Nat) := (63, 11, 76) :: rl_36
def rl_38 : List (Nat × Nat × Nat) := (63, 7, 8) :: rl_37
def rl_39 : List (Nat × Nat × Nat) := (3, 5, 63) :: rl_38
def rl_40 : List (Nat × Nat × Nat) := (77, 2, 78) :: rl_39
def rl_41 : List (Nat × Nat × Nat) := (77, 0, 8) :: rl_40
def rl_42 : List (Nat × Nat × Nat) := rws 80 8 ++ rl_41
def rl_43 : List (Nat × Nat × Nat) := (79, 2, 80) :: rl_42
def rl_44 : List (Nat × Nat × Nat) := rws 89 9 ++ rl_43
def rl_45 : List (Nat × Nat × Nat) := (79, 3, 89) :: rl_44
def rl_46 : List (Nat × Nat × Nat) := rws 99 9 ++ rl_45
def rl_47 : List (Nat × Nat × Nat) := (79, 4, 99) :: rl_46
def rl_48 : List (Nat × Nat × Nat) := rws 109 9 ++ rl_47
def rl_49 : List (Nat × Nat × Nat) := (79, 5, 109) :: rl_48
def rl_50 : List (Nat × Nat × Nat) := (79, 6, 119) :: rl_49
def rl_51 : List (Nat × Nat × Nat) := (79, 7, 120) :: rl_50
def rl_52 : List (Nat × Nat × Nat) := (79, 8, 121) :: rl_51
def rl_53 : List (Nat × Nat × Nat) := (79, 0, 8) :: rl_52
def rl_54 : List (Nat × Nat × Nat) := (77, 1, 79) :: rl_53
def rl_55 : List (Nat × Nat × Nat) := (3, 6, 77) :: rl_54
def rl_56 : List (Nat × Nat × Nat) := rws 123 8 ++ rl_55
def rl_57 : List (Nat × Nat × Nat) := (122, 3, 123) :: rl_56
def rl_58 : List (Nat × Nat × Nat) := (122, 4, 132) :: rl_57
def rl_59 : List (Nat × Nat × Nat) := rws 133 2 ++ rl_58
def rl_60 : List (Nat × Nat × Nat) := (122, 7, 133) :: rl_59
def rl_61 : List (Nat × Nat × Nat) := (122, 8, 136) :: rl_60
def rl_62 : List (Nat × Nat × Nat) := (122, 0, 8) :: rl_61
def rl_63 : List (Nat × Nat × Nat) := (122, 1, 63) :: rl_62
def rl_64 : List (Nat × Nat × Nat) := (122, 2, 77) :: rl_63
def rl_65 : List (Nat × Nat × Nat) := (3, 7, 122) :: rl_64
def rl_66 : List (Nat × Nat × Nat) := (3, 8, 137) :: rl_65
def rl_67 : List (Nat × Nat × Nat) := (3, 9, 138) :: rl_66
def rl_68 : List (Nat × Nat × Nat) := (139, 1, 140) :: rl_67
def rl_69 : List (Nat × Nat × Nat) := (139, 2, 141) :: rl_68
def rl_70 : List (Nat × Nat × Nat) := (139, 3, 142) :: rl_69
def rl_71 : List (Nat × Nat × Nat) := (139, 4, 143) :: rl_70
def rl_72 : List (Nat × Nat × Nat) := (139, 5, 144) :: rl_71
def rl_73 : List (Nat × Nat × Nat) := (139, 6, 145) :: rl_72
def rl_74 : List (Nat × Nat × Nat) := (139, 7, 146) :: rl_73
def rl_75 : List (Nat × Nat × Nat) := (139, 9, 147) :: rl_74
def rl_76 : List (Nat × Nat × Nat) := (139, 10, 148) :: rl_75
def rl_77 : List (Nat × Nat × Nat) := (139, 11, 149) :: rl_76
def rl_78 : List (Nat × Nat × Nat) := (139, 13, 150) :: rl_77
def rl_79 : List (Nat × Nat × Nat) := (139, 14, 151) :: rl_78
def rl_80 : List (Nat × Nat × Nat) := (139, 15, 152) :: rl_79
def rl_81 : List (Nat × Nat × Nat) := (139, 16, 153) :: rl_80
def rl_82 : List (Nat × Nat × Nat) := (139, 20, 154) :: rl_81
def rl_83 : List (Nat × Nat × Nat) := (139, 21, 155) :: rl_82
def rl_84 : List (Nat × Nat × Nat) := (139, 22, 156) :: rl_83
def rl_85 : List (Nat × Nat × Nat) := (139, 24, 157) :: rl_84
def rl_86 : List (Nat × Nat × Nat) := (139, 29, 158) :: rl_85
def rl_87 : List (Nat × Nat × Nat) := (139, 36, 159) :: rl_86
def rl_88 : List (Nat × Nat × Nat) := (139, 37, 160) :: rl_87
def rl_89 : List (Nat × Nat × Nat) := (139, 38, 161) :: rl_88
def rl_90 : List (Nat × Nat × Nat) := (139, 39, 162) :: rl_89
def rl_91 : List (Nat × Nat × Nat) := (139, 40, 163) :: rl_90
def rl_92 : List (Nat × Nat × Nat) := (139, 41, 164) :: rl_91
def rl_93 : List (Nat × Nat × Nat) := (139, 42, 165) :: rl_92
def rl_94 : List (Nat × Nat × Nat) := (139, 43, 166) :: rl_93
def rl_95 : List (Nat × Nat × Nat) := (139, 44, 167) :: rl_94
def rl_96 : List (Nat × Nat × Nat) := (139, 45, 168) :: rl_95
def rl_97 : List (Nat × Nat × Nat) := (139, 46, 169) :: rl_96
def rl_98 : List (Nat × Nat × Nat) := (139, 47, 170) :: rl_97
def rl_99 : List (Nat × Nat × Nat) := (139, 48, 171) :: rl_98
def rl_100 : List (Nat × Nat × Nat) := (139, 52, 172) :: rl_99
def rl_101 : List (Nat × Nat × Nat) := (139, 53, 173) :: rl_100
def rl_102 : List (Nat × Nat × Nat) := (139, 54, 174) :: rl_101
def rl_103 : List (Nat × Nat × Nat) := (139, 57, 175) :: rl_102
def rl_104 : List (Nat × Nat × Nat) := (139, 58, 176) :: rl_103
def rl_105 : List (Nat × Nat × Nat) := (139, 59, 177) :: rl_104
def rl_106 : List (Nat × Nat × Nat) := (139, 60, 178) :: rl_105
def rl_107 : List (Nat × Nat × Nat) := (139, 61, 179) :: rl_106
def rl_108 : List (Nat × Nat × Nat) := (139, 62, 180) :: rl_107
def rl_109 : List (Nat × Nat × Nat) := (139, 63, 181) :: rl_108
def rl_110 : List (Nat × Nat × Nat) := (139, 64, 182) :: rl_109
def rl_111 : List (Nat × Nat × Nat) := (139, 65, 183) :: rl_110
def rl_112 : List (Nat × Nat × Nat) := (139, 71, 184) :: rl_111
def rl_113 : List (Nat × Nat × Nat) := (139, 72, 185) :: rl_112
set_option maxRecDepth 20000 in
theorem k_X5_init_4 {g : sG} {Ls : Nat} {I L : sI} (hz : ∀ n, 5 ≤ n → zrf I n = I) (hzL : ∀ n, 5 ≤ n → zrf L n = L) : Mc g 1 m_X5_init 3 176 [vr 4] (tk 5 Ls) I L (rOf rl_0) (qV fun T' I' L' R' => T' = tk 8 Ls ∧ I = I' ∧ L = L' ∧ R' = rOf rl_3) := by
  refine Mc_of rfl (Nat.le_of_ble_eq_true rfl) ?_
  refine r_aload_n d_X5_init_0 rfl ?_
  refine r_oinit d_X5_init_1 (w_X5_3 _ rfl) (by decide) (Nat.le_of_ble_eq_true rfl) ?_
  refine r_aload_n d_X5_init_4 rfl ?_
  refine r_sipush d_X5_init_5 (by decide) ?_
  refine k_newa (kd := 13) (N := 160) (n0 := 5) (T' := tk 6 Ls) d_X5_init_8 (Or.inr (Or.inr (Or.inr (Or.inl ⟨rfl, rfl⟩)))) ac_char (by decide) rfl rfl rfl (hz 5 (by decide)) (hzL 5 (by decide)) (rnf_rOf (l := rl_0) (by decide)) ?_
  refine k_putr (a := 4) (k := 0) (b := 5) (R' := rOf rl_1) d_X5_init_10 f_X5_9 (Or.inr ⟨rfl, by decide⟩) rfl (by decide) rfl rfl ?_
  refine r_aload_n d_X5_init_13 rfl ?_
  refine r_bipush d_X5_init_14 (by decide) ?_
  refine k_newa (kd := 10) (N := 8) (n0 := 6) (T' := tk 7 Ls) d_X5_init_16 (Or.inl ⟨rfl, rfl⟩) ac_int (by decide) rfl rfl rfl (hz 6 (by decide)) (hzL 6 (by decide)) (rnf_rOf (l := rl_1) (by decide)) ?_
  refine k_putr (a := 4) (k := 4) (b := 6) (R' := rOf rl_2) d_X5_init_18 f_X5_15 (Or.inr ⟨rfl, by decide⟩) rfl (by decide) rfl rfl ?_
  refine r_aload_n d_X5_init_21 rfl ?_
  refine r_bipush d_X5_init_22 (by decide) ?_
  refine k_newa (kd := 10) (N := 8) (n0 := 7) (T' := tk 8 Ls) d_X5_init_24 (Or.inl ⟨rfl, rfl⟩) ac_int (by decide) rfl rfl rfl (hz 7 (by decide)) (hzL 7 (by decide)) (rnf_rOf (l := rl_2) (by decide)) ?_
  refine k_putr (a := 4) (k := 5) (b := 7) (R' := rOf rl_3) d_X5_init_26 f_X5_19 (Or.inr ⟨rfl, by decide⟩) rfl (by decide) rfl rfl ?_
  refine r_vret d_X5_init_29 rfl ?_
  exact ⟨rfl, rfl, rfl, rfl, rfl⟩
set_option maxRecDepth 20000 in
theorem k_X2_init_8 {g : sG} {Ls : Nat} {I L : sI} (hz : ∀ n, 9 ≤ n → zrf I n = I) (hzL : ∀ n, 9 ≤ n → zrf L n = L) : Mc g 1 m_X2_init 26 143 [vr 8] (tk 9 Ls) I L (rOf rl_4) (qV fun T' I' L' R' => T' = tk 35 Ls ∧ I = I' ∧ L = L' ∧ R' = rOf rl_14) := by
  refine Mc_of rfl (Nat.le_of_ble_eq_true rfl) ?_
  refine r_aload_n d_X2_init_0 rfl ?_
  refine r_oinit d_X2_init_1 (w_X2_3 _ rfl) (by decide) (Nat.le_of_ble_eq_true rfl) ?_
  refine r_aload_n d_X2_init_4 rfl ?_
  refine r_bipush d_X2_init_5 (by decide) ?_
  refine r_bipush d_X2_init_7 (by decide) ?_
  refine k_mna (kd := 16) (ke := 10) (N := 8) (K := 7) (n0 := 9) (T' := tk 18 Ls) (R' := rOf rl_5) d_X2_init_9 (Or.inl ⟨rfl, rfl, rfl⟩) (n_X2_9 _ rfl) ov_i ac_int (by decide) (by decide) rfl rfl rfl rfl (hz 9 (by decide)) (hzL 9 (by decide)) (rmn_rOf (l := rl_4) (by decide)) ?_
  refine k_putr (a := 8) (k := 0) (b := 9) (R' := rOf rl_6) d_X2_init_13 f_X2_11 (Or.inr ⟨rfl, by decide⟩) rfl (by decide) rfl rfl ?_
  refine r_aload_n d_X2_init_16 rfl ?_
  refine r_iconst d_X2_init_17 ?_
  refine r_iconst d_X2_init_18 ?_
  refine k_mna (kd := 16) (ke := 10) (N := 3) (K := 3) (n0 := 18) (T' := tk 22 Ls) (R' := rOf rl_7) d_X2_init_19 (Or.inl ⟨rfl, rfl, rfl⟩) (n_X2_9 _ rfl) ov_i ac_int (by decide) (by decide) rfl rfl rfl rfl (hz 18 (by decide)) (hzL 18 (by decide)) (rmn_rOf (l := rl_6) (by decide)) ?_
  refine k_putr (a := 8) (k := 1) (b := 18) (R' := rOf rl_8) d_X2_init_23 f_X2_16 (Or.inr ⟨rfl, by decide⟩) rfl (by decide) rfl rfl ?_
  refine r_aload_n d_X2_init_26 rfl ?_
  refine r_bipush d_X2_init_27 (by decide) ?_
  refine r_iconst d_X2_init_29 ?_
  refine k_mna (kd := 16) (ke := 10) (N := 8) (K := 4) (n0 := 22) (T' := tk 31 Ls) (R' := rOf rl_9) d_X2_init_30 (Or.inl ⟨rfl, rfl, rfl⟩) (n_X2_9 _ rfl) ov_i ac_int (by decide) (by decide) rfl rfl rfl rfl (hz 22 (by decide)) (hzL 22 (by decide)) (rmn_rOf (l := rl_8) (by decide)) ?_
  refine k_putr (a := 8) (k := 2) (b := 22) (R' := rOf rl_10) d_X2_init_34 f_X2_19 (Or.inr ⟨rfl, by decide⟩) rfl (by decide) rfl rfl ?_
  refine r_aload_n d_X2_init_37 rfl ?_
  refine r_iconst d_X2_init_38 ?_
  refine k_newa (kd := 10) (N := 3) (n0 := 31) (T' := tk 32 Ls) d_X2_init_39 (Or.inl ⟨rfl, rfl⟩) ac_int (by decide) rfl rfl rfl (hz 31 (by decide)) (hzL 31 (by decide)) (rnf_rOf (l := rl_10) (by decide)) ?_
  refine k_putr (a := 8) (k := 7) (b := 31) (R' := rOf rl_11) d_X2_init_41 f_X2_22 (Or.inr ⟨rfl, by decide⟩) rfl (by decide) rfl rfl ?_
  refine r_aload_n d_X2_init_44 rfl ?_
  refine r_bipush d_X2_init_45 (by decide) ?_
  refine k_newa (kd := 10) (N := 8) (n0 := 32) (T' := tk 33 Ls) d_X2_init_47 (Or.inl ⟨rfl, rfl⟩) ac_int (by decide) rfl rfl rfl (hz 32 (by decide)) (hzL 32 (by decide)) (rnf_rOf (l := rl_11) (by decide)) ?_
  refine k_putr (a := 8) (k := 8) (b := 32) (R' := rOf rl_12) d_X2_init_49 f_X2_26 (Or.inr ⟨rfl, by decide⟩) rfl (by decide) rfl rfl ?_
  refine r_aload_n d_X2_init_52 rfl ?_
  refine r_bipush d_X2_init_53 (by decide) ?_
  refine k_newa (kd := 10) (N := 8) (n0 := 33) (T' := tk 34 Ls) d_X2_init_55 (Or.inl ⟨rfl, rfl⟩) ac_int (by decide) rfl rfl rfl (hz 33 (by decide)) (hzL 33 (by decide)) (rnf_rOf (l := rl_12) (by decide)) ?_
  refine k_putr (a := 8) (k := 9) (b := 33) (R' := rOf rl_13) d_X2_init_57 f_X2_29 (Or.inr ⟨rfl, by decide⟩) rfl (by decide) rfl rfl ?_
  refine r_aload_n d_X2_init_60 rfl ?_
  refine r_bipush d_X2_init_61 (by decide) ?_
  refine k_newa (kd := 10) (N := 8) (n0 := 34) (T' := tk 35 Ls) d_X2_init_63 (Or.inl ⟨rfl, rfl⟩) ac_int (by decide) rfl rfl rfl (hz 34 (by decide)) (hzL 34 (by decide)) (rnf_rOf (l := rl_13) (by decide)) ?_
  refine k_putr (a := 8) (k := 10) (b := 34) (R' := rOf rl_14) d_X2_init_65 f_X2_32 (Or.inr ⟨rfl, by decide⟩) rfl (by decide) rfl rfl ?_
  refine r_vret d_X2_init_68 rfl ?_
  exact ⟨rfl, rfl, rfl, rfl, rfl⟩
set_option maxRecDepth 20000 in
theorem k_X2_init_35 {g : sG} {Ls : Nat} {I L : sI} (hz : ∀ n, 36 ≤ n → zrf I n = I) (hzL : ∀ n, 36 ≤ n → zrf L n = L) : Mc g 1 m_X2_init 26 143 [vr 35] (tk 36 Ls) I L (rOf rl_15) (qV fun T' I' L' R' => T' = tk 62 Ls ∧ I = I' ∧ L = L' ∧ R' = rOf rl_25) := by
  refine Mc_of rfl (Nat.le_of_ble_eq_true rfl) ?_
  refine r_aload_n d_X2_init_0 rfl ?_
  refine r_oinit d_X2_init_1 (w_X2_3 _ rfl) (by decide) (Nat.le_of_ble_eq_true rfl) ?_
  refine r_aload_n d_X2_init_4 rfl ?_
  refine r_bipush d_X2_init_5 (by decide) ?_
  refine r_bipush d_X2_init_7 (by decide) ?_
  refine k_mna (kd := 16) (ke := 10) (N := 8) (K := 7) (n0 := 36) (T' := tk 45 Ls) (R' := rOf rl_16) d_X2_init_9 (Or.inl ⟨rfl, rfl, rfl⟩) (n_X2_9 _ rfl) ov_i ac_int (by decide) (by decide) rfl rfl rfl rfl (hz 36 (by decide)) (hzL 36 (by decide)) (rmn_rOf (l := rl_15) (by decide)) ?_
  refine k_putr (a := 35) (k := 0) (b := 36) (R' := rOf rl_17) d_X2_init_13 f_X2_11 (Or.inr ⟨rfl, by decide⟩) rfl (by decide) rfl rfl ?_
  refine r_aload_n d_X2_init_16 rfl ?_
  refine r_iconst d_X2_init_17 ?_
  refine r_iconst d_X2_init_18 ?_
  refine k_mna (kd := 16) (ke := 10) (N := 3) (K := 3) (n0 := 45) (T' := tk 49 Ls) (R' := rOf rl_18) d_X2_init_19 (Or.inl ⟨rfl, rfl, rfl⟩) (n_X2_9 _ rfl) ov_i ac_int (by decide) (by decide) rfl rfl rfl rfl (hz 45 (by decide)) (hzL 45 (by decide)) (rmn_rOf (l := rl_17) (by decide)) ?_
  refine k_putr (a := 35) (k := 1) (b := 45) (R' := rOf rl_19) d_X2_init_23 f_X2_16 (Or.inr ⟨rfl, by decide⟩) rfl (by decide) rfl rfl ?_
  refine r_aload_n d_X2_init_26 rfl ?_
  refine r_bipush d_X2_init_27 (by decide) ?_
  refine r_iconst d_X2_init_29 ?_
  refine k_mna (kd := 16) (ke := 10) (N := 8) (K := 4) (n0 := 49) (T' := tk 58 Ls) (R' := rOf rl_20) d_X2_init_30 (Or.inl ⟨rfl, rfl, rfl⟩) (n_X2_9 _ rfl) ov_i ac_int (by decide) (by decide) rfl rfl rfl rfl (hz 49 (by decide)) (hzL 49 (by decide)) (rmn_rOf (l := rl_19) (by decide)) ?_
  refine k_putr (a := 35) (k := 2) (b := 49) (R' := rOf rl_21) d_X2_init_34 f_X2_19 (Or.inr ⟨rfl, by decide⟩) rfl (by decide) rfl rfl ?_
  refine r_aload_n d_X2_init_37 rfl ?_
  refine r_iconst d_X2_init_38 ?_
  refine k_newa (kd := 10) (N := 3) (n0 := 58) (T' := tk 59 Ls) d_X2_init_39 (Or.inl ⟨rfl, rfl⟩) ac_int (by decide) rfl rfl rfl (hz 58 (by decide)) (hzL 58 (by decide)) (rnf_rOf (l := rl_21) (by decide)) ?_
  refine k_putr (a := 35) (k := 7) (b := 58) (R' := rOf rl_22) d_X2_init_41 f_X2_22 (Or.inr ⟨rfl, by decide⟩) rfl (by decide) rfl rfl ?_
  refine r_aload_n d_X2_init_44 rfl ?_
  refine r_bipush d_X2_init_45 (by decide) ?_
  refine k_newa (kd := 10) (N := 8) (n0 := 59) (T' := tk 60 Ls) d_X2_init_47 (Or.inl ⟨rfl, rfl⟩) ac_int (by decide) rfl rfl rfl (hz 59 (by decide)) (hzL 59 (by decide)) (rnf_rOf (l := rl_22) (by decide)) ?_
  refine k_putr (a := 35) (k := 8) (b := 59) (R' := rOf rl_23) d_X2_init_49 f_X2_26 (Or.inr ⟨rfl, by decide⟩) rfl (by decide) rfl rfl ?_
  refine r_aload_n d_X2_init_52 rfl ?_
  refine r_bipush d_X2_init_53 (by decide) ?_
  refine k_newa (kd := 10) (N := 8) (n0 := 60) (T' := tk 61 Ls) d_X2_init_55 (Or.inl ⟨rfl, rfl⟩) ac_int (by decide) rfl rfl rfl (hz 60 (by decide)) (hzL 60 (by decide)) (rnf_rOf (l := rl_23) (by decide)) ?_
  refine k_putr (a := 35) (k := 9) (b := 60) (R' := rOf rl_24) d_X2_init_57 f_X2_29 (Or.inr ⟨rfl, by decide⟩) rfl (by decide) rfl rfl ?_
  refine r_aload_n d_X2_init_60 rfl ?_
  refine r_bipush d_X2_init_61 (by decide) ?_
  refine k_newa (kd := 10) (N := 8) (n0 := 61) (T' := tk 62 Ls) d_X2_init_63 (Or.inl ⟨rfl, rfl⟩) ac_int (by decide) rfl rfl rfl (hz 61 (by decide)) (hzL 61 (by decide)) (rnf_rOf (l := rl_24) (by decide)) ?_
  refine k_putr (a := 35) (k := 10) (b := 61) (R' := rOf rl_25) d_X2_init_65 f_X2_32 (Or.inr ⟨rfl, by decide⟩) rfl (by decide) rfl rfl ?_
  refine r_vret d_X2_init_68 rfl ?_
  exact ⟨rfl, rfl, rfl, rfl, rfl⟩
set_option maxRecDepth 20000 in
theorem k_X0_init_63 {g : sG} {Ls : Nat} {I L : sI} (hz : ∀ n, 64 ≤ n → zrf I n = I) (hzL : ∀ n, 64 ≤ n → zrf L n = L) : Mc g 1 m_X0_init 13 64 [vr 63, vr 8] (tk 64 Ls) I L (rOf rl_27) (qV fun T' I' L' R' => T' = tk 77 Ls ∧ (up2 I 63 0 2) = I' ∧ L = L' ∧ R' = rOf rl_38) := by
  refine Mc_of rfl (Nat.le_of_ble_eq_true rfl) ?_
  refine r_aload_n d_X0_init_0 rfl ?_
  refine r_oinit d_X0_init_1 (w_X0_3 _ rfl) (by decide) (Nat.le_of_ble_eq_true rfl) ?_
  refine r_aload_n d_X0_init_4 rfl ?_
  refine r_iconst d_X0_init_5 ?_
  refine r_putiF (a := 63) d_X0_init_6 f_X0_9 (Or.inr ⟨rfl, by decide⟩) rfl (by decide) (Or.inl rfl) ?_
  refine r_aload_n d_X0_init_9 rfl ?_
  refine r_iconst d_X0_init_10 ?_
  refine r_iconst d_X0_init_11 ?_
  refine k_mna (kd := 16) (ke := 10) (N := 4) (K := 3) (n0 := 64) (T' := tk 69 Ls) (R' := rOf rl_28) d_X0_init_12 (Or.inl ⟨rfl, rfl, rfl⟩) (n_X0_15 _ rfl) ov_i ac_int (by decide) (by decide) rfl rfl rfl rfl (zrf_up (by decide) (hz 64 (by decide))) (hzL 64 (by decide)) (rmn_rOf (l := rl_27) (by decide)) ?_
  refine k_putr (a := 63) (k := 1) (b := 64) (R' := rOf rl_29) d_X0_init_16 f_X0_17 (Or.inr ⟨rfl, by decide⟩) rfl (by decide) rfl rfl ?_
  refine r_aload_n d_X0_init_19 rfl ?_
  refine r_iconst d_X0_init_20 ?_
  refine k_newa (kd := 12) (N := 4) (n0 := 69) (T' := tk 70 Ls) d_X0_init_21 (Or.inr (Or.inr (Or.inl ⟨rfl, rfl⟩))) ac_boolean (by decide) rfl rfl rfl (zrf_up (by decide) (hz 69 (by decide))) (hzL 69 (by decide)) (rnf_rOf (l := rl_29) (by decide)) ?_
  refine k_putr (a := 63) (k := 2) (b := 69) (R' := rOf rl_30) d_X0_init_23 f_X0_20 (Or.inr ⟨rfl, by decide⟩) rfl (by decide) rfl rfl ?_
  refine r_aload_n d_X0_init_26 rfl ?_
  refine r_iconst d_X0_init_27 ?_
  refine k_newa (kd := 10) (N := 4) (n0 := 70) (T' := tk 71 Ls) d_X0_init_28 (Or.inl ⟨rfl, rfl⟩) ac_int (by decide) rfl rfl rfl (zrf_up (by decide) (hz 70 (by decide))) (hzL 70 (by decide)) (rnf_rOf (l := rl_30) (by decide)) ?_
  refine k_putr (a := 63) (k := 4) (b := 70) (R' := rOf rl_31) d_X0_init_30 f_X0_24 (Or.inr ⟨rfl, by decide⟩) rfl (by decide) rfl rfl ?_
  refine r_aload_n d_X0_init_33 rfl ?_
  refine r_iconst d_X0_init_34 ?_
  refine k_newa (kd := 10) (N := 4) (n0 := 71) (T' := tk 72 Ls) d_X0_init_35 (Or.inl ⟨rfl, rfl⟩) ac_int (by decide) rfl rfl rfl (zrf_up (by decide) (hz 71 (by decide))) (hzL 71 (by decide)) (rnf_rOf (l := rl_31) (by decide)) ?_
  refine k_putr (a := 63) (k := 5) (b := 71) (R' := rOf rl_32) d_X0_init_37 f_X0_28 (Or.inr ⟨rfl, by decide⟩) rfl (by decide) rfl rfl ?_
  refine r_aload_n d_X0_init_40 rfl ?_
  refine r_iconst d_X0_init_41 ?_
  refine k_newa (kd := 12) (N := 4) (n0 := 72) (T' := tk 73 Ls) d_X0_init_42 (Or.inr (Or.inr (Or.inl ⟨rfl, rfl⟩))) ac_boolean (by decide) rfl rfl rfl (zrf_up (by decide) (hz 72 (by decide))) (hzL 72 (by decide)) (rnf_rOf (l := rl_32) (by decide)) ?_
  refine k_putr (a := 63) (k := 6) (b := 72) (R' := rOf rl_33) d_X0_init_44 f_X0_31 (Or.inr ⟨rfl, by decide⟩) rfl (by decide) rfl rfl ?_
  refine r_aload_n d_X0_init_47 rfl ?_
  refine r_bipush d_X0_init_48 (by decide) ?_
  refine k_newa (kd := 10) (N := 8) (n0 := 73) (T' := tk 74 Ls) d_X0_init_50 (Or.inl ⟨rfl, rfl⟩) ac_int (by decide) rfl rfl rfl (zrf_up (by decide) (hz 73 (by decide))) (hzL 73 (by decide)) (rnf_rOf (l := rl_33) (by decide)) ?_
  refine k_putr (a := 63) (k := 8) (b := 73) (R' := rOf rl_34) d_X0_init_52 f_X0_34 (Or.inr ⟨rfl, by decide⟩) rfl (by decide) rfl rfl ?_
  refine r_aload_n d_X0_init_55 rfl ?_
  refine r_bipush d_X0_init_56 (by decide) ?_
  refine k_newa (kd := 10) (N := 8) (n0 := 74) (T' := tk 75 Ls) d_X0_init_58 (Or.inl ⟨rfl, rfl⟩) ac_int (by decide) rfl rfl rfl (zrf_up (by decide) (hz 74 (by decide))) (hzL 74 (by decide)) (rnf_rOf (l := rl_34) (by decide)) ?_
  refine k_putr (a := 63) (k := 9) (b := 74) (R' := rOf rl_35) d_X0_init_60 f_X0_37 (Or.inr ⟨rfl, by decide⟩) rfl (by decide) rfl rfl ?_
  refine r_aload_n d_X0_init_63 rfl ?_
  refine r_bipush d_X0_init_64 (by decide) ?_
  refine k_newa (kd := 10) (N := 8) (n0 := 75) (T' := tk 76 Ls) d_X0_init_66 (Or.inl ⟨rfl, rfl⟩) ac_int (by decide) rfl rfl rfl (zrf_up (by decide) (hz 75 (by decide))) (hzL 75 (by decide)) (rnf_rOf (l := rl_35) (by decide)) ?_
  refine k_putr (a := 63) (k := 10) (b := 75) (R' := rOf rl_36) d_X0_init_68 f_X0_40 (Or.inr ⟨rfl, by decide⟩) rfl (by decide) rfl rfl ?_
  refine r_aload_n d_X0_init_71 rfl ?_
  refine r_bipush d_X0_init_72 (by decide) ?_
  refine k_newa (kd := 10) (N := 8) (n0 := 76) (T' := tk 77 Ls) d_X0_init_74 (Or.inl ⟨rfl, rfl⟩) ac_int (by decide) rfl rfl rfl (zrf_up (by decide) (hz 76 (by decide))) (hzL 76 (by decide)) (rnf_rOf (l := rl_36) (by decide)) ?_
  refine k_putr (a := 63) (k := 11) (b := 76) (R' := rOf rl_37) d_X0_init_76 f_X0_43 (Or.inr ⟨rfl, by decide⟩) rfl (by decide) rfl rfl ?_
  refine r_aload_n d_X0_init_79 rfl ?_
  refine r_aload_n d_X0_init_80 rfl ?_
  refine k_putr (a := 63) (k := 7) (b := 8) (R' := rOf rl_38) d_X0_init_81 f_X0_46 (Or.inr ⟨rfl, by decide⟩) rfl (by decide) rfl rfl ?_
  refine r_vret d_X0_init_84 rfl ?_
  exact ⟨rfl, rfl, rfl, rfl, rfl⟩
set_option maxRecDepth 20000 in
theorem k_X3_init_79 {g : sG} {Ls : Nat} {I L : sI} (hz : ∀ n, 80 ≤ n → zrf I n = I) (hzL : ∀ n, 80 ≤ n → zrf L n = L) : Mc g 1 m_X3_init 42 339 [vr 79, vr 8] (tk 80 Ls) I L (rOf rl_41) (qV fun T' I' L' R' => T' = tk 122 Ls ∧ I = I' ∧ L = L' ∧ R' = rOf rl_53) := by
  refine Mc_of rfl (Nat.le_of_ble_eq_true rfl) ?_
  refine r_aload_n d_X3_init_0 rfl ?_
  refine r_oinit d_X3_init_1 (w_X3_3 _ rfl) (by decide) (Nat.le_of_ble_eq_true rfl) ?_
  refine r_aload_n d_X3_init_4 rfl ?_
  refine r_bipush d_X3_init_5 (by decide) ?_
  refine r_bipush d_X3_init_7 (by decide) ?_
  refine k_mna (kd := 17) (ke := 11) (N := 8) (K := 8) (n0 := 80) (T' := tk 89 Ls) (R' := rOf rl_42) d_X3_init_9 (Or.inr ⟨rfl, rfl, rfl⟩) (n_X3_9 _ rfl) ov_l ac_long (by decide) (by decide) rfl rfl rfl rfl (hz 80 (by decide)) (hzL 80 (by decide)) (rmn_rOf (l := rl_41) (by decide)) ?_
  refine k_putr (a := 79) (k := 2) (b := 80) (R' := rOf rl_43) d_X3_init_13 f_X3_11 (Or.inr ⟨rfl, by decide⟩) rfl (by decide) rfl rfl ?_
  refine r_aload_n d_X3_init_16 rfl ?_
  refine r_bipush d_X3_init_17 (by decide) ?_
  refine r_bipush d_X3_init_19 (by decide) ?_
  refine k_mna (kd := 17) (ke := 11) (N := 9) (K := 8) (n0 := 89) (T' := tk 99 Ls) (R' := rOf rl_44) d_X3_init_21 (Or.inr ⟨rfl, rfl, rfl⟩) (n_X3_9 _ rfl) ov_l ac_long (by decide) (by decide) rfl rfl rfl rfl (hz 89 (by decide)) (hzL 89 (by decide)) (rmn_rOf (l := rl_43) (by decide)) ?_
  refine k_putr (a := 79) (k := 3) (b := 89) (R' := rOf rl_45) d_X3_init_25 f_X3_16 (Or.inr ⟨rfl, by decide⟩) rfl (by decide) rfl rfl ?_
  refine r_aload_n d_X3_init_28 rfl ?_
  refine r_bipush d_X3_init_29 (by decide) ?_
  refine r_bipush d_X3_init_31 (by decide) ?_
  refine k_mna (kd := 17) (ke := 11) (N := 9) (K := 8) (n0 := 99) (T' := tk 109 Ls) (R' := rOf rl_46) d_X3_init_33 (Or.inr ⟨rfl, rfl, rfl⟩) (n_X3_9 _ rfl) ov_l ac_long (by decide) (by decide) rfl rfl rfl rfl (hz 99 (by decide)) (hzL 99 (by decide)) (rmn_rOf (l := rl_45) (by decide)) ?_
  refine k_putr (a := 79) (k := 4) (b := 99) (R' := rOf rl_47) d_X3_init_37 f_X3_19 (Or.inr ⟨rfl, by decide⟩) rfl (by decide) rfl rfl ?_
  refine r_aload_n d_X3_init_40 rfl ?_
  refine r_bipush d_X3_init_41 (by decide) ?_
  refine r_bipush d_X3_init_43 (by decide) ?_
  refine k_mna (kd := 16) (ke := 10) (N := 9) (K := 8) (n0 := 109) (T' := tk 119 Ls) (R' := rOf rl_48) d_X3_init_45 (Or.inl ⟨rfl, rfl, rfl⟩) (n_X3_22 _ rfl) ov_i ac_int (by decide) (by decide) rfl rfl rfl rfl (hz 109 (by decide)) (hzL 109 (by decide)) (rmn_rOf (l := rl_47) (by decide)) ?_
  refine k_putr (a := 79) (k := 5) (b := 109) (R' := rOf rl_49) d_X3_init_49 f_X3_24 (Or.inr ⟨rfl, by decide⟩) rfl (by decide) rfl rfl ?_
  refine r_aload_n d_X3_init_52 rfl ?_
  refine r_bipush d_X3_init_53 (by decide) ?_
  refine k_newa (kd := 11) (N := 8) (n0 := 119) (T' := tk 120 Ls) d_X3_init_55 (Or.inr (Or.inl ⟨rfl, rfl⟩)) ac_long (by decide) rfl rfl rfl (hz 119 (by decide)) (hzL 119 (by decide)) (rnf_rOf (l := rl_49) (by decide)) ?_
  refine k_putr (a := 79) (k := 6) (b := 119) (R' := rOf rl_50) d_X3_init_57 f_X3_27 (Or.inr ⟨rfl, by decide⟩) rfl (by decide) rfl rfl ?_
  refine r_aload_n d_X3_init_60 rfl ?_
  refine r_bipush d_X3_init_61 (by decide) ?_
  refine k_newa (kd := 10) (N := 8) (n0 := 120) (T' := tk 121 Ls) d_X3_init_63 (Or.inl ⟨rfl, rfl⟩) ac_int (by decide) rfl rfl rfl (hz 120 (by decide)) (hzL 120 (by decide)) (rnf_rOf (l := rl_50) (by decide)) ?_
  refine k_putr (a := 79) (k := 7) (b := 120) (R' := rOf rl_51) d_X3_init_65 f_X3_31 (Or.inr ⟨rfl, by decide⟩) rfl (by decide) rfl rfl ?_
  refine r_aload_n d_X3_init_68 rfl ?_
  refine r_bipush d_X3_init_69 (by decide) ?_
  refine k_newa (kd := 12) (N := 8) (n0 := 121) (T' := tk 122 Ls) d_X3_init_71 (Or.inr (Or.inr (Or.inl ⟨rfl, rfl⟩))) ac_boolean (by decide) rfl rfl rfl (hz 121 (by decide)) (hzL 121 (by decide)) (rnf_rOf (l := rl_51) (by decide)) ?_
  refine k_putr (a := 79) (k := 8) (b := 121) (R' := rOf rl_52) d_X3_init_73 f_X3_35 (Or.inr ⟨rfl, by decide⟩) rfl (by decide) rfl rfl ?_
  refine r_aload_n d_X3_init_76 rfl ?_
  refine r_aload_n d_X3_init_77 rfl ?_
  refine k_putr (a := 79) (k := 0) (b := 8) (R' := rOf rl_53) d_X3_init_78 f_X3_39 (Or.inr ⟨rfl, by decide⟩) rfl (by decide) rfl rfl ?_
  refine r_vret d_X3_init_81 rfl ?_
  exact ⟨rfl, rfl, rfl, rfl, rfl⟩
set_option maxRecDepth 20000 in
theorem k_X1_init_77 {g : sG} {Ls : Nat} {I L : sI} (hz : ∀ n, 78 ≤ n → zrf I n = I) (hzL : ∀ n, 78 ≤ n → zrf L n = L) : Mc g 2 m_X1_init 44 356 [vr 77, vr 8] (tk 78 Ls) I L (rOf rl_39) (qV fun T' I' L' R' => T' = tk 122 Ls ∧ I = I' ∧ L = L' ∧ R' = rOf rl_54) := by
  refine Mc_of rfl (Nat.le_of_ble_eq_true rfl) ?_
  refine r_aload_n d_X1_init_0 rfl ?_
  refine r_oinit d_X1_init_1 (w_X1_3 _ rfl) (by decide) (Nat.le_of_ble_eq_true rfl) ?_
  refine r_aload_n d_X1_init_4 rfl ?_
  refine r_bipush d_X1_init_5 (by decide) ?_
  refine k_newa (kd := 10) (N := 8) (n0 := 78) (T' := tk 79 Ls) d_X1_init_7 (Or.inl ⟨rfl, rfl⟩) ac_int (by decide) rfl rfl rfl (hz 78 (by decide)) (hzL 78 (by decide)) (rnf_rOf (l := rl_39) (by decide)) ?_
  refine k_putr (a := 77) (k := 2) (b := 78) (R' := rOf rl_40) d_X1_init_9 f_X1_9 (Or.inr ⟨rfl, by decide⟩) rfl (by decide) rfl rfl ?_
  refine r_aload_n d_X1_init_12 rfl ?_
  refine r_aload_n d_X1_init_13 rfl ?_
  refine k_putr (a := 77) (k := 0) (b := 8) (R' := rOf rl_41) d_X1_init_14 f_X1_15 (Or.inr ⟨rfl, by decide⟩) rfl (by decide) rfl rfl ?_
  refine r_aload_n d_X1_init_17 rfl ?_
  refine k_new (c := 3) (n0 := 79) (T' := tk 80 Ls) d_X1_init_18 rfl rfl (n_X1_19 _ rfl) (by decide) rfl rfl (hz 79 (by decide)) (hzL 79 (by decide)) (rnf_rOf (l := rl_41) (by decide)) ?_
  refine r_dup d_X1_init_21 rfl ?_
  refine r_aload_n d_X1_init_22 rfl ?_
  refine r_I1v d_X1_init_23 (w_X1_21 _ rfl) (k_X3_init_79 (I := I) (fun n hn => hz n (by omega)) (fun n hn => hzL n (by omega))) (by decide) (Nat.le_of_ble_eq_true rfl) (fun T23 I23 L23 R23 h23 => ?_)
  obtain ⟨rfl, i23, e23, rfl⟩ := h23
  subst i23 e23
  refine k_putr (a := 77) (k := 1) (b := 79) (R' := rOf rl_54) d_X1_init_26 f_X1_24 (Or.inr ⟨rfl, by decide⟩) rfl (by decide) rfl rfl ?_
  refine r_vret d_X1_init_29 rfl ?_
  exact ⟨rfl, rfl, rfl, rfl, rfl⟩
set_option maxRecDepth 20000 in
theorem k_X4_init_122 {g : sG} {Ls : Nat} {I L : sI} (hz : ∀ n, 123 ≤ n → zrf I n = I) (hzL : ∀ n, 123 ≤ n → zrf L n = L) : Mc g 1 m_X4_init 14 5792 [vr 122, vr 8, vr 63, vr 77] (tk 123 Ls) I L (rOf rl_55) (qV fun T' I' L' R' => T' = tk 137 Ls ∧ I = I' ∧ L = L' ∧ R' = rOf rl_64) := by
  refine Mc_of rfl (Nat.le_of_ble_eq_true rfl) ?_
  refine r_aload_n d_X4_init_0 rfl ?_
  refine r_oinit d_X4_init_1 (w_X4_3 _ rfl) (by decide) (Nat.le_of_ble_eq_true rfl) ?_
  refine r_aload_n d_X4_init_4 rfl ?_
  refine r_bipush d_X4_init_5 (by decide) ?_
  refine r_sipush d_X4_init_7 (by decide) ?_
  refine k_mna (kd := 16) (ke := 10) (N := 8) (K := 720) (n0 := 123) (T' := tk 132 Ls) (R' := rOf rl_56) d_X4_init_10 (Or.inl ⟨rfl, rfl, rfl⟩) (n_X4_9 _ rfl) ov_i ac_int (by decide) (by decide) rfl rfl rfl rfl (hz 123 (by decide)) (hzL 123 (by decide)) (rmn_rOf (l := rl_55) (by decide)) ?_
  refine k_putr (a := 122) (k := 3) (b := 123) (R' := rOf rl_57) d_X4_init_14 f_X4_11 (Or.inr ⟨rfl, by decide⟩) rfl (by decide) rfl rfl ?_
  refine r_aload_n d_X4_init_17 rfl ?_
  refine r_bipush d_X4_init_18 (by decide) ?_
  refine k_newa (kd := 10) (N := 8) (n0 := 132) (T' := tk 133 Ls) d_X4_init_20 (Or.inl ⟨rfl, rfl⟩) ac_int (by decide) rfl rfl rfl (hz 132 (by decide)) (hzL 132 (by decide)) (rnf_rOf (l := rl_57) (by decide)) ?_
  refine k_putr (a := 122) (k := 4) (b := 132) (R' := rOf rl_58) d_X4_init_22 f_X4_16 (Or.inr ⟨rfl, by decide⟩) rfl (by decide) rfl rfl ?_
  refine r_aload_n d_X4_init_25 rfl ?_
  refine r_iconst d_X4_init_26 ?_
  refine r_bipush d_X4_init_27 (by decide) ?_
  refine k_mna (kd := 16) (ke := 10) (N := 2) (K := 6) (n0 := 133) (T' := tk 136 Ls) (R' := rOf rl_59) d_X4_init_29 (Or.inl ⟨rfl, rfl, rfl⟩) (n_X4_9 _ rfl) ov_i ac_int (by decide) (by decide) rfl rfl rfl rfl (hz 133 (by decide)) (hzL 133 (by decide)) (rmn_rOf (l := rl_58) (by decide)) ?_
  refine k_putr (a := 122) (k := 7) (b := 133) (R' := rOf rl_60) d_X4_init_33 f_X4_20 (Or.inr ⟨rfl, by decide⟩) rfl (by decide) rfl rfl ?_
  refine r_aload_n d_X4_init_36 rfl ?_
  refine r_iconst d_X4_init_37 ?_
  refine k_newa (kd := 12) (N := 2) (n0 := 136) (T' := tk 137 Ls) d_X4_init_38 (Or.inr (Or.inr (Or.inl ⟨rfl, rfl⟩))) ac_boolean (by decide) rfl rfl rfl (hz 136 (by decide)) (hzL 136 (by decide)) (rnf_rOf (l := rl_60) (by decide)) ?_
  refine k_putr (a := 122) (k := 8) (b := 136) (R' := rOf rl_61) d_X4_init_40 f_X4_23 (Or.inr ⟨rfl, by decide⟩) rfl (by decide) rfl rfl ?_
  refine r_aload_n d_X4_init_43 rfl ?_
  refine r_aload_n d_X4_init_44 rfl ?_
  refine k_putr (a := 122) (k := 0) (b := 8) (R' := rOf rl_62) d_X4_init_45 f_X4_27 (Or.inr ⟨rfl, by decide⟩) rfl (by decide) rfl rfl ?_
  refine r_aload_n d_X4_init_48 rfl ?_
  refine r_aload_n d_X4_init_49 rfl ?_
  refine k_putr (a := 122) (k := 1) (b := 63) (R' := rOf rl_63) d_X4_init_50 f_X4_31 (Or.inr ⟨rfl, by decide⟩) rfl (by decide) rfl rfl ?_
  refine r_aload_n d_X4_init_53 rfl ?_
  refine r_aload_n d_X4_init_54 rfl ?_
  refine k_putr (a := 122) (k := 2) (b := 77) (R' := rOf rl_64) d_X4_init_55 f_X4_35 (Or.inr ⟨rfl, by decide⟩) rfl (by decide) rfl rfl ?_
  refine r_vret d_X4_init_58 rfl ?_
  exact ⟨rfl, rfl, rfl, rfl, rfl⟩
set_option maxRecDepth 20000 in
theorem k_X7_init_3 {g : sG} {Ls : Nat} {I L : sI} (hz : ∀ n, 4 ≤ n → zrf I n = I) (hzL : ∀ n, 4 ≤ n → zrf L n = L) : Mc g 3 m_X7_init 135 6753 [vr 3] (tk 4 Ls) I L (rOf rl_0) (qV fun T' I' L' R' => T' = tk 139 Ls ∧ (up2 I 63 0 2) = I' ∧ L = L' ∧ R' = rOf rl_67) := by
  refine Mc_of rfl (Nat.le_of_ble_eq_true rfl) ?_
  refine r_aload_n d_X7_init_0 rfl ?_
  refine r_oinit d_X7_init_1 (w_X7_1 _ rfl) (by decide) (Nat.le_of_ble_eq_true rfl) ?_
  refine r_aload_n d_X7_init_4 rfl ?_
  refine k_new (c := 5) (n0 := 4) (T' := tk 5 Ls) d_X7_init_5 rfl rfl (n_X7_7 _ rfl) (by decide) rfl rfl (hz 4 (by decide)) (hzL 4 (by decide)) (rnf_rOf (l := rl_0) (by decide)) ?_
  refine r_dup d_X7_init_8 rfl ?_
  refine r_IN0v d_X7_init_9 (w_X7_9 _ rfl) (k_X5_init_4 (I := I) (fun n hn => hz n (by omega)) (fun n hn => hzL n (by omega))) (by decide) (Nat.le_of_ble_eq_true rfl) (fun T9 I9 L9 R9 h9 => ?_)
  obtain ⟨rfl, i9, e9, rfl⟩ := h9
  subst i9 e9
  refine k_putr (a := 3) (k := 0) (b := 4) (R' := rOf rl_4) d_X7_init_12 f_X7_10 (Or.inr ⟨rfl, by decide⟩) rfl (by decide) rfl rfl ?_
  refine r_aload_n d_X7_init_15 rfl ?_
  refine k_new (c := 2) (n0 := 8) (T' := tk 9 Ls) d_X7_init_16 rfl rfl (n_X7_16 _ rfl) (by decide) rfl rfl (hz 8 (by decide)) (hzL 8 (by decide)) (rnf_rOf (l := rl_4) (by decide)) ?_
  refine r_dup d_X7_init_19 rfl ?_
  refine r_IN0v d_X7_init_20 (w_X7_18 _ rfl) (k_X2_init_8 (I := I) (fun n hn => hz n (by omega)) (fun n hn => hzL n (by omega))) (by decide) (Nat.le_of_ble_eq_true rfl) (fun T20 I20 L20 R20 h20 => ?_)
  obtain ⟨rfl, i20, e20, rfl⟩ := h20
  subst i20 e20
  refine k_putr (a := 3) (k := 1) (b := 8) (R' := rOf rl_15) d_X7_init_23 f_X7_19 (Or.inr ⟨rfl, by decide⟩) rfl (by decide) rfl rfl ?_
  refine r_aload_n d_X7_init_26 rfl ?_
  refine k_new (c := 2) (n0 := 35) (T' := tk 36 Ls) d_X7_init_27 rfl rfl (n_X7_16 _ rfl) (by decide) rfl rfl (hz 35 (by decide)) (hzL 35 (by decide)) (rnf_rOf (l := rl_15) (by decide)) ?_
  refine r_dup d_X7_init_30 rfl ?_
  refine r_IN0v d_X7_init_31 (w_X7_18 _ rfl) (k_X2_init_35 (I := I) (fun n hn => hz n (by omega)) (fun n hn => hzL n (by omega))) (by decide) (Nat.le_of_ble_eq_true rfl) (fun T31 I31 L31 R31 h31 => ?_)
  obtain ⟨rfl, i31, e31, rfl⟩ := h31
  subst i31 e31
  refine k_putr (a := 3) (k := 2) (b := 35) (R' := rOf rl_26) d_X7_init_34 f_X7_23 (Or.inr ⟨rfl, by decide⟩) rfl (by decide) rfl rfl ?_
  refine r_aload_n d_X7_init_37 rfl ?_
  refine r_bipush d_X7_init_38 (by decide) ?_
  refine k_anewa (N := 8) (n0 := 62) (T' := tk 63 Ls) d_X7_init_40 (n_X7_26 _ rfl).1 ov_r (by decide) rfl rfl rfl (hz 62 (by decide)) (hzL 62 (by decide)) (rnf_rOf (l := rl_26) (by decide)) ?_
  refine k_putr (a := 3) (k := 3) (b := 62) (R' := rOf rl_27) d_X7_init_43 f_X7_28 (Or.inr ⟨rfl, by decide⟩) rfl (by decide) rfl rfl ?_
  refine r_aload_n d_X7_init_46 rfl ?_
  refine k_new (c := 0) (n0 := 63) (T' := tk 64 Ls) d_X7_init_47 rfl rfl (n_X7_32 _ rfl) (by decide) rfl rfl (hz 63 (by decide)) (hzL 63 (by decide)) (rnf_rOf (l := rl_27) (by decide)) ?_
  refine r_dup d_X7_init_50 rfl ?_
  refine r_aload_n d_X7_init_51 rfl ?_
  refine r_getr d_X7_init_52 f_X7_19 (a := 3) rfl (by decide) rfl (b := 8) rfl ?_
  refine r_I1v d_X7_init_55 (w_X7_34 _ rfl) (k_X0_init_63 (I := I) (fun n hn => hz n (by omega)) (fun n hn => hzL n (by omega))) (by decide) (Nat.le_of_ble_eq_true rfl) (fun T55 I55 L55 R55 h55 => ?_)
  obtain ⟨rfl, i55, e55, rfl⟩ := h55
  subst i55 e55
  refine k_putr (a := 3) (k := 5) (b := 63) (R' := rOf rl_39) d_X7_init_58 f_X7_37 (Or.inr ⟨rfl, by decide⟩) rfl (by decide) rfl rfl ?_
  refine r_aload_n d_X7_init_61 rfl ?_
  refine k_new (c := 1) (n0 := 77) (T' := tk 78 Ls) d_X7_init_62 rfl rfl (n_X7_41 _ rfl) (by decide) rfl rfl (zrf_up (by decide) (hz 77 (by decide))) (hzL 77 (by decide)) (rnf_rOf (l := rl_39) (by decide)) ?_
  refine r_dup d_X7_init_65 rfl ?_
  refine r_aload_n d_X7_init_66 rfl ?_
  refine r_getr d_X7_init_67 f_X7_19 (a := 3) rfl (by decide) rfl (b := 8) rfl ?_
  refine r_I1v d_X7_init_70 (w_X7_43 _ rfl) (k_X1_init_77 (I := (up2 I 63 0 2)) (fun n hn => zrf_up (by omega) (hz n (by omega))) (fun n hn => hzL n (by omega))) (by decide) (Nat.le_of_ble_eq_true rfl) (fun T70 I70 L70 R70 h70 => ?_)
  obtain ⟨rfl, i70, e70, rfl⟩ := h70
  subst i70 e70
  refine k_putr (a := 3) (k := 6) (b := 77) (R' := rOf rl_55) d_X7_init_73 f_X7_44 (Or.inr ⟨rfl, by decide⟩) rfl (by decide) rfl rfl ?_
  refine r_aload_n d_X7_init_76 rfl ?_
  refine k_new (c := 4) (n0 := 122) (T' := tk 123 Ls) d_X7_init_77 rfl rfl (n_X7_48 _ rfl) (by decide) rfl rfl (zrf_up (by decide) (hz 122 (by decide))) (hzL 122 (by decide)) (rnf_rOf (l := rl_55) (by decide)) ?_
  refine r_dup d_X7_init_80 rfl ?_
  refine r_aload_n d_X7_init_81 rfl ?_
  refine r_getr d_X7_init_82 f_X7_19 (a := 3) rfl (by decide) rfl (b := 8) rfl ?_
  refine r_aload_n d_X7_init_85 rfl ?_
  refine r_getr d_X7_init_86 f_X7_37 (a := 3) rfl (by decide) rfl (b := 63) rfl ?_
  refine r_aload_n d_X7_init_89 rfl ?_
  refine r_getr d_X7_init_90 f_X7_44 (a := 3) rfl (by decide) rfl (b := 77) rfl ?_
  refine r_I3v d_X7_init_93 (w_X7_50 _ rfl) (k_X4_init_122 (I := (up2 I 63 0 2)) (fun n hn => zrf_up (by omega) (hz n (by omega))) (fun n hn => hzL n (by omega))) (by decide) (Nat.le_of_ble_eq_true rfl) (fun T93 I93 L93 R93 h93 => ?_)
  obtain ⟨rfl, i93, e93, rfl⟩ := h93
  subst i93 e93
  refine k_putr (a := 3) (k := 7) (b := 122) (R' := rOf rl_65) d_X7_init_96 f_X7_53 (Or.inr ⟨rfl, by decide⟩) rfl (by decide) rfl rfl ?_
  refine r_aload_n d_X7_init_99 rfl ?_
  refine r_bipush d_X7_init_100 (by decide) ?_
  refine k_newa (kd := 10) (N := 8) (n0 := 137) (T' := tk 138 Ls) d_X7_init_102 (Or.inl ⟨rfl, rfl⟩) ac_int (by decide) rfl rfl rfl (zrf_up (by decide) (hz 137 (by decide))) (hzL 137 (by decide)) (rnf_rOf (l := rl_65) (by decide)) ?_
  refine k_putr (a := 3) (k := 8) (b := 137) (R' := rOf rl_66) d_X7_init_104 f_X7_57 (Or.inr ⟨rfl, by decide⟩) rfl (by decide) rfl rfl ?_
  refine r_aload_n d_X7_init_107 rfl ?_
  refine r_bipush d_X7_init_108 (by decide) ?_
  refine k_newa (kd := 10) (N := 8) (n0 := 138) (T' := tk 139 Ls) d_X7_init_110 (Or.inl ⟨rfl, rfl⟩) ac_int (by decide) rfl rfl rfl (zrf_up (by decide) (hz 138 (by decide))) (hzL 138 (by decide)) (rnf_rOf (l := rl_66) (by decide)) ?_
  refine k_putr (a := 3) (k := 9) (b := 138) (R' := rOf rl_67) d_X7_init_112 f_X7_61 (Or.inr ⟨rfl, by decide⟩) rfl (by decide) rfl rfl ?_
  refine r_vret d_X7_init_115 rfl ?_
  exact ⟨rfl, rfl, rfl, rfl, rfl⟩
set_option maxRecDepth 20000 in
theorem k_X8_init_139 {g : sG} {Ls : Nat} {I L : sI} (hz : ∀ n, 140 ≤ n → zrf I n = I) (hzL : ∀ n, 140 ≤ n → zrf L n = L) : Mc g 1 m_X8_init 46 2979 [vr 139] (tk 140 Ls) I L (rOf rl_67) (qV fun T' I' L' R' => T' = tk 186 Ls ∧ (up2 (up2 I 139 17 2) 139 55 (-1)) = I' ∧ L = L' ∧ R' = rOf rl_113) := by
  refine Mc_of rfl (Nat.le_of_ble_eq_true rfl) ?_
  refine r_aload_n d_X8_init_0 rfl ?_
  refine r_oinit d_X8_init_1 (w_X8_1 _ rfl) (by decide) (Nat.le_of_ble_eq_true rfl) ?_
  refine r_aload_n d_X8_init_4 rfl ?_
  refine r_bipush d_X8_init_5 (by decide) ?_
  refine k_newa (kd := 10) (N := 8) (n0 := 140) (T' := tk 141 Ls) d_X8_init_7 (Or.inl ⟨rfl, rfl⟩) ac_int (by decide) rfl rfl rfl (hz 140 (by decide)) (hzL 140 (by decide)) (rnf_rOf (l := rl_67) (by decide)) ?_
  refine k_putr (a := 139) (k := 1) (b := 140) (R' := rOf rl_68) d_X8_init_9 f_X8_7 (Or.inr ⟨rfl, by decide⟩) rfl (by decide) rfl rfl ?_
  refine r_aload_n d_X8_init_12 rfl ?_
  refine r_bipush d_X8_init_13 (by decide) ?_
  refine k_newa (kd := 10) (N := 8) (n0 := 141) (T' := tk 142 Ls) d_X8_init_15 (Or.inl ⟨rfl, rfl⟩) ac_int (by decide) rfl rfl rfl (hz 141 (by decide)) (hzL 141 (by decide)) (rnf_rOf (l := rl_68) (by decide)) ?_
  refine k_putr (a := 139) (k := 2) (b := 141) (R' := rOf rl_69) d_X8_init_17 f_X8_13 (Or.inr ⟨rfl, by decide⟩) rfl (by decide) rfl rfl ?_
  refine r_aload_n d_X8_init_20 rfl ?_
  refine r_bipush d_X8_init_21 (by decide) ?_
  refine k_newa (kd := 10) (N := 8) (n0 := 142) (T' := tk 143 Ls) d_X8_init_23 (Or.inl ⟨rfl, rfl⟩) ac_int (by decide) rfl rfl rfl (hz 142 (by decide)) (hzL 142 (by decide)) (rnf_rOf (l := rl_69) (by decide)) ?_
  refine k_putr (a := 139) (k := 3) (b := 142) (R' := rOf rl_70) d_X8_init_25 f_X8_16 (Or.inr ⟨rfl, by decide⟩) rfl (by decide) rfl rfl ?_
  refine r_aload_n d_X8_init_28 rfl ?_
  refine r_bipush d_X8_init_29 (by decide) ?_
  refine k_newa (kd := 10) (N := 8) (n0 := 143) (T' := tk 144 Ls) d_X8_init_31 (Or.inl ⟨rfl, rfl⟩) ac_int (by decide) rfl rfl rfl (hz 143 (by decide)) (hzL 143 (by decide)) (rnf_rOf (l := rl_70) (by decide)) ?_
  refine k_putr (a := 139) (k := 4) (b := 143) (R' := rOf rl_71) d_X8_init_33 f_X8_19 (Or.inr ⟨rfl, by decide⟩) rfl (by decide) rfl rfl ?_
  refine r_aload_n d_X8_init_36 rfl ?_
  refine r_bipush d_X8_init_37 (by decide) ?_
  refine k_newa (kd := 10) (N := 8) (n0 := 144) (T' := tk 145 Ls) d_X8_init_39 (Or.inl ⟨rfl, rfl⟩) ac_int (by decide) rfl rfl rfl (hz 144 (by decide)) (hzL 144 (by decide)) (rnf_rOf (l := rl_71) (by decide)) ?_
  refine k_putr (a := 139) (k := 5) (b := 144) (R' := rOf rl_72) d_X8_init_41 f_X8_22 (Or.inr ⟨rfl, by decide⟩) rfl (by decide) rfl rfl ?_
  refine r_aload_n d_X8_init_44 rfl ?_
  refine r_bipush d_X8_init_45 (by decide) ?_
  refine k_newa (kd := 10) (N := 8) (n0 := 145) (T' := tk 146 Ls) d_X8_init_47 (Or.inl ⟨rfl, rfl⟩) ac_int (by decide) rfl rfl rfl (hz 145 (by decide)) (hzL 145 (by decide)) (rnf_rOf (l := rl_72) (by decide)) ?_
  refine k_putr (a := 139) (k := 6) (b := 145) (R' := rOf rl_73) d_X8_init_49 f_X8_25 (Or.inr ⟨rfl, by decide⟩) rfl (by decide) rfl rfl ?_
  refine r_aload_n d_X8_init_52 rfl ?_
  refine r_bipush d_X8_init_53 (by decide) ?_
  refine k_newa (kd := 10) (N := 8) (n0 := 146) (T' := tk 147 Ls) d_X8_init_55 (Or.inl ⟨rfl, rfl⟩) ac_int (by decide) rfl rfl rfl (hz 146 (by decide)) (hzL 146 (by decide)) (rnf_rOf (l := rl_73) (by decide)) ?_
  refine k_putr (a := 139) (k := 7) (b := 146) (R' := rOf rl_74) d_X8_init_57 f_X8_28 (Or.inr ⟨rfl, by decide⟩) rfl (by decide) rfl rfl ?_
  refine r_aload_n d_X8_init_60 rfl ?_
  refine r_iconst d_X8_init_61 ?_
  refine k_newa (kd := 10) (N := 4) (n0 := 147) (T' := tk 148 Ls) d_X8_init_62 (Or.inl ⟨rfl, rfl⟩) ac_int (by decide) rfl rfl rfl (hz 147 (by decide)) (hzL 147 (by decide)) (rnf_rOf (l := rl_74) (by decide)) ?_
  refine k_putr (a := 139) (k := 9) (b := 147) (R' := rOf rl_75) d_X8_init_64 f_X8_31 (Or.inr ⟨rfl, by decide⟩) rfl (by decide) rfl rfl ?_
  refine r_aload_n d_X8_init_67 rfl ?_
  refine r_iconst d_X8_init_68 ?_
  refine k_newa (kd := 10) (N := 4) (n0 := 148) (T' := tk 149 Ls) d_X8_init_69 (Or.inl ⟨rfl, rfl⟩) ac_int (by decide) rfl rfl rfl (hz 148 (by decide)) (hzL 148 (by decide)) (rnf_rOf (l := rl_75) (by decide)) ?_
  refine k_putr (a := 139) (k := 10) (b := 148) (R' := rOf rl_76) d_X8_init_71 f_X8_34 (Or.inr ⟨rfl, by decide⟩) rfl (by decide) rfl rfl ?_
  refine r_aload_n d_X8_init_74 rfl ?_
  refine r_iconst d_X8_init_75 ?_
  refine k_newa (kd := 10) (N := 4) (n0 := 149) (T' := tk 150 Ls) d_X8_init_76 (Or.inl ⟨rfl, rfl⟩) ac_int (by decide) rfl rfl rfl (hz 149 (by decide)) (hzL 149 (by decide)) (rnf_rOf (l := rl_76) (by decide)) ?_
  refine k_putr (a := 139) (k := 11) (b := 149) (R' := rOf rl_77) d_X8_init_78 f_X8_37 (Or.inr ⟨rfl, by decide⟩) rfl (by decide) rfl rfl ?_
  refine r_aload_n d_X8_init_81 rfl ?_
  refine r_bipush d_X8_init_82 (by decide) ?_
  refine k_newa (kd := 10) (N := 8) (n0 := 150) (T' := tk 151 Ls) d_X8_init_84 (Or.inl ⟨rfl, rfl⟩) ac_int (by decide) rfl rfl rfl (hz 150 (by decide)) (hzL 150 (by decide)) (rnf_rOf (l := rl_77) (by decide)) ?_
  refine k_putr (a := 139) (k := 13) (b := 150) (R' := rOf rl_78) d_X8_init_86 f_X8_40 (Or.inr ⟨rfl, by decide⟩) rfl (by decide) rfl rfl ?_
  refine r_aload_n d_X8_init_89 rfl ?_
  refine r_bipush d_X8_init_90 (by decide) ?_
  refine k_newa (kd := 10) (N := 8) (n0 := 151) (T' := tk 152 Ls) d_X8_init_92 (Or.inl ⟨rfl, rfl⟩) ac_int (by decide) rfl rfl rfl (hz 151 (by decide)) (hzL 151 (by decide)) (rnf_rOf (l := rl_78) (by decide)) ?_
  refine k_putr (a := 139) (k := 14) (b := 151) (R' := rOf rl_79) d_X8_init_94 f_X8_43 (Or.inr ⟨rfl, by decide⟩) rfl (by decide) rfl rfl ?_
  refine r_aload_n d_X8_init_97 rfl ?_
  refine r_bipush d_X8_init_98 (by decide) ?_
  refine k_newa (kd := 12) (N := 8) (n0 := 152) (T' := tk 153 Ls) d_X8_init_100 (Or.inr (Or.inr (Or.inl ⟨rfl, rfl⟩))) ac_boolean (by decide) rfl rfl rfl (hz 152 (by decide)) (hzL 152 (by decide)) (rnf_rOf (l := rl_79) (by decide)) ?_
  refine k_putr (a := 139) (k := 15) (b := 152) (R' := rOf rl_80) d_X8_init_102 f_X8_46 (Or.inr ⟨rfl, by decide⟩) rfl (by decide) rfl rfl ?_
  refine r_aload_n d_X8_init_105 rfl ?_
  refine r_bipush d_X8_init_106 (by decide) ?_
  refine k_newa (kd := 10) (N := 8) (n0 := 153) (T' := tk 154 Ls) d_X8_init_108 (Or.inl ⟨rfl, rfl⟩) ac_int (by decide) rfl rfl rfl (hz 153 (by decide)) (hzL 153 (by decide)) (rnf_rOf (l := rl_80) (by decide)) ?_
  refine k_putr (a := 139) (k := 16) (b := 153) (R' := rOf rl_81) d_X8_init_110 f_X8_50 (Or.inr ⟨rfl, by decide⟩) rfl (by decide) rfl rfl ?_
  refine r_aload_n d_X8_init_113 rfl ?_
  refine r_iconst d_X8_init_114 ?_
  refine r_putiF (a := 139) d_X8_init_115 f_X8_53 (Or.inr ⟨rfl, by decide⟩) rfl (by decide) (Or.inl rfl) ?_
  refine r_aload_n d_X8_init_118 rfl ?_
  refine r_bipush d_X8_init_119 (by decide) ?_
  refine k_newa (kd := 10) (N := 8) (n0 := 154) (T' := tk 155 Ls) d_X8_init_121 (Or.inl ⟨rfl, rfl⟩) ac_int (by decide) rfl rfl rfl (zrf_up (by decide) (hz 154 (by decide))) (hzL 154 (by decide)) (rnf_rOf (l := rl_81) (by decide)) ?_
  refine k_putr (a := 139) (k := 20) (b := 154) (R' := rOf rl_82) d_X8_init_123 f_X8_57 (Or.inr ⟨rfl, by decide⟩) rfl (by decide) rfl rfl ?_
  refine r_aload_n d_X8_init_126 rfl ?_
  refine r_bipush d_X8_init_127 (by decide) ?_
  refine k_newa (kd := 10) (N := 8) (n0 := 155) (T' := tk 156 Ls) d_X8_init_129 (Or.inl ⟨rfl, rfl⟩) ac_int (by decide) rfl rfl rfl (zrf_up (by decide) (hz 155 (by decide))) (hzL 155 (by decide)) (rnf_rOf (l := rl_82) (by decide)) ?_
  refine k_putr (a := 139) (k := 21) (b := 155) (R' := rOf rl_83) d_X8_init_131 f_X8_60 (Or.inr ⟨rfl, by decide⟩) rfl (by decide) rfl rfl ?_
  refine r_aload_n d_X8_init_134 rfl ?_
  refine r_sipush d_X8_init_135 (by decide) ?_
  refine k_newa (kd := 10) (N := 192) (n0 := 156) (T' := tk 157 Ls) d_X8_init_138 (Or.inl ⟨rfl, rfl⟩) ac_int (by decide) rfl rfl rfl (zrf_up (by decide) (hz 156 (by decide))) (hzL 156 (by decide)) (rnf_rOf (l := rl_83) (by decide)) ?_
  refine k_putr (a := 139) (k := 22) (b := 156) (R' := rOf rl_84) d_X8_init_140 f_X8_63 (Or.inr ⟨rfl, by decide⟩) rfl (by decide) rfl rfl ?_
  refine r_aload_n d_X8_init_143 rfl ?_
  refine r_sipush d_X8_init_144 (by decide) ?_
  refine k_newa (kd := 14) (N := 160) (n0 := 157) (T' := tk 158 Ls) d_X8_init_147 (Or.inr (Or.inr (Or.inr (Or.inr ⟨rfl, rfl⟩)))) ac_byte (by decide) rfl rfl rfl (zrf_up (by decide) (hz 157 (by decide))) (hzL 157 (by decide)) (rnf_rOf (l := rl_84) (by decide)) ?_
  refine k_putr (a := 139) (k := 24) (b := 157) (R' := rOf rl_85) d_X8_init_149 f_X8_66 (Or.inr ⟨rfl, by decide⟩) rfl (by decide) rfl rfl ?_
  refine r_aload_n d_X8_init_152 rfl ?_
  refine r_bipush d_X8_init_153 (by decide) ?_
  refine k_newa (kd := 10) (N := 8) (n0 := 158) (T' := tk 159 Ls) d_X8_init_155 (Or.inl ⟨rfl, rfl⟩) ac_int (by decide) rfl rfl rfl (zrf_up (by decide) (hz 158 (by decide))) (hzL 158 (by decide)) (rnf_rOf (l := rl_85) (by decide)) ?_
  refine k_putr (a := 139) (k := 29) (b := 158) (R' := rOf rl_86) d_X8_init_157 f_X8_70 (Or.inr ⟨rfl, by decide⟩) rfl (by decide) rfl rfl ?_
  refine r_aload_n d_X8_init_160 rfl ?_
  refine r_bipush d_X8_init_161 (by decide) ?_
  refine k_newa (kd := 10) (N := 8) (n0 := 159) (T' := tk 160 Ls) d_X8_init_163 (Or.inl ⟨rfl, rfl⟩) ac_int (by decide) rfl rfl rfl (zrf_up (by decide) (hz 159 (by decide))) (hzL 159 (by decide)) (rnf_rOf (l := rl_86) (by decide)) ?_
  refine k_putr (a := 139) (k := 36) (b := 159) (R' := rOf rl_87) d_X8_init_165 f_X8_73 (Or.inr ⟨rfl, by decide⟩) rfl (by decide) rfl rfl ?_
  refine r_aload_n d_X8_init_168 rfl ?_
  refine r_bipush d_X8_init_169 (by decide) ?_
  refine k_newa (kd := 10) (N := 8) (n0 := 160) (T' := tk 161 Ls) d_X8_init_171 (Or.inl ⟨rfl, rfl⟩) ac_int (by decide) rfl rfl rfl (zrf_up (by decide) (hz 160 (by decide))) (hzL 160 (by decide)) (rnf_rOf (l := rl_87) (by decide)) ?_
  refine k_putr (a := 139) (k := 37) (b := 160) (R' := rOf rl_88) d_X8_init_173 f_X8_76 (Or.inr ⟨rfl, by decide⟩) rfl (by decide) rfl rfl ?_
  refine r_aload_n d_X8_init_176 rfl ?_
  refine r_bipush d_X8_init_177 (by decide) ?_
  refine k_newa (kd := 10) (N := 8) (n0 := 161) (T' := tk 162 Ls) d_X8_init_179 (Or.inl ⟨rfl, rfl⟩) ac_int (by decide) rfl rfl rfl (zrf_up (by decide) (hz 161 (by decide))) (hzL 161 (by decide)) (rnf_rOf (l := rl_88) (by decide)) ?_
  refine k_putr (a := 139) (k := 38) (b := 161) (R' := rOf rl_89) d_X8_init_181 f_X8_79 (Or.inr ⟨rfl, by decide⟩) rfl (by decide) rfl rfl ?_
  refine r_aload_n d_X8_init_184 rfl ?_
  refine r_bipush d_X8_init_185 (by decide) ?_
  refine k_newa (kd := 10) (N := 8) (n0 := 162) (T' := tk 163 Ls) d_X8_init_187 (Or.inl ⟨rfl, rfl⟩) ac_int (by decide) rfl rfl rfl (zrf_up (by decide) (hz 162 (by decide))) (hzL 162 (by decide)) (rnf_rOf (l := rl_89) (by decide)) ?_
  refine k_putr (a := 139) (k := 39) (b := 162) (R' := rOf rl_90) d_X8_init_189 f_X8_82 (Or.inr ⟨rfl, by decide⟩) rfl (by decide) rfl rfl ?_
  refine r_aload_n d_X8_init_192 rfl ?_
  refine r_bipush d_X8_init_193 (by decide) ?_
  refine k_newa (kd := 10) (N := 8) (n0 := 163) (T' := tk 164 Ls) d_X8_init_195 (Or.inl ⟨rfl, rfl⟩) ac_int (by decide) rfl rfl rfl (zrf_up (by decide) (hz 163 (by decide))) (hzL 163 (by decide)) (rnf_rOf (l := rl_90) (by decide)) ?_
  refine k_putr (a := 139) (k := 40) (b := 163) (R' := rOf rl_91) d_X8_init_197 f_X8_85 (Or.inr ⟨rfl, by decide⟩) rfl (by decide) rfl rfl ?_
  refine r_aload_n d_X8_init_200 rfl ?_
  refine r_bipush d_X8_init_201 (by decide) ?_
  refine k_newa (kd := 10) (N := 8) (n0 := 164) (T' := tk 165 Ls) d_X8_init_203 (Or.inl ⟨rfl, rfl⟩) ac_int (by decide) rfl rfl rfl (zrf_up (by decide) (hz 164 (by decide))) (hzL 164 (by decide)) (rnf_rOf (l := rl_91) (by decide)) ?_
  refine k_putr (a := 139) (k := 41) (b := 164) (R' := rOf rl_92) d_X8_init_205 f_X8_88 (Or.inr ⟨rfl, by decide⟩) rfl (by decide) rfl rfl ?_
  refine r_aload_n d_X8_init_208 rfl ?_
  refine r_iconst d_X8_init_209 ?_
  refine k_newa (kd := 10) (N := 3) (n0 := 165) (T' := tk 166 Ls) d_X8_init_210 (Or.inl ⟨rfl, rfl⟩) ac_int (by decide) rfl rfl rfl (zrf_up (by decide) (hz 165 (by decide))) (hzL 165 (by decide)) (rnf_rOf (l := rl_92) (by decide)) ?_
  refine k_putr (a := 139) (k := 42) (b := 165) (R' := rOf rl_93) d_X8_init_212 f_X8_91 (Or.inr ⟨rfl, by decide⟩) rfl (by decide) rfl rfl ?_
  refine r_aload_n d_X8_init_215 rfl ?_
  refine r_iconst d_X8_init_216 ?_
  refine k_newa (kd := 10) (N := 3) (n0 := 166) (T' := tk 167 Ls) d_X8_init_217 (Or.inl ⟨rfl, rfl⟩) ac_int (by decide) rfl rfl rfl (zrf_up (by decide) (hz 166 (by decide))) (hzL 166 (by decide)) (rnf_rOf (l := rl_93) (by decide)) ?_
  refine k_putr (a := 139) (k := 43) (b := 166) (R' := rOf rl_94) d_X8_init_219 f_X8_94 (Or.inr ⟨rfl, by decide⟩) rfl (by decide) rfl rfl ?_
  refine r_aload_n d_X8_init_222 rfl ?_
  refine r_iconst d_X8_init_223 ?_
  refine k_newa (kd := 10) (N := 3) (n0 := 167) (T' := tk 168 Ls) d_X8_init_224 (Or.inl ⟨rfl, rfl⟩) ac_int (by decide) rfl rfl rfl (zrf_up (by decide) (hz 167 (by decide))) (hzL 167 (by decide)) (rnf_rOf (l := rl_94) (by decide)) ?_
  refine k_putr (a := 139) (k := 44) (b := 167) (R' := rOf rl_95) d_X8_init_226 f_X8_97 (Or.inr ⟨rfl, by decide⟩) rfl (by decide) rfl rfl ?_
  refine r_aload_n d_X8_init_229 rfl ?_
  refine r_bipush d_X8_init_230 (by decide) ?_
  refine k_newa (kd := 10) (N := 8) (n0 := 168) (T' := tk 169 Ls) d_X8_init_232 (Or.inl ⟨rfl, rfl⟩) ac_int (by decide) rfl rfl rfl (zrf_up (by decide) (hz 168 (by decide))) (hzL 168 (by decide)) (rnf_rOf (l := rl_95) (by decide)) ?_
  refine k_putr (a := 139) (k := 45) (b := 168) (R' := rOf rl_96) d_X8_init_234 f_X8_100 (Or.inr ⟨rfl, by decide⟩) rfl (by decide) rfl rfl ?_
  refine r_aload_n d_X8_init_237 rfl ?_
  refine r_bipush d_X8_init_238 (by decide) ?_
  refine k_newa (kd := 10) (N := 8) (n0 := 169) (T' := tk 170 Ls) d_X8_init_240 (Or.inl ⟨rfl, rfl⟩) ac_int (by decide) rfl rfl rfl (zrf_up (by decide) (hz 169 (by decide))) (hzL 169 (by decide)) (rnf_rOf (l := rl_96) (by decide)) ?_
  refine k_putr (a := 139) (k := 46) (b := 169) (R' := rOf rl_97) d_X8_init_242 f_X8_103 (Or.inr ⟨rfl, by decide⟩) rfl (by decide) rfl rfl ?_
  refine r_aload_n d_X8_init_245 rfl ?_
  refine r_bipush d_X8_init_246 (by decide) ?_
  refine k_newa (kd := 12) (N := 8) (n0 := 170) (T' := tk 171 Ls) d_X8_init_248 (Or.inr (Or.inr (Or.inl ⟨rfl, rfl⟩))) ac_boolean (by decide) rfl rfl rfl (zrf_up (by decide) (hz 170 (by decide))) (hzL 170 (by decide)) (rnf_rOf (l := rl_97) (by decide)) ?_
  refine k_putr (a := 139) (k := 47) (b := 170) (R' := rOf rl_98) d_X8_init_250 f_X8_106 (Or.inr ⟨rfl, by decide⟩) rfl (by decide) rfl rfl ?_
  refine r_aload_n d_X8_init_253 rfl ?_
  refine r_bipush d_X8_init_254 (by decide) ?_
  refine k_newa (kd := 10) (N := 8) (n0 := 171) (T' := tk 172 Ls) d_X8_init_256 (Or.inl ⟨rfl, rfl⟩) ac_int (by decide) rfl rfl rfl (zrf_up (by decide) (hz 171 (by decide))) (hzL 171 (by decide)) (rnf_rOf (l := rl_98) (by decide)) ?_
  refine k_putr (a := 139) (k := 48) (b := 171) (R' := rOf rl_99) d_X8_init_258 f_X8_109 (Or.inr ⟨rfl, by decide⟩) rfl (by decide) rfl rfl ?_
  refine r_aload_n d_X8_init_261 rfl ?_
  refine r_bipush d_X8_init_262 (by decide) ?_
  refine k_newa (kd := 10) (N := 24) (n0 := 172) (T' := tk 173 Ls) d_X8_init_264 (Or.inl ⟨rfl, rfl⟩) ac_int (by decide) rfl rfl rfl (zrf_up (by decide) (hz 172 (by decide))) (hzL 172 (by decide)) (rnf_rOf (l := rl_99) (by decide)) ?_
  refine k_putr (a := 139) (k := 52) (b := 172) (R' := rOf rl_100) d_X8_init_266 f_X8_112 (Or.inr ⟨rfl, by decide⟩) rfl (by decide) rfl rfl ?_
  refine r_aload_n d_X8_init_269 rfl ?_
  refine r_iconst d_X8_init_270 ?_
  refine k_newa (kd := 12) (N := 2) (n0 := 173) (T' := tk 174 Ls) d_X8_init_271 (Or.inr (Or.inr (Or.inl ⟨rfl, rfl⟩))) ac_boolean (by decide) rfl rfl rfl (zrf_up (by decide) (hz 173 (by decide))) (hzL 173 (by decide)) (rnf_rOf (l := rl_100) (by decide)) ?_
  refine k_putr (a := 139) (k := 53) (b := 173) (R' := rOf rl_101) d_X8_init_273 f_X8_115 (Or.inr ⟨rfl, by decide⟩) rfl (by decide) rfl rfl ?_
  refine r_aload_n d_X8_init_276 rfl ?_
  refine r_bipush d_X8_init_277 (by decide) ?_
  refine k_newa (kd := 10) (N := 8) (n0 := 174) (T' := tk 175 Ls) d_X8_init_279 (Or.inl ⟨rfl, rfl⟩) ac_int (by decide) rfl rfl rfl (zrf_up (by decide) (hz 174 (by decide))) (hzL 174 (by decide)) (rnf_rOf (l := rl_101) (by decide)) ?_
  refine k_putr (a := 139) (k := 54) (b := 174) (R' := rOf rl_102) d_X8_init_281 f_X8_118 (Or.inr ⟨rfl, by decide⟩) rfl (by decide) rfl rfl ?_
  refine r_aload_n d_X8_init_284 rfl ?_
  refine r_iconst d_X8_init_285 ?_
  refine r_putiF (a := 139) d_X8_init_286 f_X8_121 (Or.inr ⟨rfl, by decide⟩) rfl (by decide) (Or.inl rfl) ?_
  refine r_aload_n d_X8_init_289 rfl ?_
  refine r_iconst d_X8_init_290 ?_
  refine k_newa (kd := 10) (N := 4) (n0 := 175) (T' := tk 176 Ls) d_X8_init_291 (Or.inl ⟨rfl, rfl⟩) ac_int (by decide) rfl rfl rfl (zrf_up (by decide) (zrf_up (by decide) (hz 175 (by decide)))) (hzL 175 (by decide)) (rnf_rOf (l := rl_102) (by decide)) ?_
  refine k_putr (a := 139) (k := 57) (b := 175) (R' := rOf rl_103) d_X8_init_293 f_X8_124 (Or.inr ⟨rfl, by decide⟩) rfl (by decide) rfl rfl ?_
  refine r_aload_n d_X8_init_296 rfl ?_
  refine r_iconst d_X8_init_297 ?_
  refine k_newa (kd := 10) (N := 4) (n0 := 176) (T' := tk 177 Ls) d_X8_init_298 (Or.inl ⟨rfl, rfl⟩) ac_int (by decide) rfl rfl rfl (zrf_up (by decide) (zrf_up (by decide) (hz 176 (by decide)))) (hzL 176 (by decide)) (rnf_rOf (l := rl_103) (by decide)) ?_
  refine k_putr (a := 139) (k := 58) (b := 176) (R' := rOf rl_104) d_X8_init_300 f_X8_127 (Or.inr ⟨rfl, by decide⟩) rfl (by decide) rfl rfl ?_
  refine r_aload_n d_X8_init_303 rfl ?_
  refine r_bipush d_X8_init_304 (by decide) ?_
  refine k_newa (kd := 10) (N := 8) (n0 := 177) (T' := tk 178 Ls) d_X8_init_306 (Or.inl ⟨rfl, rfl⟩) ac_int (by decide) rfl rfl rfl (zrf_up (by decide) (zrf_up (by decide) (hz 177 (by decide)))) (hzL 177 (by decide)) (rnf_rOf (l := rl_104) (by decide)) ?_
  refine k_putr (a := 139) (k := 59) (b := 177) (R' := rOf rl_105) d_X8_init_308 f_X8_130 (Or.inr ⟨rfl, by decide⟩) rfl (by decide) rfl rfl ?_
  refine r_aload_n d_X8_init_311 rfl ?_
  refine r_bipush d_X8_init_312 (by decide) ?_
  refine k_newa (kd := 10) (N := 8) (n0 := 178) (T' := tk 179 Ls) d_X8_init_314 (Or.inl ⟨rfl, rfl⟩) ac_int (by decide) rfl rfl rfl (zrf_up (by decide) (zrf_up (by decide) (hz 178 (by decide)))) (hzL 178 (by decide)) (rnf_rOf (l := rl_105) (by decide)) ?_
  refine k_putr (a := 139) (k := 60) (b := 178) (R' := rOf rl_106) d_X8_init_316 f_X8_133 (Or.inr ⟨rfl, by decide⟩) rfl (by decide) rfl rfl ?_
  refine r_aload_n d_X8_init_319 rfl ?_
  refine r_bipush d_X8_init_320 (by decide) ?_
  refine k_newa (kd := 10) (N := 8) (n0 := 179) (T' := tk 180 Ls) d_X8_init_322 (Or.inl ⟨rfl, rfl⟩) ac_int (by decide) rfl rfl rfl (zrf_up (by decide) (zrf_up (by decide) (hz 179 (by decide)))) (hzL 179 (by decide)) (rnf_rOf (l := rl_106) (by decide)) ?_
  refine k_putr (a := 139) (k := 61) (b := 179) (R' := rOf rl_107) d_X8_init_324 f_X8_136 (Or.inr ⟨rfl, by decide⟩) rfl (by decide) rfl rfl ?_
  refine r_aload_n d_X8_init_327 rfl ?_
  refine r_bipush d_X8_init_328 (by decide) ?_
  refine k_newa (kd := 10) (N := 8) (n0 := 180) (T' := tk 181 Ls) d_X8_init_330 (Or.inl ⟨rfl, rfl⟩) ac_int (by decide) rfl rfl rfl (zrf_up (by decide) (zrf_up (by decide) (hz 180 (by decide)))) (hzL 180 (by decide)) (rnf_rOf (l := rl_107) (by decide)) ?_
  refine k_putr (a := 139) (k := 62) (b := 180) (R' := rOf rl_108) d_X8_init_332 f_X8_139 (Or.inr ⟨rfl, by decide⟩) rfl (by decide) rfl rfl ?_
  refine r_aload_n d_X8_init_335 rfl ?_
  refine r_bipush d_X8_init_336 (by decide) ?_
  refine k_newa (kd := 10) (N := 8) (n0 := 181) (T' := tk 182 Ls) d_X8_init_338 (Or.inl ⟨rfl, rfl⟩) ac_int (by decide) rfl rfl rfl (zrf_up (by decide) (zrf_up (by decide) (hz 181 (by decide)))) (hzL 181 (by decide)) (rnf_rOf (l := rl_108) (by decide)) ?_
  refine k_putr (a := 139) (k := 63) (b := 181) (R' := rOf rl_109) d_X8_init_340 f_X8_142 (Or.inr ⟨rfl, by decide⟩) rfl (by decide) rfl rfl ?_
  refine r_aload_n d_X8_init_343 rfl ?_
  refine r_sipush d_X8_init_344 (by decide) ?_
  refine k_newa (kd := 10) (N := 2304) (n0 := 182) (T' := tk 183 Ls) d_X8_init_347 (Or.inl ⟨rfl, rfl⟩) ac_int (by decide) rfl rfl rfl (zrf_up (by decide) (zrf_up (by decide) (hz 182 (by decide)))) (hzL 182 (by decide)) (rnf_rOf (l := rl_109) (by decide)) ?_
  refine k_putr (a := 139) (k := 64) (b := 182) (R' := rOf rl_110) d_X8_init_349 f_X8_145 (Or.inr ⟨rfl, by decide⟩) rfl (by decide) rfl rfl ?_
  refine r_aload_n d_X8_init_352 rfl ?_
  refine r_bipush d_X8_init_353 (by decide) ?_
  refine k_newa (kd := 10) (N := 12) (n0 := 183) (T' := tk 184 Ls) d_X8_init_355 (Or.inl ⟨rfl, rfl⟩) ac_int (by decide) rfl rfl rfl (zrf_up (by decide) (zrf_up (by decide) (hz 183 (by decide)))) (hzL 183 (by decide)) (rnf_rOf (l := rl_110) (by decide)) ?_
  refine k_putr (a := 139) (k := 65) (b := 183) (R' := rOf rl_111) d_X8_init_357 f_X8_148 (Or.inr ⟨rfl, by decide⟩) rfl (by decide) rfl rfl ?_
  refine r_aload_n d_X8_init_360 rfl ?_
  refine r_bipush d_X8_init_361 (by decide) ?_
  refine k_newa (kd := 10) (N := 8) (n0 := 184) (T' := tk 185 Ls) d_X8_init_363 (Or.inl ⟨rfl, rfl⟩) ac_int (by decide) rfl rfl rfl (zrf_up (by decide) (zrf_up (by decide) (hz 184 (by decide)))) (hzL 184 (by decide)) (rnf_rOf (l := rl_111) (by decide)) ?_
  refine k_putr (a := 139) (k := 71) (b := 184) (R' := rOf rl_112) d_X8_init_365 f_X8_151 (Or.inr ⟨rfl, by decide⟩) rfl (by decide) rfl rfl ?_
  refine r_aload_n d_X8_init_368 rfl ?_
  refine r_bipush d_X8_init_369 (by decide) ?_
  refine k_newa (kd := 10) (N := 8) (n0 := 185) (T' := tk 186 Ls) d_X8_init_371 (Or.inl ⟨rfl, rfl⟩) ac_int (by decide) rfl rfl rfl (zrf_up (by decide) (zrf_up (by decide) (hz 185 (by decide)))) (hzL 185 (by decide)) (rnf_rOf (l := rl_112) (by decide)) ?_
  refine k_putr (a := 139) (k := 72) (b := 185) (R' := rOf rl_113) d_X8_init_373 f_X8_154 (Or.inr ⟨rfl, by decide⟩) rfl (by decide) rfl rfl ?_
  refine r_vret d_X8_init_376 rfl ?_
  exact ⟨rfl, rfl, rfl, rfl, rfl⟩
