def fct : Nat → Nat
  | 0 => 1
  | n + 1 => (n + 1) * fct n
def ucn (tk : Nat → Bool) : Nat → Nat → Nat
  | 0, _ => 0
  | k + 1, b => (if tk b = true then 0 else 1) + ucn tk k (b + 1)
theorem ucn_out {tk : Nat → Bool} {r : Nat} : ∀ k b, (r < b ∨ b + k ≤ r) → ucn (addS tk r) k b = ucn tk k b
  | 0, _, _ => rfl
  | k + 1, b, h => by
    have ih := ucn_out (tk := tk) (r := r) k (b + 1) (by omega)
    have e : addS tk r b = tk b := by unfold addS; rw [decide_eq_false (by omega), Bool.or_false]
    unfold ucn
    rw [ih, e]
theorem ucn_add {tk : Nat → Bool} {r : Nat} (hr : tk r = false) : ∀ k b, b ≤ r → r < b + k → ucn (addS tk r) k b + 1 = ucn tk k b
  | 0, b, h1, h2 => by omega
  | k + 1, b, h1, h2 => by
    unfold ucn
    by_cases e : b = r
    · subst e
      have e1 : addS tk b b = true := by unfold addS; simp
      rw [ucn_out k (b + 1) (by omega), e1, hr]
      simp; omega
    · have e1 : addS tk r b = tk b := by unfold addS; rw [decide_eq_false e, Bool.or_false]
      have ih := ucn_add hr k (b + 1) (by omega) (by omega)
      rw [e1]; omega
theorem dfl_len {D : (Nat → Bool) → List (List Nat)} {tk : Nat → Bool} {B n : Nat} (hB : ∀ r, r < n → tk r = false → (D (addS tk r)).length = B) : ∀ k b, b + k ≤ n → (dfl D tk k b).length = ucn tk k b * B
  | 0, _, _ => by show 0 = 0 * B; omega
  | k + 1, b, h => by
    have ih := dfl_len hB k (b + 1) (by omega)
    unfold dfl ucn
    rw [List.length_append, ih, Nat.add_mul]
    congr 1
    by_cases e : tk b = true
    · rw [if_pos e, if_pos e]; simp
    · rw [if_neg e, if_neg e, List.length_map, hB b (by omega) (by cases h : tk b with | false => rfl | true => exact absurd h e)]
      omega
theorem dfs_len {n : Nat} : ∀ f tk, ucn tk n 0 = f → (dfs n f tk).length = fct f
  | 0, _, _ => rfl
  | f + 1, tk, h => by
    show (dfl (dfs n f) tk n 0).length = (f + 1) * fct f
    rw [dfl_len (B := fct f) (n := n) (fun r hr ht => dfs_len f (addS tk r) (by have := ucn_add ht n 0 (by omega) (by omega); omega)) n 0 (by omega), h]
theorem fct_bd : ∀ n, n < 7 → 1 ≤ fct n ∧ fct n ≤ 720 := by decide
theorem ucn_none : ∀ k b, ucn (fun _ => false) k b = k
  | 0, _ => rfl
  | k + 1, b => by unfold ucn; rw [ucn_none k (b + 1)]; simp; omega
/-- where in the list an order lies -/
theorem dfl_at {D : (Nat → Bool) → List (List Nat)} {tk : Nat → Bool} {B n k b s rem : Nat} {l : List Nat} (hB : ∀ r, r < n → tk r = false → (D (addS tk r)).length = B) (hb : b < n) (hr : rem < B) (h : (dfl D tk (k + 1) b)[s * B + rem]? = some l) : (tk b = true → (dfl D tk k (b + 1))[s * B + rem]? = some l) ∧ (tk b = false → s = 0 → ∃ l', l = b :: l' ∧ (D (addS tk b))[rem]? = some l') ∧ (tk b = false → 0 < s → (dfl D tk k (b + 1))[(s - 1) * B + rem]? = some l) := by
  have h : ((if tk b = true then [] else (D (addS tk b)).map (fun l => b :: l)) ++ dfl D tk k (b + 1))[s * B + rem]? = some l := h
  refine ⟨fun e => ?_, fun e hs => ?_, fun e hs => ?_⟩
  · rw [if_pos e, List.nil_append] at h; exact h
  · rw [if_neg (by rw [e]; decide), hs, Nat.zero_mul, Nat.zero_add, List.getElem?_append_left (by rw [List.length_map, hB b hb e]; exact hr), List.getElem?_map] at h
    obtain ⟨l', h1, h2⟩ := Option.map_eq_some_iff.mp h
    exact ⟨l', h2.symm, h1⟩
  · have hsB : B ≤ s * B := Nat.le_mul_of_pos_left B hs
    rw [if_neg (by rw [e]; decide), List.getElem?_append_right (by rw [List.length_map, hB b hb e]; omega), List.length_map, hB b hb e] at h
    rw [Nat.sub_mul, Nat.one_mul, show s * B - B + rem = s * B + rem - B by omega]
    exact h
theorem dfs_mem {n : Nat} : ∀ f tk l, l ∈ dfs n f tk → ∀ x ∈ l, x < n
  | 0, _, l, h, x, hx => by
    have e : l = [] := List.mem_singleton.mp h
    subst e; cases hx
  | f + 1, tk, l, h, x, hx => by
    have gen : ∀ k b, b + k ≤ n → l ∈ dfl (dfs n f) tk k b → x < n := by
      intro k
      induction k with
      | zero => intro b _ h; cases h
      | succ k ih =>
        intro b hb h
        have h : l ∈ (if tk b = true then [] else (dfs n f (addS tk b)).map (fun l => b :: l)) ++ dfl (dfs n f) tk k (b + 1) := h
        rcases List.mem_append.mp h with h | h
        · split at h
          · cases h
          · obtain ⟨l', h1, h2⟩ := List.mem_map.mp h
            rw [← h2] at hx
            rcases List.mem_cons.mp hx with q | q
            · omega
            · exact dfs_mem f (addS tk b) l' h1 x q
        · exact ih (b + 1) (by omega) h
    exact gen n 0 (by omega) h
section C40
variable {g : sG} {Ls : Nat} {tl : List Nat} {I L : sI} {n : Nat}
theorem c_spellOut (hn : n ≤ 6) {oa : Nat} (hT : (TT Ls tl)[oa]? = some (10, 6)) (ho : 3 ≤ oa) {num : Nat} {lf : List Nat} (hl : (ODR n)[num]? = some lf) : Mc g 0 m_X4_spellOut 0 0 [vi (num : Int), vr oa, vi (n : Int)] (TT Ls tl) I L (RR tl) (qV fun T' I' L' R' => T' = TT Ls tl ∧ R' = RR tl ∧ L' = L ∧ (∀ a, a ≠ oa → I' a = I a) ∧ (∀ j, j < n → ∃ x : Nat, lf[j]? = some x ∧ x < n ∧ I' oa j = (x : Int))) := by
  refine Mc_of rfl (Nat.le_of_ble_eq_true rfl) ?_
  obtain ⟨Q, hQ⟩ : ∃ Q : sQ, Q = (qV fun T' I' L' R' => T' = TT Ls tl ∧ R' = RR tl ∧ L' = L ∧ (∀ a, a ≠ oa → I' a = I a) ∧ (∀ j, j < n → ∃ x : Nat, lf[j]? = some x ∧ x < n ∧ I' oa j = (x : Int))) := ⟨_, rfl⟩
  rw [← hQ]
  have outer : ∀ (k i m left : Nat) (tk : Nat → Bool) (I1 : sI), i + k = n → m < 256 → (∀ r, r < n → m.testBit r = tk r) → ucn tk n 0 = k → (dfs n k tk)[left]? = some (lf.drop i) → (∀ a, a ≠ oa → I1 a = I a) → (∀ j, j < i → ∃ x : Nat, lf[j]? = some x ∧ x < n ∧ I1 oa j = (x : Int)) → Cp g 0 m_X4_spellOut 0 0 Q 8 [(1, vr oa), (2, vi (n : Int)), (3, vi (left : Int)), (4, vi (m : Int)), (5, vi (i : Int))] [] (TT Ls tl) I1 L (RR tl) := by
    intro k
    induction k with
    | zero =>
      intro i m left tk I1 hik hm hmb hu hd f p
      have hi : i = n := by omega
      subst hi
      refine r_iload d_X4_spellOut_8 rfl ?_
      refine r_iload_n d_X4_spellOut_10 rfl ?_
      refine r_icmp_ge d_X4_spellOut_11 (by omega) (by omega) (fun c11 => ?_) (fun c11 => absurd c11 (by omega))
      refine r_vret d_X4_spellOut_125 rfl ?_
      rw [hQ]
      exact ⟨rfl, rfl, rfl, rfl, f, p⟩
    | succ k ih =>
      intro i m left tk I1 hik hm hmb hu hd f p
      have hlen : ∀ r, r < n → tk r = false → (dfs n k (addS tk r)).length = fct k := fun r hr ht => dfs_len k (addS tk r) (by have := ucn_add ht n 0 (by omega) (by omega); omega)
      have hfb := fct_bd k (by omega)
      have hlt : left < fct (k + 1) := by
        have := dfs_len (k + 1) tk hu
        rw [← this]
        exact (List.getElem?_eq_some_iff.mp hd).1
      have hfb1 := fct_bd (k + 1) (by omega)
      have hsr : left / fct k * fct k + left % fct k = left := by rw [Nat.mul_comm]; exact Nat.div_add_mod _ _
      have hrm : left % fct k < fct k := Nat.mod_lt _ (by omega)
      have hdl : left / fct k ≤ left := Nat.div_le_self _ _
      have eb : (left : Int).tdiv (fct k : Int) = ((left / fct k : Nat) : Int) := rfl
      have em : (left : Int).tmod (fct k : Int) = ((left % fct k : Nat) : Int) := rfl
      have find : ∀ (k2 b s : Nat), b + k2 = n → s ≤ 720 → (dfl (dfs n k) tk k2 b)[s * fct k + left % fct k]? = some (lf.drop i) → Cp g 0 m_X4_spellOut 0 0 Q 63 [(1, vr oa), (2, vi (n : Int)), (3, vi ((left % fct k : Nat) : Int)), (4, vi (m : Int)), (5, vi (i : Int)), (7, vi (s : Int)), (8, vi (b : Int))] [] (TT Ls tl) I1 L (RR tl) := by
        intro k2
        induction k2 with
        | zero => intro b s _ _ h; cases h
        | succ k2 ih2 =>
          intro b s hbk hs h
          have hb : b < n := by omega
          obtain ⟨a1, a2, a3⟩ := dfl_at hlen hb hrm h
          have et : sand (sshr (m : Int) (b : Int)) 1 = if m.testBit b then 1 else 0 := bit_tst (by omega) (by omega)
          rw [hmb b hb] at et
          cases htk : tk b with
          | true =>
            rw [htk, if_pos rfl] at et
            refine r_iload d_X4_spellOut_63 rfl ?_
            refine r_iload_n d_X4_spellOut_65 rfl ?_
            refine r_icmp_ge d_X4_spellOut_66 (by omega) (by omega) (fun c66 => absurd c66 (by omega)) (fun c66 => ?_)
            refine r_iload d_X4_spellOut_69 rfl ?_
            refine r_iload d_X4_spellOut_71 rfl ?_
            refine r_ishr d_X4_spellOut_73 ?_
            refine r_iconst d_X4_spellOut_74 ?_
            refine r_iand d_X4_spellOut_75 ?_
            refine r_iconst d_X4_spellOut_76 ?_
            rw [et]
            refine r_icmp_eq d_X4_spellOut_77 (by omega) (by omega) (fun c77 => ?_) (fun c77 => absurd c77 (by decide))
            refine r_iload d_X4_spellOut_85 rfl ?_
            refine r_iload d_X4_spellOut_87 rfl ?_
            refine r_ishr d_X4_spellOut_89 ?_
            refine r_iconst d_X4_spellOut_90 ?_
            refine r_iand d_X4_spellOut_91 ?_
            rw [et]
            refine r_if_ne d_X4_spellOut_92 (by omega) (fun c92 => ?_) (fun c92 => absurd c92 (by decide))
            refine r_iinc d_X4_spellOut_98 rfl (by decide) ?_
            refine r_goto d_X4_spellOut_101 ?_
            exact CpL (ih2 (b + 1) s (by omega) hs (a1 htk)) (by repeat (first | exact trivial | refine ⟨rfl, ?_⟩))
          | false =>
            rw [htk, if_neg (by decide)] at et
            cases s with
            | zero =>
              obtain ⟨l', q1, q2⟩ := a2 htk rfl
              have hor : sor (m : Int) (sshl 1 (b : Int)) = ((m ||| 2 ^ b : Nat) : Int) := by
                rw [sshl_one b (by omega)]
                have : 2 ^ b ≤ 2 ^ 7 := Nat.pow_le_pow_right (by omega) (by omega)
                exact sor_nat (by omega) (by omega)
              have hmb' : ∀ r, r < n → (m ||| 2 ^ b).testBit r = addS tk b r := fun r hr => by
                rw [or_bit, hmb r hr]; unfold addS; congr 1
                by_cases e : b = r
                · simp [e]
                · simp [e]; omega
              have hdr : lf[i]? = some b ∧ lf.drop (i + 1) = l' := by
                refine ⟨?_, ?_⟩
                · have : (lf.drop i)[0]? = some b := by rw [q1]; rfl
                  rw [List.getElem?_drop] at this
                  exact this
                · rw [← List.drop_drop, q1]; rfl
              refine r_iload d_X4_spellOut_63 rfl ?_
              refine r_iload_n d_X4_spellOut_65 rfl ?_
              refine r_icmp_ge d_X4_spellOut_66 (by omega) (by omega) (fun c66 => absurd c66 (by omega)) (fun c66 => ?_)
              refine r_iload d_X4_spellOut_69 rfl ?_
              refine r_iload d_X4_spellOut_71 rfl ?_
              refine r_ishr d_X4_spellOut_73 ?_
              refine r_iconst d_X4_spellOut_74 ?_
              refine r_iand d_X4_spellOut_75 ?_
              refine r_iconst d_X4_spellOut_76 ?_
              rw [et]
              refine r_icmp_eq d_X4_spellOut_77 (by omega) (by omega) (fun c77 => absurd c77 (by decide)) (fun c77 => ?_)
              refine r_iload d_X4_spellOut_80 rfl ?_
              refine r_if_le d_X4_spellOut_82 (by omega) (fun c82 => ?_) (fun c82 => absurd c82 (by decide))
              refine r_aload_n d_X4_spellOut_104 rfl ?_
              refine r_iload d_X4_spellOut_105 rfl ?_
              refine r_iload d_X4_spellOut_107 rfl ?_
              refine r_iastJ d_X4_spellOut_109 hT (by omega) rfl (by omega) (kk := ?_)
              refine r_iload d_X4_spellOut_110 rfl ?_
              refine r_iconst d_X4_spellOut_112 ?_
              refine r_iload d_X4_spellOut_113 rfl ?_
              refine r_ishl d_X4_spellOut_115 ?_
              refine r_ior d_X4_spellOut_116 ?_
              rw [hor]
              refine r_istore d_X4_spellOut_117 (by decide) ?_
              refine r_iinc d_X4_spellOut_119 rfl (by decide) ?_
              refine r_goto d_X4_spellOut_122 ?_
              refine CpL (ih (i + 1) (m ||| 2 ^ b) (left % fct k) (addS tk b) _ (by omega) (or_lt (n := 8) hm (by omega)) hmb' (by have := ucn_add htk n 0 (by omega) (by omega); omega) (by rw [hdr.2]; exact q2) (fun a ha => by rw [up2_ne _ _ ha]; exact f a ha) (fun j hj => ?_)) (by repeat (first | exact trivial | refine ⟨rfl, ?_⟩))
              by_cases e : j = i
              · rw [e]; exact ⟨b, hdr.1, hb, up2_at _ _ _ _⟩
              · rw [up2_nj _ _ e]; exact p j (by omega)
            | succ s =>
              have h3 := a3 htk (by omega)
              have es : ((s + 1 : Nat) : Int) + -1 = (s : Int) := by omega
              refine r_iload d_X4_spellOut_63 rfl ?_
              refine r_iload_n d_X4_spellOut_65 rfl ?_
              refine r_icmp_ge d_X4_spellOut_66 (by omega) (by omega) (fun c66 => absurd c66 (by omega)) (fun c66 => ?_)
              refine r_iload d_X4_spellOut_69 rfl ?_
              refine r_iload d_X4_spellOut_71 rfl ?_
              refine r_ishr d_X4_spellOut_73 ?_
              refine r_iconst d_X4_spellOut_74 ?_
              refine r_iand d_X4_spellOut_75 ?_
              refine r_iconst d_X4_spellOut_76 ?_
              rw [et]
              refine r_icmp_eq d_X4_spellOut_77 (by omega) (by omega) (fun c77 => absurd c77 (by decide)) (fun c77 => ?_)
              refine r_iload d_X4_spellOut_80 rfl ?_
              refine r_if_le d_X4_spellOut_82 (by omega) (fun c82 => absurd c82 (by omega)) (fun c82 => ?_)
              refine r_iload d_X4_spellOut_85 rfl ?_
              refine r_iload d_X4_spellOut_87 rfl ?_
              refine r_ishr d_X4_spellOut_89 ?_
              refine r_iconst d_X4_spellOut_90 ?_
              refine r_iand d_X4_spellOut_91 ?_
              rw [et]
              refine r_if_ne d_X4_spellOut_92 (by omega) (fun c92 => absurd c92 (by decide)) (fun c92 => ?_)
              refine r_iinc d_X4_spellOut_95 rfl (by decide) ?_
              refine r_iinc d_X4_spellOut_98 rfl (by decide) ?_
              refine r_goto d_X4_spellOut_101 ?_
              exact CpL (ih2 (b + 1) s (by omega) (by omega) h3) (by repeat (first | exact trivial | refine ⟨rfl, ?_⟩ | refine ⟨by rw [es]; rfl, ?_⟩))
      have block : ∀ (k2 c : Nat), (c + k2 = n - i ∨ (k2 = 0 ∧ n - i ≤ c)) → 2 ≤ c → (c ≤ n - i ∨ c = 2) → Cp g 0 m_X4_spellOut 0 0 Q 27 [(1, vr oa), (2, vi (n : Int)), (3, vi (left : Int)), (4, vi (m : Int)), (5, vi (i : Int)), (6, vi ((fct (c - 1) : Nat) : Int)), (7, vi (c : Int))] [] (TT Ls tl) I1 L (RR tl) := by
        intro k2
        induction k2 with
        | zero =>
          intro c hck h2 hc
          have hfc : fct (c - 1) = fct k := by
            by_cases e : n - i = 1
            · have e1 : k = 0 := by omega
              have e2 : c = 2 := by omega
              rw [e1, e2]; rfl
            · rw [show c - 1 = k by omega]
          rw [hfc]
          refine r_iload d_X4_spellOut_27 rfl ?_
          refine r_iload_n d_X4_spellOut_29 rfl ?_
          refine r_iload d_X4_spellOut_30 rfl ?_
          refine r_isub d_X4_spellOut_32 ?_
          refine r_icmp_ge d_X4_spellOut_33 (by omega) (by omega) (fun c33 => ?_) (fun c33 => absurd c33 (by omega))
          refine r_iload_n d_X4_spellOut_49 rfl ?_
          refine r_iload d_X4_spellOut_50 rfl ?_
          refine r_idiv d_X4_spellOut_52 (by omega) (by omega) ?_
          rw [eb]
          refine r_istore d_X4_spellOut_53 (by decide) ?_
          refine r_iload_n d_X4_spellOut_55 rfl ?_
          refine r_iload d_X4_spellOut_56 rfl ?_
          refine r_irem d_X4_spellOut_58 (by omega) (by omega) ?_
          rw [em]
          refine r_istore_n d_X4_spellOut_59 (by decide) ?_
          refine r_iconst d_X4_spellOut_60 ?_
          refine r_istore d_X4_spellOut_61 (by decide) ?_
          exact CpL (find n 0 (left / fct k) (by omega) (by omega) (by rw [hsr]; exact hd)) (by repeat (first | exact trivial | refine ⟨rfl, ?_⟩))
        | succ k2 ih2 =>
          intro c hck h2 hc
          have ef : ((fct (c - 1) : Nat) : Int) * (c : Int) = ((fct (c + 1 - 1) : Nat) : Int) := by
            obtain ⟨e, rfl⟩ : ∃ e, c = e + 1 := ⟨c - 1, by omega⟩
            show ((fct e : Nat) : Int) * ((e + 1 : Nat) : Int) = (((e + 1) * fct e : Nat) : Int)
            rw [Nat.mul_comm]; exact (Int.natCast_mul _ _).symm
          refine r_iload d_X4_spellOut_27 rfl ?_
          refine r_iload_n d_X4_spellOut_29 rfl ?_
          refine r_iload d_X4_spellOut_30 rfl ?_
          refine r_isub d_X4_spellOut_32 ?_
          refine r_icmp_ge d_X4_spellOut_33 (by omega) (by omega) (fun c33 => absurd c33 (by omega)) (fun c33 => ?_)
          refine r_iload d_X4_spellOut_36 rfl ?_
          refine r_iload d_X4_spellOut_38 rfl ?_
          refine r_imul d_X4_spellOut_40 ?_
          rw [ef]
          refine r_istore d_X4_spellOut_41 (by decide) ?_
          refine r_iinc d_X4_spellOut_43 rfl (by decide) ?_
          refine r_goto d_X4_spellOut_46 ?_
          exact CpL (ih2 (c + 1) (by omega) (by omega) (by omega)) (by repeat (first | exact trivial | refine ⟨rfl, ?_⟩))
      refine r_iload d_X4_spellOut_8 rfl ?_
      refine r_iload_n d_X4_spellOut_10 rfl ?_
      refine r_icmp_ge d_X4_spellOut_11 (by omega) (by omega) (fun c11 => absurd c11 (by omega)) (fun c11 => ?_)
      refine r_iload d_X4_spellOut_14 rfl ?_
      refine r_aload_n d_X4_spellOut_16 rfl ?_
      refine r_alen d_X4_spellOut_17 hT (by decide) ?_
      refine r_icmp_ge d_X4_spellOut_18 (by omega) (by omega) (fun c18 => absurd c18 (by omega)) (fun c18 => ?_)
      refine r_iconst d_X4_spellOut_21 ?_
      refine r_istore d_X4_spellOut_22 (by decide) ?_
      refine r_iconst d_X4_spellOut_24 ?_
      refine r_istore d_X4_spellOut_25 (by decide) ?_
      exact CpL (block (n - i - 2) 2 (by omega) (by omega) (by omega)) (by repeat (first | exact trivial | refine ⟨rfl, ?_⟩))
  refine r_iload_n d_X4_spellOut_0 rfl ?_
  refine r_istore_n d_X4_spellOut_1 (by decide) ?_
  refine r_iconst d_X4_spellOut_2 ?_
  refine r_istore d_X4_spellOut_3 (by decide) ?_
  refine r_iconst d_X4_spellOut_5 ?_
  refine r_istore d_X4_spellOut_6 (by decide) ?_
  exact CpL (outer n 0 0 num (fun _ => false) I (by omega) (by omega) (fun r hr => Nat.zero_testBit r) (ucn_none n 0) hl (fun _ _ => rfl) (fun j hj => absurd hj (by omega))) (by repeat (first | exact trivial | refine ⟨rfl, ?_⟩))
end C40
