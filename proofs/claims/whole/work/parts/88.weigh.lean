/-! ways that tell the same: late rooms' chances weigh nothing -/
def CAN (σ : Sg) (nr : Nat) : Prop := ∀ r, nr ≤ r → σ 4 r = -1 ∧ σ 6 r = -1
def SMW (σ : Sg) (n a b : Nat) : Prop := ∀ r, r < n → σ 4 r ≠ -1 → σ 6 r = -1 → a.testBit (chn σ r) = b.testBit (chn σ r)
theorem op_can {σ : Sg} {nr a b : Nat} (hc : CAN σ nr) (h : SMW σ nr a b) : opS σ a = opS σ b := by
  have e : goneS σ a = goneS σ b := by
    funext r
    unfold goneS
    by_cases h6 : σ 6 r = -1
    · rw [if_pos h6, if_pos h6]
      by_cases h4 : σ 4 r = -1
      · rw [if_neg (fun p => p.1 h4), if_neg (fun p => p.1 h4)]
      · have hr : r < nr := by
          rcases Nat.lt_or_ge r nr with q | q
          · exact q
          · exact absurd (hc r q).1 h4
        rw [h r hr h4 h6]
    · rw [if_neg h6, if_neg h6]
  funext k i
  unfold opS
  split
  · rw [e]
  all_goals rfl
theorem sumN_split {f : Nat → Int} {m : Nat} : ∀ n, sumN f (m + n) = sumN f m + sumN (fun i => f (m + i)) n
  | 0 => by show sumN f m = sumN f m + 0; omega
  | n + 1 => by
    show sumN f (m + n) + f (m + n) = sumN f m + (sumN (fun i => f (m + i)) n + f (m + n))
    rw [sumN_split n]; omega
theorem wtM_low {σ : Sg} {a b : Nat} : ∀ n, (∀ r, r < n → σ 4 r ≠ -1 → a.testBit (chn σ r) = b.testBit (chn σ r)) → wtM σ a n = wtM σ b n
  | 0, _ => rfl
  | n + 1, h => by
    show wtM σ a n * _ = wtM σ b n * _
    rw [wtM_low n (fun r hr => h r (by omega))]
    by_cases h4 : σ 4 n = -1
    · rw [if_pos h4, if_pos h4]
    · rw [if_neg h4, if_neg h4]
      unfold fcM
      rw [h n (by omega) h4]
theorem wtX_low {σ : Sg} {a b : Nat} : ∀ n, (∀ r, r < n → σ 4 r ≠ -1 → a.testBit (chn σ r) = b.testBit (chn σ r)) → wtX σ a n = wtX σ b n
  | 0, _ => rfl
  | n + 1, h => by
    show wtX σ a n * _ = wtX σ b n * _
    rw [wtX_low n (fun r hr => h r (by omega))]
    by_cases h4 : σ 4 n = -1
    · rw [if_pos h4, if_pos h4]
    · rw [if_neg h4, if_neg h4]
      unfold fcX
      rw [h n (by omega) h4]
theorem w_eq {σ : Sg} : ∀ (n : Nat) (F : Nat → Int), (∀ a b, a < 2 ^ chn σ n → b < 2 ^ chn σ n → SMW σ n a b → F a = F b) → sumN (fun w => wtM σ w n * F w) (2 ^ chn σ n) = sumN (fun w => wtX σ w n * F w) (2 ^ chn σ n)
  | 0, _, _ => rfl
  | n + 1, F, hF => by
    by_cases h4 : σ 4 n = -1
    · have hc : chn σ (n + 1) = chn σ n := by simp [chn, h4]
      rw [hc]
      have e1 : sumN (fun w => wtM σ w (n + 1) * F w) (2 ^ chn σ n) = sumN (fun w => wtM σ w n * F w) (2 ^ chn σ n) := sumN_eq _ (fun w _ => by show wtM σ w n * _ * F w = _; rw [if_pos h4, Int.mul_one])
      have e2 : sumN (fun w => wtX σ w (n + 1) * F w) (2 ^ chn σ n) = sumN (fun w => wtX σ w n * F w) (2 ^ chn σ n) := sumN_eq _ (fun w _ => by show wtX σ w n * _ * F w = _; rw [if_pos h4, Int.mul_one])
      rw [e1, e2]
      refine w_eq n F (fun a b ha hb hs => hF a b (by rw [hc]; exact ha) (by rw [hc]; exact hb) (fun r hr h1 h2 => ?_))
      by_cases e : r = n
      · rw [e] at h1; exact absurd h4 h1
      · exact hs r (by omega) h1 h2
    · have hc : chn σ (n + 1) = chn σ n + 1 := by simp [chn, h4]
      obtain ⟨c, hcc⟩ : ∃ c, c = chn σ n := ⟨_, rfl⟩
      rw [← hcc] at hc
      have p2c : 2 ^ chn σ (n + 1) = 2 ^ c + 2 ^ c := by rw [hc, Nat.pow_succ]; omega
      have bl : ∀ r, r < n → σ 4 r ≠ -1 → chn σ r < c := fun r hr h => by rw [hcc]; exact chn_lt σ hr h
      have b0 : ∀ w, w < 2 ^ c → w.testBit c = false := fun w hw => Nat.testBit_lt_two_pow hw
      have b1 : ∀ w, w < 2 ^ c → (2 ^ c + w).testBit c = true := fun w hw => by rw [Nat.testBit_two_pow_add_eq, b0 w hw]; rfl
      have bj : ∀ w j, j < c → (2 ^ c + w).testBit j = w.testBit j := fun w j hj => Nat.testBit_two_pow_add_gt hj w
      have lowM : ∀ w, wtM σ (2 ^ c + w) n = wtM σ w n := fun w => wtM_low n (fun r hr h => bj w _ (bl r hr h))
      have lowX : ∀ w, wtX σ (2 ^ c + w) n = wtX σ w n := fun w => wtX_low n (fun r hr h => bj w _ (bl r hr h))
      rw [p2c, sumN_split, sumN_split, ← sumN_add, ← sumN_add]
      have eM : sumN (fun w => wtM σ w (n + 1) * F w + wtM σ (2 ^ c + w) (n + 1) * F (2 ^ c + w)) (2 ^ c) = sumN (fun w => wtM σ w n * (σ 5 n * F w + (10 - σ 5 n) * F (2 ^ c + w))) (2 ^ c) := sumN_eq _ (fun w hw => by
        show wtM σ w n * (if σ 4 n = -1 then 1 else fcM σ w n) * F w + wtM σ (2 ^ c + w) n * (if σ 4 n = -1 then 1 else fcM σ (2 ^ c + w) n) * F (2 ^ c + w) = _
        rw [if_neg h4, if_neg h4, lowM]
        unfold fcM
        rw [← hcc, b0 w hw, b1 w hw, if_neg (by decide), if_pos rfl, Int.mul_add, Int.mul_assoc, Int.mul_assoc])
      have eX : sumN (fun w => wtX σ w (n + 1) * F w + wtX σ (2 ^ c + w) (n + 1) * F (2 ^ c + w)) (2 ^ c) = sumN (fun w => wtX σ w n * ((if σ 6 n = -1 then σ 5 n else 10) * F w + (10 - (if σ 6 n = -1 then σ 5 n else 10)) * F (2 ^ c + w))) (2 ^ c) := sumN_eq _ (fun w hw => by
        show wtX σ w n * (if σ 4 n = -1 then 1 else fcX σ w n) * F w + wtX σ (2 ^ c + w) n * (if σ 4 n = -1 then 1 else fcX σ (2 ^ c + w) n) * F (2 ^ c + w) = _
        rw [if_neg h4, if_neg h4, lowX]
        unfold fcX
        rw [← hcc, b0 w hw, b1 w hw, if_neg (show ¬ false = true by decide), if_pos (show true = true from rfl), Int.mul_add, Int.mul_assoc, Int.mul_assoc])
      rw [eM, eX]
      have hs1 : ∀ a b, a < 2 ^ c → b < 2 ^ c → SMW σ n a b → SMW σ (n + 1) a b ∧ SMW σ (n + 1) (2 ^ c + a) (2 ^ c + b) := fun a b ha hb hs => by
        refine ⟨fun r hr h1 h2 => ?_, fun r hr h1 h2 => ?_⟩
        · by_cases e : r = n
          · rw [e, ← hcc, b0 a ha, b0 b hb]
          · exact hs r (by omega) h1 h2
        · by_cases e : r = n
          · rw [e, ← hcc, b1 a ha, b1 b hb]
          · rw [bj a _ (bl r (by omega) h1), bj b _ (bl r (by omega) h1)]
            exact hs r (by omega) h1 h2
      have ih := w_eq n (fun w => σ 5 n * F w + (10 - σ 5 n) * F (2 ^ c + w)) (fun a b ha hb hs => by
        rw [← hcc] at ha hb
        obtain ⟨s1, s2⟩ := hs1 a b ha hb hs
        show σ 5 n * F a + (10 - σ 5 n) * F (2 ^ c + a) = σ 5 n * F b + (10 - σ 5 n) * F (2 ^ c + b)
        rw [hF a b (by omega) (by omega) s1, hF (2 ^ c + a) (2 ^ c + b) (by omega) (by omega) s2])
      rw [← hcc] at ih
      rw [ih]
      refine sumN_eq _ (fun w hw => ?_)
      show wtX σ w n * (σ 5 n * F w + (10 - σ 5 n) * F (2 ^ c + w)) = wtX σ w n * ((if σ 6 n = -1 then σ 5 n else 10) * F w + (10 - (if σ 6 n = -1 then σ 5 n else 10)) * F (2 ^ c + w))
      by_cases h6 : σ 6 n = -1
      · rw [if_pos h6]
      · rw [if_neg h6]
        have e : F (2 ^ c + w) = F w := hF _ _ (by omega) (by omega) (fun r hr h1 h2 => by
          by_cases e : r = n
          · rw [e] at h2; exact absurd h2 h6
          · exact bj w _ (bl r (by omega) h1))
        rw [e, ← Int.add_mul, ← Int.add_mul]
        congr 2
        omega
/-- only ways with a chance count -/
theorem w_pos {σ : Sg} {nr : Nat} {f : Nat → Int} (hr : ∀ r, r < nr → RV σ r) (n : Nat) : sumN (fun w => if 0 < wtX σ w nr then wtX σ w nr * f w else 0) n = sumN (fun w => wtX σ w nr * f w) n := sumN_eq n (fun w _ => by
  have := (wtX_bd (way := w) nr hr).1
  show (if 0 < wtX σ w nr then wtX σ w nr * f w else 0) = wtX σ w nr * f w
  by_cases h : 0 < wtX σ w nr
  · rw [if_pos h]
  · rw [if_neg h, show wtX σ w nr = 0 by omega, Int.zero_mul])
theorem wtM_bd2 {σ : Sg} {way : Nat} : ∀ n, (∀ r, r < n → RV σ r) → 0 ≤ wtM σ way n ∧ wtM σ way n ≤ 10 ^ chn σ n
  | 0, _ => by simp [wtM, chn]
  | n + 1, h => by
    obtain ⟨h1, h2⟩ := wtM_bd2 (way := way) n (fun r hr => h r (by omega))
    have hv := h n (by omega)
    unfold RV at hv
    by_cases h4 : σ 4 n = -1
    · simp only [wtM, chn, h4, if_true, Int.mul_one, Nat.add_zero]
      exact ⟨h1, h2⟩
    · have hf : 0 ≤ fcM σ way n ∧ fcM σ way n ≤ 10 := by unfold fcM; split <;> omega
      simp only [wtM, chn, h4, if_false]
      refine ⟨Int.mul_nonneg h1 hf.1, ?_⟩
      rw [Int.pow_succ]
      exact Int.mul_le_mul h2 hf.2 hf.1 (Int.pow_nonneg (by omega))
theorem lof_snoc {σ : Sg} {ℓ ab : Int} {nW : Nat} : ∀ (l : List Nat) (r : Nat) (δ : Sg), lofS σ ℓ ab nW (l ++ [r]) δ = loneS σ ℓ ab nW (lofS σ ℓ ab nW l δ) r
  | [], _, _ => rfl
  | x :: l, r, δ => lof_snoc l r (loneS σ ℓ ab nW δ x)
theorem lof_lst {σ : Sg} {ℓ ab : Int} {nW : Nat} {l : List Nat} {od : Nat → Nat} {δ : Sg} : ∀ n, (∀ k, k < n → l[k]? = some (od k)) → lofS σ ℓ ab nW (l.take n) δ = lstS σ ℓ ab nW od n δ
  | 0, _ => by rw [List.take_zero]; rfl
  | n + 1, h => by
    rw [List.take_succ, h n (by omega)]
    show lofS σ ℓ ab nW (l.take n ++ [od n]) δ = loneS σ ℓ ab nW (lstS σ ℓ ab nW od n δ) (od n)
    rw [lof_snoc, lof_lst n (fun k hk => h k (by omega))]
theorem ODR_shape : ∀ n, n < 7 → ∀ l ∈ ODR n, l.length = n := by decide +kernel
/-- costs by order and way, where there are any -/
def CCX (σ : Sg) (ℓ ab : Int) (nr nW ng : Nat) (how : Int) (C : List Nat → Nat → Int) : Prop := ∀ l way z, (∀ x ∈ l, x < nr) → CS σ nr ng (lofS σ ℓ ab nW l (opS σ way) 3) how z → z = C l way
theorem CCX_ex {σ : Sg} {ℓ ab : Int} {nr nW ng : Nat} {how : Int} (hS : SV σ ℓ nr nW) (hg8 : ng ≤ 8) (hg : ∀ q, q < ng → GV σ q) : ∃ C, CCX σ ℓ ab nr nW ng how C := by
  have h : ∀ l : List Nat, ∀ way : Nat, ∃ c : Int, ∀ z, (∀ x ∈ l, x < nr) → CS σ nr ng (lofS σ ℓ ab nW l (opS σ way) 3) how z → z = c := fun l way => by
    by_cases hx : ∃ z, CS σ nr ng (lofS σ ℓ ab nW l (opS σ way) 3) how z
    · obtain ⟨c, ro, hc⟩ := hx
      refine ⟨c, fun z hl hz => ?_⟩
      obtain ⟨ro', hz⟩ := hz
      have hDV := DV_lof (ab := ab) hS l (opS σ way) (DV_op hS) hl
      exact (GVX_uq hS.1 hg8 (fun r hr => (hDV.1 r hr).2.2.2) hg hz hc).1
    · exact ⟨0, fun z _ hz => absurd ⟨z, hz⟩ hx⟩
  have h2 := fun l => Classical.axiomOfChoice (h l)
  obtain ⟨C, hC⟩ := Classical.axiomOfChoice h2
  exact ⟨C, fun l way z hl hz => hC l way z hl hz⟩
theorem CCX_same {σ : Sg} {ℓ ab : Int} {nr nW ng : Nat} {how : Int} {C : List Nat → Nat → Int} (hc : CAN σ nr) (hC : CCX σ ℓ ab nr nW ng how C) {l : List Nat} {a b : Nat} (hl : ∀ x ∈ l, x < nr) (ha : CS σ nr ng (lofS σ ℓ ab nW l (opS σ a) 3) how (C l a)) (h : SMW σ nr a b) : C l a = C l b := by
  rw [op_can hc h] at ha
  exact hC l b _ hl ha
theorem amin_ext {key key' : Nat → Int} {n : Nat} (h : ∀ i, i < n → key i = key' i) : amin (fun _ => true) key n = amin (fun _ => true) key' n := amin_congr (fun _ _ => rfl) (fun i j hi hj _ _ => by rw [h i hi, h j hj])
theorem sm_eq {σ : Sg} {ℓ ab : Int} {nr nW ng : Nat} {how : Int} {C : List Nat → Nat → Int} (hr : ∀ r, r < nr → RV σ r) (hc : CAN σ nr) (h3 : chn σ nr ≤ 3) (hC : CCX σ ℓ ab nr nW ng how C) {l : List Nat} (hl : ∀ x ∈ l, x < nr) (hCS : ∀ way, way < 2 ^ chn σ nr → CS σ nr ng (lofS σ ℓ ab nW l (opS σ way) 3) how (C l way)) {I0 : sI} {i mask bits : Nat} (hI : ∀ way, way < 2 ^ chn σ nr → I0 132 way = wtX σ way nr ∧ (0 < wtX σ way nr → I0 (124 + way) i = C l way)) (hm : ∀ a b, SMW σ nr a b → (a &&& mask = bits ↔ b &&& mask = bits)) : smS I0 mask bits i (2 ^ chn σ nr) = sumN (fun w => if w &&& mask = bits then wtM σ w nr * C l w else 0) (2 ^ chn σ nr) := by
  have e1 : smS I0 mask bits i (2 ^ chn σ nr) = sumN (fun w => if 0 < wtX σ w nr then wtX σ w nr * (if w &&& mask = bits then C l w else 0) else 0) (2 ^ chn σ nr) := by
    unfold smS
    refine sumN_eq _ (fun w hw => ?_)
    obtain ⟨h1, h2⟩ := hI w hw
    show (if w &&& mask = bits ∧ 0 < I0 132 w then I0 132 w * I0 (124 + w) i else 0) = (if 0 < wtX σ w nr then wtX σ w nr * (if w &&& mask = bits then C l w else 0) else 0)
    rw [h1]
    by_cases hp : 0 < wtX σ w nr
    · rw [if_pos hp, h2 hp]
      by_cases hq : w &&& mask = bits
      · rw [if_pos ⟨hq, hp⟩, if_pos hq]
      · rw [if_neg (fun p => hq p.1), if_neg hq, Int.mul_zero]
    · rw [if_neg (fun p => hp p.2), if_neg hp]
  rw [e1, w_pos hr, ← w_eq nr (fun w => if w &&& mask = bits then C l w else 0) (fun a b ha hb hs => ?_)]
  · refine sumN_eq _ (fun w _ => ?_)
    show wtM σ w nr * (if w &&& mask = bits then C l w else 0) = _
    by_cases hq : w &&& mask = bits
    · rw [if_pos hq, if_pos hq]
    · rw [if_neg hq, if_neg hq, Int.mul_zero]
  · show (if a &&& mask = bits then C l a else 0) = (if b &&& mask = bits then C l b else 0)
    by_cases hq : a &&& mask = bits
    · rw [if_pos hq, if_pos ((hm a b hs).mp hq)]
      exact CCX_same hc hC hl (hCS a ha) hs
    · rw [if_neg hq, if_neg (fun p => hq ((hm a b hs).mpr p))]
theorem ODR_get {nr i : Nat} (hi : i < (ODR nr).length) : (ODR nr).getD i [] ∈ ODR nr ∧ (ODR nr)[i]? = some ((ODR nr).getD i []) := by
  rw [List.getD_eq_getElem?_getD, List.getElem?_eq_getElem hi]; exact ⟨List.getElem_mem hi, rfl⟩
theorem amin_one {key : Nat → Int} {n : Nat} (h : 0 < n) : ∃ b : Nat, amin (fun _ => true) key n = (b : Int) ∧ b < n ∧ (∀ i, i < n → key b ≤ key i) ∧ (∀ i, i < b → key b < key i) := by
  rcases amin_spec (fun _ => true) key n with ⟨-, h2⟩ | ⟨b, h1, h2, -, h3, h4⟩
  · exact absurd (h2 0 h) (by decide)
  · exact ⟨b, h1, h2, fun i hi => h3 i hi rfl, fun i hi => h4 i hi rfl⟩
theorem BST_of {σ : Sg} {ℓ ab : Int} {nr nW ng : Nat} {how : Int} {C : List Nat → Nat → Int} (hr : ∀ r, r < nr → RV σ r) (hc : CAN σ nr) (h3 : chn σ nr ≤ 3) (hC : CCX σ ℓ ab nr nW ng how C) (h7 : nr < 7) (hCS : ∀ l ∈ ODR nr, ∀ way, way < 2 ^ chn σ nr → CS σ nr ng (lofS σ ℓ ab nW l (opS σ way) 3) how (C l way)) : BST σ ℓ ab nr nW ng how ((ODR nr).getD (amin (fun _ => true) (fun i => sumN (fun w => wtM σ w nr * C ((ODR nr).getD i []) w) (2 ^ chn σ nr)) (ODR nr).length).toNat []) := by
  obtain ⟨I0, hI⟩ : ∃ I0 : sI, I0 = fun a k => if a = 132 then wtX σ k nr else C ((ODR nr).getD k []) (a - 124) := ⟨_, rfl⟩
  obtain ⟨l1, l2⟩ := ODR_len nr h7
  have h8 := p2 h3
  have e0 : ∀ way i, way < 2 ^ chn σ nr → I0 (124 + way) i = C ((ODR nr).getD i []) way := fun way i hw => by
    rw [hI]
    show (if 124 + way = 132 then wtX σ i nr else C ((ODR nr).getD i []) (124 + way - 124)) = _
    rw [if_neg (by omega), Nat.add_sub_cancel_left]
  have hrow : ∀ way, I0 132 way = wtX σ way nr := fun way => by rw [hI]; rfl
  refine ⟨I0, fun way hw => ⟨hrow way, fun _ i l hl => ?_⟩, ?_⟩
  · have hi : i < (ODR nr).length := by
      rcases Nat.lt_or_ge i (ODR nr).length with q | q
      · exact q
      · rw [List.getElem?_eq_none q] at hl; cases hl
    obtain ⟨m1, m2⟩ := ODR_get hi
    rw [m2] at hl
    have := Option.some.inj hl
    rw [e0 way i hw, this]
    exact hCS l (by rw [← this]; exact m1) way hw
  · have ea : lsS I0 0 0 (2 ^ chn σ nr) (ODR nr).length = amin (fun _ => true) (fun i => sumN (fun w => wtM σ w nr * C ((ODR nr).getD i []) w) (2 ^ chn σ nr)) (ODR nr).length := by
      unfold lsS
      refine amin_ext (fun i hi => ?_)
      obtain ⟨m1, m2⟩ := ODR_get hi
      rw [sm_eq hr hc h3 hC (l := (ODR nr).getD i []) (fun x hx => dfs_mem nr _ _ m1 x hx) (hCS _ m1) (fun way hw => ⟨hrow way, fun _ => e0 way i hw⟩) (fun a b _ => by simp)]
      exact sumN_eq _ (fun w _ => by simp)
    rw [ea]
    obtain ⟨b, b1, b2, -⟩ := amin_one (key := fun i => sumN (fun w => wtM σ w nr * C ((ODR nr).getD i []) w) (2 ^ chn σ nr)) (n := (ODR nr).length) (by omega)
    rw [b1, Int.toNat_natCast]
    exact (ODR_get b2).2
