def addS (s : Nat → Bool) (r : Nat) : Nat → Bool := fun ρ => s ρ || decide (ρ = r)
theorem SS_add {s : Nat → Bool} {r : Nat} (hr : r < 8) : (fun ρ => SS s ρ ∨ ρ = r) = SS (addS s r) := by
  funext ρ
  apply propext
  show (ρ < 8 ∧ s ρ = true) ∨ ρ = r ↔ ρ < 8 ∧ (s ρ || decide (ρ = r)) = true
  rw [Bool.or_eq_true, decide_eq_true_iff]
  constructor
  · rintro (⟨h1, h2⟩ | h)
    · exact ⟨h1, Or.inl h2⟩
    · exact ⟨by omega, Or.inr h⟩
  · rintro ⟨h1, h2 | h2⟩
    · exact Or.inl ⟨h1, h2⟩
    · exact Or.inr h2
theorem LVL_congr {P : Nat} {S : Nat → Prop} {G G' : Nat → Nat → Int} {u v a u' v' a' : Nat → Int} {E E' : Int} (h : LVL P S G u v a E) (hE : E ≤ E') (hj : ∀ j, j < P → v' j = v j ∧ a' j = a j) (hu : ∀ ρ, S ρ → u' ρ = u ρ) (hG : ∀ ρ j, S ρ → j < P → G' ρ j = G ρ j) : LVL P S G' u' v' a' E' := by
  obtain ⟨l1, l2, l3, l4, l5, l6, l7, j0, hj0, hv0⟩ := h
  refine ⟨fun j hj' => ?_, fun i j hi hj' => ?_, fun r hr => ?_, fun r j hr hj' => ?_, fun r j hr hj' => ?_, fun j hj' => ?_, fun r hr => ?_, j0, hj0, ?_⟩
  · rw [(hj j hj').2]; exact l1 j hj'
  · rw [(hj i hi).2, (hj j hj').2]; exact l2 i j hi hj'
  · obtain ⟨j, q1, q2⟩ := l3 r hr
    exact ⟨j, q1, by rw [(hj j q1).2]; exact q2⟩
  · rw [hG r j hr hj', hu r hr, (hj j hj').1]; exact l4 r j hr hj'
  · rw [hG r j hr hj', hu r hr, (hj j hj').1, (hj j hj').2]; exact l5 r j hr hj'
  · rw [(hj j hj').1, (hj j hj').2]
    have := l6 j hj'
    exact ⟨⟨by omega, this.1.2⟩, this.2⟩
  · rw [hu r hr]
    have := l7 r hr
    omega
  · rw [(hj j0 hj0).1]; exact hv0
section K3
variable {g : sG} {Ls : Nat} {tl : List Nat} {I L : sI} {P lv r : Nat} {s : Nat → Bool} {G : Nat → Nat → Int} {E : Int}
theorem c_reprice (h1 : I 79 1 = (P : Int)) (hP : P ≤ 8) (hl : lv < 9) (ha : ∀ j, j < P → I 121 j = 1 → ∃ ρ : Nat, I (110 + lv) j = (ρ : Int) ∧ ρ < 8 ∧ ρ ≠ r) (hi : ∀ i j, i < P → j < P → I (110 + lv) i = I (110 + lv) j → I (110 + lv) i ≠ -1 → i = j) (hsn : ∀ j, j < P → I 121 j = 0 ∨ I 121 j = 1) {en : Nat} (hen : en < P) (hr : r < 8) : Mc g 0 m_X3_reprice 0 0 [vr 79, vi (lv : Int), vi (r : Int), vi (en : Int)] (TT Ls tl) I L (RR tl) (qV fun T' I' L' R' => T' = TT Ls tl ∧ R' = RR tl ∧ I' = I ∧ (∀ a, ¬ (a = 90 + lv ∨ a = 100 + lv) → L' a = L a) ∧
    L' (90 + lv) r = L (90 + lv) r + L 119 en ∧ (∀ j (ρ : Nat), j < P → I 121 j = 1 → I (110 + lv) j = (ρ : Int) → L' (90 + lv) ρ = L (90 + lv) ρ + (L 119 en - L 119 j)) ∧ (∀ ρ : Nat, ρ ≠ r → (∀ j, j < P → I 121 j = 1 → I (110 + lv) j ≠ (ρ : Int)) → L' (90 + lv) ρ = L (90 + lv) ρ) ∧
    (∀ j, j < P → I 121 j = 1 → L' (100 + lv) j = L (100 + lv) j - (L 119 en - L 119 j)) ∧ (∀ j, j < P → I 121 j = 0 → L' (100 + lv) j = L (100 + lv) j)) := by
  refine Mc_of rfl (Nat.le_of_ble_eq_true rfl) ?_
  obtain ⟨Q, hQ⟩ : ∃ Q : sQ, Q = (qV fun T' I' L' R' => T' = TT Ls tl ∧ R' = RR tl ∧ I' = I ∧ (∀ a, ¬ (a = 90 + lv ∨ a = 100 + lv) → L' a = L a) ∧
    L' (90 + lv) r = L (90 + lv) r + L 119 en ∧ (∀ j (ρ : Nat), j < P → I 121 j = 1 → I (110 + lv) j = (ρ : Int) → L' (90 + lv) ρ = L (90 + lv) ρ + (L 119 en - L 119 j)) ∧ (∀ ρ : Nat, ρ ≠ r → (∀ j, j < P → I 121 j = 1 → I (110 + lv) j ≠ (ρ : Int)) → L' (90 + lv) ρ = L (90 + lv) ρ) ∧
    (∀ j, j < P → I 121 j = 1 → L' (100 + lv) j = L (100 + lv) j - (L 119 en - L 119 j)) ∧ (∀ j, j < P → I 121 j = 0 → L' (100 + lv) j = L (100 + lv) j)) := ⟨_, rfl⟩
  rw [← hQ]
  have loop : ∀ (k b : Nat) (L1 : sI), b + k = P → (∀ a, ¬ (a = 90 + lv ∨ a = 100 + lv) → L1 a = L a) → L1 (90 + lv) r = L (90 + lv) r + L 119 en → (∀ j (ρ : Nat), j < b → I 121 j = 1 → I (110 + lv) j = (ρ : Int) → L1 (90 + lv) ρ = L (90 + lv) ρ + (L 119 en - L 119 j)) → (∀ ρ : Nat, ρ ≠ r → (∀ j, j < b → I 121 j = 1 → I (110 + lv) j ≠ (ρ : Int)) → L1 (90 + lv) ρ = L (90 + lv) ρ) →
      (∀ j, j < b → I 121 j = 1 → L1 (100 + lv) j = L (100 + lv) j - (L 119 en - L 119 j)) → (∀ j, (b ≤ j ∨ I 121 j = 0) → L1 (100 + lv) j = L (100 + lv) j) → Cp g 0 m_X3_reprice 0 0 Q 20 [(0, vr 79), (1, vi (lv : Int)), (2, vi (r : Int)), (3, vi (en : Int)), (4, vi (b : Int))] [] (TT Ls tl) I L1 (RR tl) := by
    intro k
    induction k with
    | zero =>
      intro b L1 hbk f q1 q2 q3 q4 q5
      have hb : b = P := by omega
      subst hb
      refine r_iload d_X3_reprice_20 rfl ?_
      refine r_aload_n d_X3_reprice_22 rfl ?_
      refine r_geti d_X3_reprice_23 f_X3_61 (tt_79 _ _) (by decide) (by decide) ?_
      refine r_icmp_ge d_X3_reprice_26 (by omega) (by omega) (fun c26 => ?_) (fun c26 => absurd c26 (by omega))
      refine r_vret d_X3_reprice_96 rfl ?_
      rw [hQ]
      exact ⟨rfl, rfl, rfl, rfl, f, q1, q2, q3, q4, fun j hj e => q5 j (Or.inr e)⟩
    | succ k ih =>
      intro b L1 hbk f q1 q2 q3 q4 q5
      have hb : b < P := by omega
      have hsb := hsn b hb
      have e119 : L1 119 = L 119 := f 119 (by omega)
      have skp : I 121 b = 0 → Cp g 0 m_X3_reprice 0 0 Q 20 [(0, vr 79), (1, vi (lv : Int)), (2, vi (r : Int)), (3, vi (en : Int)), (4, vi ((b + 1 : Nat) : Int))] [] (TT Ls tl) I L1 (RR tl) := by
        intro c36
        refine ih (b + 1) L1 (by omega) f q1 (fun j ρ hj e1 e2 => ?_) (fun ρ hρ h => q3 ρ hρ (fun j hj => h j (by omega))) (fun j hj e => ?_) (fun j hj => q5 j ?_)
        · refine q2 j ρ ?_ e1 e2
          have : j ≠ b := fun h => by rw [h] at e1; omega
          omega
        · refine q4 j ?_ e
          have : j ≠ b := fun h => by rw [h] at e; omega
          omega
        · by_cases h : j = b
          · right; rw [h]; exact c36
          · rcases hj with hj | hj
            · left; omega
            · exact Or.inr hj
      refine r_iload d_X3_reprice_20 rfl ?_
      refine r_aload_n d_X3_reprice_22 rfl ?_
      refine r_geti d_X3_reprice_23 f_X3_61 (tt_79 _ _) (by decide) (by decide) ?_
      refine r_icmp_ge d_X3_reprice_26 (by omega) (by omega) (fun c26 => absurd c26 (by omega)) (fun c26 => ?_)
      refine r_aload_n d_X3_reprice_29 rfl ?_
      refine r_getr d_X3_reprice_30 f_X3_35 (tt_79 _ _) (by decide) rfl (rr_79_8 _) ?_
      refine r_iload d_X3_reprice_33 rfl ?_
      refine r_zaldJ d_X3_reprice_35 (tt_121 _ _) rfl (by omega) (kk := ?_)
      refine r_if_eq d_X3_reprice_36 (by rcases hsb with h | h <;> rw [h] <;> decide) (fun c36 => ?_) (fun c36 => ?_)
      · have c0 := c36
        refine r_iinc d_X3_reprice_90 rfl (by decide) ?_
        refine r_goto d_X3_reprice_93 ?_
        first
        | exact CpL (skp c0) (by repeat (first | exact trivial | refine ⟨rfl, ?_⟩))
        | (refine CpL (ih (b + 1) _ (by omega) (fun a ha' => ?_) ?_ (fun j ρ' hj e1 e2 => ?_) (fun ρ' hρ' h => ?_) (fun j hj e => ?_) (fun j hj => ?_)) (by repeat (first | exact trivial | refine ⟨rfl, ?_⟩))
           · rw [up2_ne _ _ (by omega), up2_ne _ _ (by omega)]; exact f a ha'
           · rw [up2_ne _ _ (by omega), up2_nj _ _ (by omega)]; exact q1
           · rw [up2_ne _ _ (by omega)]
             by_cases h : j = b
             · subst h
               have : ρ' = ρ := by omega
               subst this
               rw [up2_at, q3 ρ' hρr (fun j' hj' s2 e3 => by have := hi j' j (by omega) hb (by omega) (by omega); omega)]
             · have hne : ρ' ≠ ρ := fun h2 => h (hi j b (by omega) hb (by omega) (by omega))
               rw [up2_nj _ _ hne]
               exact q2 j ρ' (by omega) e1 e2
           · rw [up2_ne _ _ (by omega)]
             have hne : ρ' ≠ ρ := fun h2 => h b (by omega) s1 (by rw [h2]; exact hρ)
             rw [up2_nj _ _ hne]
             exact q3 ρ' hρ' (fun j hj => h j (by omega))
           · by_cases h : j = b
             · subst h
               rw [up2_at, up2_ne _ _ (by omega), q5 j (Or.inl (Nat.le_refl _))]
             · rw [up2_nj _ _ h, up2_ne _ _ (by omega)]
               exact q4 j (by omega) e
           · have h : j ≠ b := fun h => by
               subst h
               rcases hj with h | h <;> omega
             rw [up2_nj _ _ h, up2_ne _ _ (by omega)]
             refine q5 j ?_
             rcases hj with h | h
             · left; omega
             · exact Or.inr h)
      · have s1 : I 121 b = 1 := by omega
        obtain ⟨ρ, hρ, hρ8, hρr⟩ := ha b hb s1
        have h8 : b < 8 := by omega
        refine r_aload_n d_X3_reprice_39 rfl ?_
        refine r_getr d_X3_reprice_40 f_X3_27 (tt_79 _ _) (by decide) rfl (rr_79_6 _) ?_
        refine r_iload_n d_X3_reprice_43 rfl ?_
        refine r_laldJ d_X3_reprice_44 (tt_119 _ _) rfl (by omega) (kk := ?_)
        refine r_aload_n d_X3_reprice_45 rfl ?_
        refine r_getr d_X3_reprice_46 f_X3_27 (tt_79 _ _) (by decide) rfl (rr_79_6 _) ?_
        refine r_iload d_X3_reprice_49 rfl ?_
        refine r_laldJ d_X3_reprice_51 (tt_119 _ _) rfl (by omega) (kk := ?_)
        refine r_lsub d_X3_reprice_52 ?_
        rw [e119]
        refine r_lstore d_X3_reprice_53 (by decide) ?_
        refine r_aload_n d_X3_reprice_55 rfl ?_
        refine r_getr d_X3_reprice_56 f_X3_16 (tt_79 _ _) (by decide) rfl (rr_79_3 _) ?_
        refine r_iload_n d_X3_reprice_59 rfl ?_
        refine r_aaldJ d_X3_reprice_60 (tt_89 _ _) (by decide) rfl (by omega) (rr2_89 _ (by omega)) (kk := ?_)
        refine r_aload_n d_X3_reprice_61 rfl ?_
        refine r_getr d_X3_reprice_62 f_X3_24 (tt_79 _ _) (by decide) rfl (rr_79_5 _) ?_
        refine r_iload_n d_X3_reprice_65 rfl ?_
        refine r_aaldJ d_X3_reprice_66 (tt_109 _ _) (by decide) rfl (by omega) (rr2_109 _ (by omega)) (kk := ?_)
        refine r_iload d_X3_reprice_67 rfl ?_
        refine r_ialdJ d_X3_reprice_69 (tt2_109 _ _ (by omega)) rfl (by omega) (kk := ?_)
        refine r_dup2 d_X3_reprice_70 rfl rfl ?_
        refine r_laldJ (j := ρ) d_X3_reprice_71 (tt2_89 _ _ (by omega)) (by omega) (by omega) (kk := ?_)
        refine r_lload d_X3_reprice_72 rfl ?_
        refine r_ladd d_X3_reprice_74 ?_
        refine r_lastJ (j := ρ) d_X3_reprice_75 (tt2_89 _ _ (by omega)) (by omega) (by omega) (by omega) (kk := ?_)
        refine r_aload_n d_X3_reprice_76 rfl ?_
        refine r_getr d_X3_reprice_77 f_X3_19 (tt_79 _ _) (by decide) rfl (rr_79_4 _) ?_
        refine r_iload_n d_X3_reprice_80 rfl ?_
        refine r_aaldJ d_X3_reprice_81 (tt_99 _ _) (by decide) rfl (by omega) (rr2_99 _ (by omega)) (kk := ?_)
        refine r_iload d_X3_reprice_82 rfl ?_
        refine r_dup2 d_X3_reprice_84 rfl rfl ?_
        refine r_laldJ d_X3_reprice_85 (tt2_99 _ _ (by omega)) rfl (by omega) (kk := ?_)
        refine r_lload d_X3_reprice_86 rfl ?_
        refine r_lsub d_X3_reprice_88 ?_
        refine r_lastJ d_X3_reprice_89 (tt2_99 _ _ (by omega)) (by omega) rfl (by omega) (kk := ?_)
        refine r_iinc d_X3_reprice_90 rfl (by decide) ?_
        refine r_goto d_X3_reprice_93 ?_
        first
        | exact CpL (skp c0) (by repeat (first | exact trivial | refine ⟨rfl, ?_⟩))
        | (refine CpL (ih (b + 1) _ (by omega) (fun a ha' => ?_) ?_ (fun j ρ' hj e1 e2 => ?_) (fun ρ' hρ' h => ?_) (fun j hj e => ?_) (fun j hj => ?_)) (by repeat (first | exact trivial | refine ⟨rfl, ?_⟩))
           · rw [up2_ne _ _ (by omega), up2_ne _ _ (by omega)]; exact f a ha'
           · rw [up2_ne _ _ (by omega), up2_nj _ _ (by omega)]; exact q1
           · rw [up2_ne _ _ (by omega)]
             by_cases h : j = b
             · subst h
               have : ρ' = ρ := by omega
               subst this
               rw [up2_at, q3 ρ' hρr (fun j' hj' s2 e3 => by have := hi j' j (by omega) hb (by omega) (by omega); omega)]
             · have hne : ρ' ≠ ρ := fun h2 => h (hi j b (by omega) hb (by omega) (by omega))
               rw [up2_nj _ _ hne]
               exact q2 j ρ' (by omega) e1 e2
           · rw [up2_ne _ _ (by omega)]
             have hne : ρ' ≠ ρ := fun h2 => h b (by omega) s1 (by rw [h2]; exact hρ)
             rw [up2_nj _ _ hne]
             exact q3 ρ' hρ' (fun j hj => h j (by omega))
           · by_cases h : j = b
             · subst h
               rw [up2_at, up2_ne _ _ (by omega), q5 j (Or.inl (Nat.le_refl _))]
             · rw [up2_nj _ _ h, up2_ne _ _ (by omega)]
               exact q4 j (by omega) e
           · have h : j ≠ b := fun h => by
               subst h
               rcases hj with h | h <;> omega
             rw [up2_nj _ _ h, up2_ne _ _ (by omega)]
             refine q5 j ?_
             rcases hj with h | h
             · left; omega
             · exact Or.inr h)
  refine r_aload_n d_X3_reprice_0 rfl ?_
  refine r_getr d_X3_reprice_1 f_X3_16 (tt_79 _ _) (by decide) rfl (rr_79_3 _) ?_
  refine r_iload_n d_X3_reprice_4 rfl ?_
  refine r_aaldJ d_X3_reprice_5 (tt_89 _ _) (by decide) rfl (by omega) (rr2_89 _ (by omega)) (kk := ?_)
  refine r_iload_n d_X3_reprice_6 rfl ?_
  refine r_dup2 d_X3_reprice_7 rfl rfl ?_
  refine r_laldJ d_X3_reprice_8 (tt2_89 _ _ (by omega)) rfl (by omega) (kk := ?_)
  refine r_aload_n d_X3_reprice_9 rfl ?_
  refine r_getr d_X3_reprice_10 f_X3_27 (tt_79 _ _) (by decide) rfl (rr_79_6 _) ?_
  refine r_iload_n d_X3_reprice_13 rfl ?_
  refine r_laldJ d_X3_reprice_14 (tt_119 _ _) rfl (by omega) (kk := ?_)
  refine r_ladd d_X3_reprice_15 ?_
  refine r_lastJ d_X3_reprice_16 (tt2_89 _ _ (by omega)) (by omega) rfl (by omega) (kk := ?_)
  refine r_iconst d_X3_reprice_17 ?_
  refine r_istore d_X3_reprice_18 (by decide) ?_
  refine CpL (loop P 0 _ (by omega) (fun a ha' => up2_ne _ _ (by omega)) (up2_at _ _ _ _) (fun j ρ hj => absurd hj (by omega)) (fun ρ hρ _ => up2_nj _ _ hρ) (fun j hj => absurd hj (by omega)) (fun j _ => by rw [up2_ne _ _ (by omega)])) (by repeat (first | exact trivial | refine ⟨rfl, ?_⟩))
theorem c_moveAlong (h1 : I 79 1 = (P : Int)) (hP : P ≤ 8) (hl : lv < 9) {u v : Nat → Int} {en : Nat} (hR : RPR P (SS s) G u v (I (110 + lv)) r (fun j => I 121 j = 1) (I 120) en E) (hH : HOL P (SS s) G u v (I (110 + lv)) en) (hen : en < P ∧ I (110 + lv) en = -1 ∧ I 121 en ≠ 1) (hr : r < 8) (hsr : s r = false) {o : Nat → Nat} {bb : Nat} (hbb : bb < P) (ho : ∀ j, j < P → (I 121 j = 1 ∨ j = en) → ∀ i : Nat, I 120 j = (i : Int) → i < P ∧ I 121 i = 1 ∧ o i < bb ∧ (I 121 j = 1 → o i < o j)) : Mc g 0 m_X3_moveAlong 0 0 [vr 79, vi (lv : Int), vi (r : Int), vi (en : Int)] (TT Ls tl) I L (RR tl) (qV fun T' I' L' R' => T' = TT Ls tl ∧ R' = RR tl ∧ L' = L ∧ (∀ a, ¬ a = 110 + lv → I' a = I a) ∧ LVL P (SS (addS s r)) G u v (I' (110 + lv)) E) := by
  refine Mc_of rfl (Nat.le_of_ble_eq_true rfl) ?_
  obtain ⟨Q, hQ⟩ : ∃ Q : sQ, Q = (qV fun T' I' L' R' => T' = TT Ls tl ∧ R' = RR tl ∧ L' = L ∧ (∀ a, ¬ a = 110 + lv → I' a = I a) ∧ LVL P (SS (addS s r)) G u v (I' (110 + lv)) E) := ⟨_, rfl⟩
  rw [← hQ]
  have loop : ∀ (k b c K : Nat) (I1 : sI), b + k = P → (∀ a, ¬ a = 110 + lv → I1 a = I a) → HOL P (SS s) G u v (I1 (110 + lv)) c → c < P → ((c = en ∧ K = bb ∧ b = 0) ∨ (I 121 c = 1 ∧ K = o c + 1 ∧ K + b ≤ bb + 1)) → (∀ j, j < P → I 121 j = 1 → o j < K → I1 (110 + lv) j = I (110 + lv) j) → (∀ j, j < P → j ≠ c → I1 (110 + lv) j = -1 → I (110 + lv) j = -1) → Cp g 0 m_X3_moveAlong 0 0 Q 6 [(0, vr 79), (1, vi (lv : Int)), (2, vi (r : Int)), (4, vi (c : Int)), (5, vi (b : Int))] [] (TT Ls tl) I1 L (RR tl) := by
    intro k
    induction k with
    | zero =>
      intro b c K I1 hbk f hh hc hK ha hun
      omega
    | succ k ih =>
      intro b c K I1 hbk f hh hc hK ha hun
      have e120 : I1 120 = I 120 := f 120 (by omega)
      have hp1 : I1 79 1 = (P : Int) := by rw [f 79 (by omega)]; exact h1
      have hce : I 121 c = 1 ∨ c = en := by rcases hK with h | h; exact Or.inr h.1; exact Or.inl h.1
      obtain ⟨-, -, R3, -, -⟩ := id hR
      rcases R3 c hc hce with ⟨bf, hz⟩ | ⟨i, ρ, bf, hi, hD, hρ, hS, hz⟩
      · skip
        refine r_iload d_X3_moveAlong_6 rfl ?_
        refine r_aload_n d_X3_moveAlong_8 rfl ?_
        refine r_geti d_X3_moveAlong_9 f_X3_61 (tt_79 _ _) (by decide) (by decide) ?_
        refine r_icmp_ge d_X3_moveAlong_12 (by omega) (by omega) (fun c12 => absurd c12 (by omega)) (fun c12 => ?_)
        refine r_aload_n d_X3_moveAlong_15 rfl ?_
        refine r_getr d_X3_moveAlong_16 f_X3_31 (tt_79 _ _) (by decide) rfl (rr_79_7 _) ?_
        refine r_iload d_X3_moveAlong_19 rfl ?_
        refine r_ialdJ d_X3_moveAlong_21 (tt_120 _ _) rfl (by omega) (kk := ?_)
        refine r_iconst d_X3_moveAlong_22 ?_
        refine r_icmp_eq d_X3_moveAlong_23 (by rw [e120, bf]; decide) (by omega) (fun c23 => ?_) (fun c23 => absurd c23 (by rw [e120, bf]; decide))
        refine r_aload_n d_X3_moveAlong_64 rfl ?_
        refine r_getr d_X3_moveAlong_65 f_X3_24 (tt_79 _ _) (by decide) rfl (rr_79_5 _) ?_
        refine r_iload_n d_X3_moveAlong_68 rfl ?_
        refine r_aaldJ d_X3_moveAlong_69 (tt_109 _ _) (by decide) rfl (by omega) (rr2_109 _ (by omega)) (kk := ?_)
        refine r_iload d_X3_moveAlong_70 rfl ?_
        refine r_iload_n d_X3_moveAlong_72 rfl ?_
        refine r_iastJ d_X3_moveAlong_73 (tt2_109 _ _ (by omega)) (by omega) rfl (by omega) (kk := ?_)
        refine r_vret d_X3_moveAlong_74 rfl ?_
        rw [hQ]
        refine ⟨rfl, rfl, rfl, rfl, fun a ha' => by rw [up2_ne _ _ (by omega)]; exact f a ha', ?_⟩
        rw [← SS_add hr]
        exact hol_end hh hR (fun h => by rw [h.2] at hsr; cases hsr) hc hz (up2_at _ _ _ _) (fun j _ e => up2_nj _ _ e) hun ⟨hen.1, hen.2.1⟩
      · obtain ⟨-, w2, w3, w4⟩ := ho c hc hce i bf
        have hiK : o i < K := by
          rcases hK with h | h
          · omega
          · have := w4 h.1; omega
        have hci : c ≠ i := fun h => by
          rcases hK with q | q
          · exact hen.2.2 (by rw [← q.1, h]; exact hD)
          · have := w4 q.1; rw [h] at this; omega
        have e12c : I1 120 c = (i : Int) := by rw [e120, bf]
        have eai : I1 (110 + lv) i = (ρ : Int) := by rw [ha i hi w2 hiK]; exact hρ
        refine r_iload d_X3_moveAlong_6 rfl ?_
        refine r_aload_n d_X3_moveAlong_8 rfl ?_
        refine r_geti d_X3_moveAlong_9 f_X3_61 (tt_79 _ _) (by decide) (by decide) ?_
        refine r_icmp_ge d_X3_moveAlong_12 (by omega) (by omega) (fun c12 => absurd c12 (by omega)) (fun c12 => ?_)
        refine r_aload_n d_X3_moveAlong_15 rfl ?_
        refine r_getr d_X3_moveAlong_16 f_X3_31 (tt_79 _ _) (by decide) rfl (rr_79_7 _) ?_
        refine r_iload d_X3_moveAlong_19 rfl ?_
        refine r_ialdJ d_X3_moveAlong_21 (tt_120 _ _) rfl (by omega) (kk := ?_)
        refine r_iconst d_X3_moveAlong_22 ?_
        refine r_icmp_eq d_X3_moveAlong_23 (by rw [e120, bf]; omega) (by omega) (fun c23 => absurd c23 (by rw [e120, bf]; omega)) (fun c23 => ?_)
        refine r_aload_n d_X3_moveAlong_26 rfl ?_
        refine r_getr d_X3_moveAlong_27 f_X3_24 (tt_79 _ _) (by decide) rfl (rr_79_5 _) ?_
        refine r_iload_n d_X3_moveAlong_30 rfl ?_
        refine r_aaldJ d_X3_moveAlong_31 (tt_109 _ _) (by decide) rfl (by omega) (rr2_109 _ (by omega)) (kk := ?_)
        refine r_iload d_X3_moveAlong_32 rfl ?_
        refine r_aload_n d_X3_moveAlong_34 rfl ?_
        refine r_getr d_X3_moveAlong_35 f_X3_24 (tt_79 _ _) (by decide) rfl (rr_79_5 _) ?_
        refine r_iload_n d_X3_moveAlong_38 rfl ?_
        refine r_aaldJ d_X3_moveAlong_39 (tt_109 _ _) (by decide) rfl (by omega) (rr2_109 _ (by omega)) (kk := ?_)
        refine r_aload_n d_X3_moveAlong_40 rfl ?_
        refine r_getr d_X3_moveAlong_41 f_X3_31 (tt_79 _ _) (by decide) rfl (rr_79_7 _) ?_
        refine r_iload d_X3_moveAlong_44 rfl ?_
        refine r_ialdJ d_X3_moveAlong_46 (tt_120 _ _) rfl (by omega) (kk := ?_)
        refine r_ialdJ (j := i) d_X3_moveAlong_47 (tt2_109 _ _ (by omega)) (by omega) (by omega) (kk := ?_)
        rw [eai]
        refine r_iastJ d_X3_moveAlong_48 (tt2_109 _ _ (by omega)) (by omega) rfl (by omega) (kk := ?_)
        refine r_aload_n d_X3_moveAlong_49 rfl ?_
        refine r_getr d_X3_moveAlong_50 f_X3_31 (tt_79 _ _) (by decide) rfl (rr_79_7 _) ?_
        refine r_iload d_X3_moveAlong_53 rfl ?_
        refine r_ialdJ d_X3_moveAlong_55 (tt_120 _ _) rfl (by omega) (kk := ?_)
        rw [up2_ne _ _ (show (120 : Nat) ≠ 110 + lv by omega), e120, bf]
        refine r_istore d_X3_moveAlong_56 (by decide) ?_
        refine r_iinc d_X3_moveAlong_58 rfl (by decide) ?_
        refine r_goto d_X3_moveAlong_61 ?_
        refine CpL (ih (b + 1) i (o i + 1) _ (by omega) (fun a ha' => ?_) (hol_step hh hc hi hci eai hS hz (up2_at _ _ _ _) (fun j _ e => up2_nj _ _ e)) hi (Or.inr ⟨w2, rfl, ?_⟩) (fun j hj e q => ?_) (fun j hj e q => ?_)) (by repeat (first | exact trivial | refine ⟨rfl, ?_⟩))
        · rw [up2_ne _ _ (by omega)]; exact f a ha'
        · rcases hK with h | h
          · omega
          · have := w4 h.1; omega
        · have hjc : j ≠ c := fun h => by
            subst h
            rcases hK with q2 | q2
            · exact hen.2.2 (by rw [← q2.1]; exact e)
            · have := w4 q2.1; omega
          rw [up2_nj _ _ hjc]
          exact ha j hj e (by omega)
        · by_cases h : j = c
          · subst h
            rw [up2_at] at q; omega
          · rw [up2_nj _ _ h] at q
            exact hun j hj h q
  refine r_iload_n d_X3_moveAlong_0 rfl ?_
  refine r_istore d_X3_moveAlong_1 (by decide) ?_
  refine r_iconst d_X3_moveAlong_3 ?_
  refine r_istore d_X3_moveAlong_4 (by decide) ?_
  exact CpL (loop P 0 en bb I (by omega) (fun _ _ => rfl) hH hen.1 (Or.inl ⟨rfl, rfl, rfl⟩) (fun _ _ _ _ => rfl) (fun _ _ _ h => h)) (by repeat (first | exact trivial | refine ⟨rfl, ?_⟩))
end K3
