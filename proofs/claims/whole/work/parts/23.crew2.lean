def absI (x : Int) : Int := if 0 ≤ x then x else -x
theorem absI_bd {x y : Int} (h1 : 1 ≤ x ∧ x ≤ 6) (h2 : 1 ≤ y ∧ y ≤ 6) : 0 ≤ absI (x - y) ∧ absI (x - y) ≤ 5 := by unfold absI; split <;> omega
def loneS (σ : Sg) (ℓ ab : Int) (nW : Nat) (δ : Sg) (r : Nat) : Sg := if amin (fun w => mayS σ ℓ ab δ w r) (fun w => rdyS σ ℓ δ w r) nW = -1 then δ else stepS σ ℓ ab δ (amin (fun w => mayS σ ℓ ab δ w r) (fun w => rdyS σ ℓ δ w r) nW).toNat r
/-- a list: rooms in the order od -/
def lstS (σ : Sg) (ℓ ab : Int) (nW : Nat) (od : Nat → Nat) : Nat → Sg → Sg
  | 0, δ => δ
  | n + 1, δ => loneS σ ℓ ab nW (lstS σ ℓ ab nW od n δ) (od n)
def nearS (σ : Sg) (ab : Int) (nW r : Nat) : Int := amin (fun w => decide (¬ (w : Int) = ab)) (fun w => absI (σ 7 w - σ 0 r)) nW
def fstS (σ : Sg) (ℓ ab : Int) (nW : Nat) (δ : Sg) (r : Nat) : Sg := if nearS σ ab nW r = -1 then δ else stepS σ ℓ ab δ (nearS σ ab nW r).toNat r
def flrX (σ : Sg) (ℓ ab : Int) (nr nW : Nat) : Nat → Nat → Sg → Sg
  | 0, _, δ => δ
  | k + 1, seen, δ => if amin (fun r => !seen.testBit r) (fun r => δ 0 r) nr = -1 then δ else flrX σ ℓ ab nr nW k (seen ||| 2 ^ (amin (fun r => !seen.testBit r) (fun r => δ 0 r) nr).toNat) (fstS σ ℓ ab nW δ (amin (fun r => !seen.testBit r) (fun r => δ 0 r) nr).toNat)
/-- whom one who chooses chooses -/
def ahdS (σ : Sg) (pm : Nat → Int) (kd : Int) (r : Nat) : Int := if kd = 3 then σ 2 r else if kd = 4 then pm r else 0
def choS (σ : Sg) (ℓ ab : Int) (pm : Nat → Int) (kd : Int) (nr : Nat) (δ : Sg) (w : Nat) : Int := amin (fun r => decide (δ 1 r = -1 ∧ δ 0 r ≤ δ 4 w) && mayS σ ℓ ab δ w r) (fun r => ahdS σ pm kd r * 6 + absI (δ 5 w - σ 0 r)) nr
def ngS (δ : Sg) (q : Int) : Nat → Int
  | 0 => -1
  | n + 1 => if δ 1 n = -1 ∧ q < δ 0 n ∧ (ngS δ q n = -1 ∨ δ 0 n < ngS δ q n) then δ 0 n else ngS δ q n
def ffS (en : Nat → Bool) (δ : Sg) (nW : Nat) : Int := amin (fun w => !en w) (fun w => δ 4 w) nW
def frX (σ : Sg) (ℓ ab : Int) (pm : Nat → Int) (kd : Int) (nr nW : Nat) : Nat → (Nat → Bool) → Sg → Sg
  | 0, _, δ => δ
  | k + 1, en, δ => if ffS en δ nW = -1 then δ else
    if choS σ ℓ ab pm kd nr δ (ffS en δ nW).toNat = -1 then frX σ ℓ ab pm kd nr nW k (fun w => if w = (ffS en δ nW).toNat then decide (ngS δ (δ 4 (ffS en δ nW).toNat) nr = -1) else en w) (up2 δ 4 (ffS en δ nW).toNat (if δ 4 (ffS en δ nW).toNat < ngS δ (δ 4 (ffS en δ nW).toNat) nr then ngS δ (δ 4 (ffS en δ nW).toNat) nr else δ 4 (ffS en δ nW).toNat))
    else frX σ ℓ ab pm kd nr nW k en (stepS σ ℓ ab δ (ffS en δ nW).toNat (choS σ ℓ ab pm kd nr δ (ffS en δ nW).toNat).toNat)
def tdX (σ : Sg) (ℓ ab : Int) (nr nW : Nat) (tr tw : Nat → Nat) : Nat → Sg → Sg
  | 0, δ => δ
  | n + 1, δ => if tw n < nW ∧ tr n < nr then stepS σ ℓ ab (tdX σ ℓ ab nr nW tr tw n δ) (tw n) (tr n) else tdX σ ℓ ab nr nW tr tw n δ
theorem DV_lone {σ : Sg} {ℓ ab : Int} {nr nW : Nat} {δ : Sg} (hS : SV σ ℓ nr nW) (hD : DV δ nr nW) {r : Nat} (hr : r < nr) : DV (loneS σ ℓ ab nW δ r) nr nW := by
  unfold loneS
  split
  · exact hD
  · have := amin_rng (fun w => mayS σ ℓ ab δ w r) (fun w => rdyS σ ℓ δ w r) nW
    exact DV_step hS hD (by omega) hr
theorem DV_lst {σ : Sg} {ℓ ab : Int} {nr nW : Nat} {δ : Sg} {od : Nat → Nat} (hS : SV σ ℓ nr nW) (hD : DV δ nr nW) : ∀ n, (∀ k, k < n → od k < nr) → DV (lstS σ ℓ ab nW od n δ) nr nW
  | 0, _ => hD
  | n + 1, h => DV_lone hS (DV_lst hS hD n (fun k hk => h k (by omega))) (h n (by omega))
theorem DV_fst {σ : Sg} {ℓ ab : Int} {nr nW : Nat} {δ : Sg} (hS : SV σ ℓ nr nW) (hD : DV δ nr nW) {r : Nat} (hr : r < nr) : DV (fstS σ ℓ ab nW δ r) nr nW := by
  unfold fstS
  split
  · exact hD
  · have := amin_rng (fun w => decide (¬ (w : Int) = ab)) (fun w => absI (σ 7 w - σ 0 r)) nW
    rename_i h
    unfold nearS at h ⊢
    exact DV_step hS hD (by omega) hr
theorem ngS_bd {δ : Sg} {nr nW : Nat} (hD : DV δ nr nW) {q : Int} (hq : -1 ≤ q) : ∀ n, n ≤ nr → ngS δ q n = -1 ∨ (q < ngS δ q n ∧ 0 ≤ ngS δ q n ∧ ngS δ q n ≤ 44)
  | 0, _ => Or.inl rfl
  | n + 1, h => by
    have ih := ngS_bd hD hq n (by omega)
    have h0 := hD.1 n (by omega)
    unfold ngS
    split
    · right; omega
    · exact ih
section C5
variable {g : sG} {Ls : Nat} {tl : List Nat} {I L : sI} {σ δ : Sg} {ℓ ab : Int} {nr nW : Nat}
theorem c_planList (hS : SV σ ℓ nr nW) (hK : KX σ ℓ ab nr nW I) (hV : DV δ nr nW) (hD : DX δ nr nW I) {oa on : Nat} {od : Nat → Nat} (hT : (TT Ls tl)[oa]? = some (10, on)) (ho : nr ≤ on ∧ on ≤ 100) (hoa : oa < 70 ∨ 77 ≤ oa) (hod : ∀ k, k < nr → od k < nr ∧ I oa k = (od k : Int)) : Mc g 3 m_X0_planList 0 0 [vr 63, vr oa] (TT Ls tl) I L (RR tl) (qV fun T' I' L' R' => pst 70 77 (TT Ls tl) I L (RR tl) T' I' L' R' ∧ DX (lstS σ ℓ ab nW od nr δ) nr nW I') := by
  refine Mc_of rfl (Nat.le_of_ble_eq_true rfl) ?_
  have h8 := hS.1
  have h4 := hS.2.1
  have loop : ∀ (k b : Nat) (I1 : sI), b + k = nr → frb 70 77 I I1 → DX (lstS σ ℓ ab nW od b δ) nr nW I1 → Cp g 3 m_X0_planList 0 0 (qV fun T' I' L' R' => pst 70 77 (TT Ls tl) I L (RR tl) T' I' L' R' ∧ DX (lstS σ ℓ ab nW od nr δ) nr nW I') 2 [(0, vr 63), (1, vr oa), (2, vi (b : Int))] [] (TT Ls tl) I1 L (RR tl) := by
    intro k
    induction k with
    | zero =>
      intro b I1 hbk hf hD1
      have hn := (KX_frb h8 h4 hK hf).1
      refine r_iload_n d_X0_planList_2 rfl ?_
      refine r_aload_n d_X0_planList_3 rfl ?_
      refine r_getr d_X0_planList_4 f_X0_46 (tt_63 _ _) (by decide) rfl (rr_63_7 _) ?_
      refine r_geti d_X0_planList_7 f_X0_67 (tt_8 _ _) (by decide) (by decide) ?_
      refine r_icmp_ge d_X0_planList_10 (by omega) (by omega) (fun c10 => ?_) (fun c10 => absurd c10 (by omega))
      refine r_vret d_X0_planList_46 rfl ?_
      exact ⟨rfl, ⟨rfl, hf, rfl, rfl⟩, by rw [show nr = b by omega]; exact (by rw [← show nr = b by omega] at hD1 ⊢; exact hD1)⟩
    | succ k ih =>
      intro b I1 hbk hf hD1
      have hK1 := KX_frb h8 h4 hK hf
      have hn := hK1.1
      have hb : b < nr := by omega
      have hV1 := DV_lst (od := od) (ab := ab) hS hV b (fun k hk => (hod k (by omega)).1)
      have hr := (hod b hb).1
      have e1 : I1 oa b = (od b : Int) := by rw [hf oa hoa]; exact (hod b hb).2
      have hrg := amin_rng (fun w => mayS σ ℓ ab (lstS σ ℓ ab nW od b δ) w (od b)) (fun w => rdyS σ ℓ (lstS σ ℓ ab nW od b δ) w (od b)) nW
      have hl : lstS σ ℓ ab nW od (b + 1) δ = loneS σ ℓ ab nW (lstS σ ℓ ab nW od b δ) (od b) := rfl
      generalize hA : amin (fun w => mayS σ ℓ ab (lstS σ ℓ ab nW od b δ) w (od b)) (fun w => rdyS σ ℓ (lstS σ ℓ ab nW od b δ) w (od b)) nW = A at hrg
      have hc := c_soonestFor (g := g) (Ls := Ls) (tl := tl) (L := L) hS hK1 hV1 hD1 hr
      rw [hA] at hc
      unfold loneS at hl
      rw [hA] at hl
      refine r_iload_n d_X0_planList_2 rfl ?_
      refine r_aload_n d_X0_planList_3 rfl ?_
      refine r_getr d_X0_planList_4 f_X0_46 (tt_63 _ _) (by decide) rfl (rr_63_7 _) ?_
      refine r_geti d_X0_planList_7 f_X0_67 (tt_8 _ _) (by decide) (by decide) ?_
      refine r_icmp_ge d_X0_planList_10 (by omega) (by omega) (fun c10 => absurd c10 (by omega)) (fun c10 => ?_)
      refine r_iload_n d_X0_planList_13 rfl ?_
      refine r_aload_n d_X0_planList_14 rfl ?_
      refine r_alen d_X0_planList_15 hT (by decide) ?_
      refine r_icmp_ge d_X0_planList_16 (by omega) (by omega) (fun c16 => absurd c16 (by omega)) (fun c16 => ?_)
      refine r_aload_n d_X0_planList_19 rfl ?_
      refine r_aload_n d_X0_planList_20 rfl ?_
      refine r_iload_n d_X0_planList_21 rfl ?_
      refine r_ialdJ d_X0_planList_22 hT rfl (by omega) (hn := (by omega)) (kk := ?_)
      rw [e1]
      refine r_V1i d_X0_planList_23 (w_X0_96 _ rfl) (tt_63 _ _) rfl rfl (hc) (by decide) (Nat.le_of_ble_eq_true rfl) (fun z23 T23 I23 L23 R23 h23 => ?_)
      obtain ⟨rfl, rfl, rfl, rfl, rfl⟩ := h23
      refine r_istore_n d_X0_planList_26 (by decide) ?_
      refine r_iload_n d_X0_planList_27 rfl ?_
      refine r_iconst d_X0_planList_28 ?_
      refine r_icmp_eq d_X0_planList_29 (by omega) (by omega) (fun c29 => ?_) (fun c29 => ?_)
      · rw [if_pos c29] at hl
        refine r_iinc d_X0_planList_40 rfl (by decide) ?_
        refine r_goto d_X0_planList_43 ?_
        first | exact CpL (ih (b + 1) _ (by omega) (frb_tr hf hf2) (by rw [hl]; exact hD2)) (by repeat (first | exact trivial | refine ⟨rfl, ?_⟩)) | exact CpL (ih (b + 1) _ (by omega) hf (by rw [hl]; exact hD1)) (by repeat (first | exact trivial | refine ⟨rfl, ?_⟩))
      · rw [if_neg c29] at hl
        obtain ⟨w, rfl⟩ : ∃ w : Nat, z23 = (w : Int) := ⟨z23.toNat, by omega⟩
        rw [Int.toNat_natCast] at hl
        refine r_aload_n d_X0_planList_32 rfl ?_
        refine r_iload_n d_X0_planList_33 rfl ?_
        refine r_aload_n d_X0_planList_34 rfl ?_
        refine r_iload_n d_X0_planList_35 rfl ?_
        refine r_ialdJ d_X0_planList_36 hT rfl (by omega) (hn := (by omega)) (kk := ?_)
        rw [e1]
        refine r_V2v d_X0_planList_37 (w_X0_100 _ rfl) (tt_63 _ _) rfl rfl (c_assign hS hK1 hV1 hD1 (by omega) hr) (by decide) (Nat.le_of_ble_eq_true rfl) (fun T37 I37 L37 R37 h37 => ?_)
        obtain ⟨⟨rfl, hf2, rfl, rfl⟩, hD2, h72⟩ := h37
        refine r_iinc d_X0_planList_40 rfl (by decide) ?_
        refine r_goto d_X0_planList_43 ?_
        first | exact CpL (ih (b + 1) _ (by omega) (frb_tr hf hf2) (by rw [hl]; exact hD2)) (by repeat (first | exact trivial | refine ⟨rfl, ?_⟩)) | exact CpL (ih (b + 1) _ (by omega) hf (by rw [hl]; exact hD1)) (by repeat (first | exact trivial | refine ⟨rfl, ?_⟩))
  refine r_iconst d_X0_planList_0 ?_
  refine r_istore_n d_X0_planList_1 (by decide) ?_
  exact CpL (loop nr 0 I (by omega) frb_rf hD) (by repeat (first | exact trivial | refine ⟨rfl, ?_⟩))
theorem c_nearestAtFirst (hS : SV σ ℓ nr nW) (hK : KX σ ℓ ab nr nW I) {r : Nat} (hr : r < nr) : Mc g 1 m_X0_nearestAtFirst 0 0 [vr 63, vi (σ 0 r)] (TT Ls tl) I L (RR tl) (qI fun z T' I' L' R' => z = nearS σ ab nW r ∧ same (TT Ls tl) I L (RR tl) T' I' L' R') := by
  refine Mc_of rfl (Nat.le_of_ble_eq_true rfl) ?_
  have hn := hK.2.2.2.1
  have h4 := hS.2.1
  have hrv := hS.2.2.1 r hr
  unfold RV at hrv
  unfold nearS
  obtain ⟨A, hA0⟩ : ∃ A : Nat → Int, A = amin (fun w => decide (¬ (w : Int) = ab)) (fun w => absI (σ 7 w - σ 0 r)) := ⟨_, rfl⟩
  rw [← hA0]
  have loop : ∀ (k b : Nat) (x : Int), b + k = nW → (0 ≤ x ∧ x ≤ 5) → (A b = -1 ∨ x = absI (σ 7 (A b).toNat - σ 0 r)) → Cp g 1 m_X0_nearestAtFirst 0 0 (qI fun z T' I' L' R' => z = A nW ∧ same (TT Ls tl) I L (RR tl) T' I' L' R') 7 [(0, vr 63), (1, vi (σ 0 r)), (2, vi (A b)), (3, vi x), (4, vi (b : Int))] [] (TT Ls tl) I L (RR tl) := by
    intro k
    induction k with
    | zero =>
      intro b x hbk _ _
      refine r_iload d_X0_nearestAtFirst_7 rfl ?_
      refine r_aload_n d_X0_nearestAtFirst_9 rfl ?_
      refine r_geti d_X0_nearestAtFirst_10 f_X0_50 (tt_63 _ _) (by decide) (by decide) ?_
      refine r_icmp_ge d_X0_nearestAtFirst_13 (by omega) (by omega) (fun c13 => ?_) (fun c13 => absurd c13 (by omega))
      refine r_iload_n d_X0_nearestAtFirst_65 rfl ?_
      refine r_iret d_X0_nearestAtFirst_66 rfl ?_
      exact ⟨_, rfl, by rw [show b = nW by omega], same_rf⟩
    | succ k ih =>
      intro b x hbk hxr hx
      have hb : b < nW := by omega
      have hwv := hS.2.2.2.1 b hb
      unfold WV at hwv
      have hab := absI_bd hwv.1 hrv.1
      have e1 : I (65 + b) 0 = σ 7 b := hK.2.2.2.2.1 b hb 0 (by omega)
      have e2 := hK.2.2.2.2.2 b hb
      have ea : (if 0 ≤ I (65 + b) 0 - σ 0 r then I (65 + b) 0 - σ 0 r else -(I (65 + b) 0 - σ 0 r)) = absI (σ 7 b - σ 0 r) := by rw [e1]; rfl
      have hrg := amin_rng (fun w => decide (¬ (w : Int) = ab)) (fun w => absI (σ 7 w - σ 0 r)) b
      rw [← hA0] at hrg
      refine r_iload d_X0_nearestAtFirst_7 rfl ?_
      refine r_aload_n d_X0_nearestAtFirst_9 rfl ?_
      refine r_geti d_X0_nearestAtFirst_10 f_X0_50 (tt_63 _ _) (by decide) (by decide) ?_
      refine r_icmp_ge d_X0_nearestAtFirst_13 (by omega) (by omega) (fun c13 => absurd c13 (by omega)) (fun c13 => ?_)
      refine r_aload_n d_X0_nearestAtFirst_16 rfl ?_
      refine r_getr d_X0_nearestAtFirst_17 f_X0_17 (tt_63 _ _) (by decide) rfl (rr_63_1 _) ?_
      refine r_iload d_X0_nearestAtFirst_20 rfl ?_
      refine r_aaldJ d_X0_nearestAtFirst_22 (tt_64 _ _) (by decide) rfl (by omega) (rr2_64 _ (by omega)) (kk := ?_)
      refine r_iconst d_X0_nearestAtFirst_23 ?_
      refine r_ialdJ (j := 0) d_X0_nearestAtFirst_24 (tt2_64 _ _ (by omega)) rfl (by omega) (kk := ?_)
      refine r_iload_n d_X0_nearestAtFirst_25 rfl ?_
      refine r_isub d_X0_nearestAtFirst_26 ?_
      refine r_mabs d_X0_nearestAtFirst_27 (w_X0_110 _ rfl) (by decide) (Nat.le_of_ble_eq_true rfl) (by omega) ?_
      rw [ea]
      refine r_istore d_X0_nearestAtFirst_30 (by decide) ?_
      refine r_aload_n d_X0_nearestAtFirst_32 rfl ?_
      refine r_getr d_X0_nearestAtFirst_33 f_X0_20 (tt_63 _ _) (by decide) rfl (rr_63_2 _) ?_
      refine r_iload d_X0_nearestAtFirst_36 rfl ?_
      refine r_zaldJ d_X0_nearestAtFirst_38 (tt_69 _ _) rfl (by omega) (kk := ?_)
      refine r_if_eq d_X0_nearestAtFirst_39 (by rw [e2]; split <;> omega) (fun c39 => ?_) (fun c39 => ?_)
      · have hn2 : decide (¬ (b : Int) = ab) = false := decide_eq_false (fun h => by rw [e2, if_neg h] at c39; omega)
        have hA : A (b + 1) = A b := by rw [hA0]; exact amin_no (Or.inl hn2)
        have hx' : A (b + 1) = -1 ∨ x = absI (σ 7 (A (b + 1)).toNat - σ 0 r) := by rw [hA]; exact hx
        have hr' := hxr
        refine r_iinc d_X0_nearestAtFirst_59 rfl (by decide) ?_
        refine r_goto d_X0_nearestAtFirst_62 ?_
        exact CpL (ih (b + 1) _ (by omega) hr' hx') (by repeat (first | exact trivial | refine ⟨rfl, ?_⟩ | refine ⟨by rw [hA]; rfl, ?_⟩))
      · have hm : decide (¬ (b : Int) = ab) = true := decide_eq_true (fun h => by rw [e2, if_pos h] at c39; omega)
        refine r_iload_n d_X0_nearestAtFirst_42 rfl ?_
        refine r_iconst d_X0_nearestAtFirst_43 ?_
        refine r_icmp_eq d_X0_nearestAtFirst_44 (by omega) (by omega) (fun c44 => ?_) (fun c44 => ?_)
        · have hor : A b = -1 ∨ absI (σ 7 b - σ 0 r) < absI (σ 7 (A b).toNat - σ 0 r) := Or.inl c44
          have hA : A (b + 1) = (b : Int) := by rw [hA0] at hor ⊢; exact amin_yes hm hor
          have hx' : A (b + 1) = -1 ∨ absI (σ 7 b - σ 0 r) = absI (σ 7 (A (b + 1)).toNat - σ 0 r) := by rw [hA]; exact Or.inr rfl
          have hr' : 0 ≤ absI (σ 7 b - σ 0 r) ∧ absI (σ 7 b - σ 0 r) ≤ 5 := hab
          refine r_iload d_X0_nearestAtFirst_53 rfl ?_
          refine r_istore_n d_X0_nearestAtFirst_55 (by decide) ?_
          refine r_iload d_X0_nearestAtFirst_56 rfl ?_
          refine r_istore_n d_X0_nearestAtFirst_58 (by decide) ?_
          refine r_iinc d_X0_nearestAtFirst_59 rfl (by decide) ?_
          refine r_goto d_X0_nearestAtFirst_62 ?_
          exact CpL (ih (b + 1) _ (by omega) hr' hx') (by repeat (first | exact trivial | refine ⟨rfl, ?_⟩ | refine ⟨by rw [hA]; rfl, ?_⟩))
        · refine r_iload d_X0_nearestAtFirst_47 rfl ?_
          refine r_iload_n d_X0_nearestAtFirst_49 rfl ?_
          refine r_icmp_ge d_X0_nearestAtFirst_50 (by omega) (by omega) (fun c50 => ?_) (fun c50 => ?_)
          · have hA : A (b + 1) = A b := by
              rw [hA0]
              rw [hA0] at hx c44
              exact amin_no (Or.inr ⟨c44, by rcases hx with h | h; exact absurd h c44; show absI (σ 7 _ - σ 0 r) ≤ _; omega⟩)
            have hx' : A (b + 1) = -1 ∨ x = absI (σ 7 (A (b + 1)).toNat - σ 0 r) := by rw [hA]; exact hx
            have hr' := hxr
            refine r_iinc d_X0_nearestAtFirst_59 rfl (by decide) ?_
            refine r_goto d_X0_nearestAtFirst_62 ?_
            exact CpL (ih (b + 1) _ (by omega) hr' hx') (by repeat (first | exact trivial | refine ⟨rfl, ?_⟩ | refine ⟨by rw [hA]; rfl, ?_⟩))
          · have hor : A b = -1 ∨ absI (σ 7 b - σ 0 r) < absI (σ 7 (A b).toNat - σ 0 r) := Or.inr (by rcases hx with h | h; exact absurd h c44; omega)
            have hA : A (b + 1) = (b : Int) := by rw [hA0] at hor ⊢; exact amin_yes hm hor
            have hx' : A (b + 1) = -1 ∨ absI (σ 7 b - σ 0 r) = absI (σ 7 (A (b + 1)).toNat - σ 0 r) := by rw [hA]; exact Or.inr rfl
            have hr' : 0 ≤ absI (σ 7 b - σ 0 r) ∧ absI (σ 7 b - σ 0 r) ≤ 5 := hab
            refine r_iload d_X0_nearestAtFirst_53 rfl ?_
            refine r_istore_n d_X0_nearestAtFirst_55 (by decide) ?_
            refine r_iload d_X0_nearestAtFirst_56 rfl ?_
            refine r_istore_n d_X0_nearestAtFirst_58 (by decide) ?_
            refine r_iinc d_X0_nearestAtFirst_59 rfl (by decide) ?_
            refine r_goto d_X0_nearestAtFirst_62 ?_
            exact CpL (ih (b + 1) _ (by omega) hr' hx') (by repeat (first | exact trivial | refine ⟨rfl, ?_⟩ | refine ⟨by rw [hA]; rfl, ?_⟩))
  refine r_iconst d_X0_nearestAtFirst_0 ?_
  refine r_istore_n d_X0_nearestAtFirst_1 (by decide) ?_
  refine r_iconst d_X0_nearestAtFirst_2 ?_
  refine r_istore_n d_X0_nearestAtFirst_3 (by decide) ?_
  refine r_iconst d_X0_nearestAtFirst_4 ?_
  refine r_istore d_X0_nearestAtFirst_5 (by decide) ?_
  exact CpL (loop nW 0 0 (by omega) (by omega) (Or.inl (by rw [hA0]; rfl))) (by repeat (first | exact trivial | refine ⟨rfl, ?_⟩ | refine ⟨by rw [hA0]; rfl, ?_⟩))
theorem c_planFloors (hS : SV σ ℓ nr nW) (hK : KX σ ℓ ab nr nW I) (hV : DV δ nr nW) (hD : DX δ nr nW I) : Mc g 3 m_X0_planFloors 0 0 [vr 63] (TT Ls tl) I L (RR tl) (qV fun T' I' L' R' => pst 70 77 (TT Ls tl) I L (RR tl) T' I' L' R' ∧ DX (flrX σ ℓ ab nr nW nr 0 δ) nr nW I') := by
  refine Mc_of rfl (Nat.le_of_ble_eq_true rfl) ?_
  have h8 := hS.1
  have h4 := hS.2.1
  obtain ⟨F, hF⟩ : ∃ F : Sg, F = flrX σ ℓ ab nr nW nr 0 δ := ⟨_, rfl⟩
  rw [← hF]
  have outer : ∀ (k b seen : Nat) (δ1 : Sg) (I1 : sI), b + k = nr → seen < 256 → frb 70 77 I I1 → DV δ1 nr nW → DX δ1 nr nW I1 → F = flrX σ ℓ ab nr nW k seen δ1 → Cp g 3 m_X0_planFloors 0 0 (qV fun T' I' L' R' => pst 70 77 (TT Ls tl) I L (RR tl) T' I' L' R' ∧ DX F nr nW I') 4 [(0, vr 63), (1, vi (seen : Int)), (2, vi (b : Int))] [] (TT Ls tl) I1 L (RR tl) := by
    intro k
    induction k with
    | zero =>
      intro b seen δ1 I1 hbk hs hf hV1 hD1 hF1
      have hn := (KX_frb h8 h4 hK hf).1
      refine r_iload_n d_X0_planFloors_4 rfl ?_
      refine r_aload_n d_X0_planFloors_5 rfl ?_
      refine r_getr d_X0_planFloors_6 f_X0_46 (tt_63 _ _) (by decide) rfl (rr_63_7 _) ?_
      refine r_geti d_X0_planFloors_9 f_X0_67 (tt_8 _ _) (by decide) (by decide) ?_
      refine r_icmp_ge d_X0_planFloors_12 (by omega) (by omega) (fun c12 => ?_) (fun c12 => absurd c12 (by omega))
      refine r_vret d_X0_planFloors_119 rfl ?_
      exact ⟨rfl, ⟨rfl, hf, rfl, rfl⟩, by rw [hF1]; exact hD1⟩
    | succ k ih =>
      intro b seen δ1 I1 hbk hs hf hV1 hD1 hF1
      have hK1 := KX_frb h8 h4 hK hf
      have hn := hK1.1
      obtain ⟨A, hA0⟩ : ∃ A : Nat → Int, A = amin (fun r => !seen.testBit r) (fun r => δ1 0 r) := ⟨_, rfl⟩
      unfold flrX at hF1
      rw [← hA0] at hF1
      have inner : ∀ (j r : Nat), r + j = nr → Cp g 3 m_X0_planFloors 0 0 (qV fun T' I' L' R' => pst 70 77 (TT Ls tl) I L (RR tl) T' I' L' R' ∧ DX F nr nW I') 20 [(0, vr 63), (1, vi (seen : Int)), (2, vi (b : Int)), (3, vi (A r)), (4, vi (r : Int))] [] (TT Ls tl) I1 L (RR tl) := by
        intro j
        induction j with
        | zero =>
          intro r hrj
          have hrr : r = nr := by omega
          subst hrr
          have hrg := amin_rng (fun r => !seen.testBit r) (fun r => δ1 0 r) r
          rw [← hA0] at hrg
          refine r_iload d_X0_planFloors_20 rfl ?_
          refine r_aload_n d_X0_planFloors_22 rfl ?_
          refine r_getr d_X0_planFloors_23 f_X0_46 (tt_63 _ _) (by decide) rfl (rr_63_7 _) ?_
          refine r_geti d_X0_planFloors_26 f_X0_67 (tt_8 _ _) (by decide) (by decide) ?_
          refine r_icmp_ge d_X0_planFloors_29 (by omega) (by omega) (fun c29 => ?_) (fun c29 => absurd c29 (by omega))
          refine r_iload_n d_X0_planFloors_71 rfl ?_
          refine r_iconst d_X0_planFloors_72 ?_
          refine r_icmp_ne d_X0_planFloors_73 (by omega) (by omega) (fun c73 => ?_) (fun c73 => ?_)
          · rw [if_neg c73] at hF1
            obtain ⟨f, hfA⟩ : ∃ f : Nat, A r = (f : Int) := ⟨(A r).toNat, by omega⟩
            rw [hfA, Int.toNat_natCast] at hF1
            rw [hfA] at hrg
            have hfr : f < r := by omega
            have e0 : I1 (10 + f) 0 = σ 0 f := hK1.2.1 f hfr 0 (by omega)
            have hsh := sshl_one f (by omega)
            have h2f : 2 ^ f < 2 ^ 8 := Nat.pow_lt_pow_right (by omega) (by omega)
            have hso := sor_nat (a := seen) (b := 2 ^ f) (by omega) (by omega)
            have hsl : seen ||| 2 ^ f < 256 := Nat.or_lt_two_pow (n := 8) hs h2f
            rw [hfA]
            have hnr := amin_rng (fun w => decide (¬ (w : Int) = ab)) (fun w => absI (σ 7 w - σ 0 f)) nW
            have hc := c_nearestAtFirst (g := g) (Ls := Ls) (tl := tl) (L := L) hS hK1 hfr
            unfold fstS at hF1
            have hVf := DV_fst (ab := ab) hS hV1 hfr
            unfold fstS at hVf
            change -1 ≤ nearS σ ab nW f ∧ nearS σ ab nW f < nW at hnr
            refine r_iload_n d_X0_planFloors_77 rfl ?_
            refine r_iconst d_X0_planFloors_78 ?_
            refine r_iload_n d_X0_planFloors_79 rfl ?_
            refine r_ishl d_X0_planFloors_80 ?_
            refine r_ior d_X0_planFloors_81 ?_
            rw [hsh, hso]
            refine r_istore_n d_X0_planFloors_82 (by decide) ?_
            refine r_aload_n d_X0_planFloors_83 rfl ?_
            refine r_aload_n d_X0_planFloors_84 rfl ?_
            refine r_getr d_X0_planFloors_85 f_X0_46 (tt_63 _ _) (by decide) rfl (rr_63_7 _) ?_
            refine r_getr d_X0_planFloors_88 f_X0_107 (tt_8 _ _) (by decide) rfl (rr_8_0 _) ?_
            refine r_iload_n d_X0_planFloors_91 rfl ?_
            refine r_aaldJ d_X0_planFloors_92 (tt_9 _ _) (by decide) rfl (by omega) (rr2_9 _ (by omega)) (kk := ?_)
            refine r_iconst d_X0_planFloors_93 ?_
            refine r_ialdJ (j := 0) d_X0_planFloors_94 (tt2_9 _ _ (by omega)) rfl (by omega) (kk := ?_)
            rw [e0]
            refine r_V1i d_X0_planFloors_95 (w_X0_118 _ rfl) (tt_63 _ _) rfl rfl (hc) (by decide) (Nat.le_of_ble_eq_true rfl) (fun z95 T95 I95 L95 R95 h95 => ?_)
            obtain ⟨rfl, rfl, rfl, rfl, rfl⟩ := h95
            refine r_istore d_X0_planFloors_98 (by decide) ?_
            refine r_iload d_X0_planFloors_100 rfl ?_
            refine r_iconst d_X0_planFloors_102 ?_
            refine r_icmp_eq d_X0_planFloors_103 (by omega) (by omega) (fun c103 => ?_) (fun c103 => ?_)
            · rw [if_pos c103] at hF1 hVf
              refine r_iinc d_X0_planFloors_113 rfl (by decide) ?_
              refine r_goto d_X0_planFloors_116 ?_
              first | exact CpL (ih (b + 1) (seen ||| 2 ^ f) _ _ (by omega) hsl (frb_tr hf hf2) hVf hD2 hF1) (by repeat (first | exact trivial | refine ⟨rfl, ?_⟩)) | exact CpL (ih (b + 1) (seen ||| 2 ^ f) _ _ (by omega) hsl hf hVf hD1 hF1) (by repeat (first | exact trivial | refine ⟨rfl, ?_⟩))
            · rw [if_neg c103] at hF1 hVf
              obtain ⟨w, hw⟩ : ∃ w : Nat, nearS σ ab nW f = (w : Int) := ⟨(nearS σ ab nW f).toNat, by omega⟩
              rw [hw] at hF1 hVf ⊢
              rw [Int.toNat_natCast] at hF1 hVf
              refine r_aload_n d_X0_planFloors_106 rfl ?_
              refine r_iload d_X0_planFloors_107 rfl ?_
              refine r_iload_n d_X0_planFloors_109 rfl ?_
              refine r_V2v d_X0_planFloors_110 (w_X0_100 _ rfl) (tt_63 _ _) rfl rfl (c_assign hS hK1 hV1 hD1 (by omega) hfr) (by decide) (Nat.le_of_ble_eq_true rfl) (fun T110 I110 L110 R110 h110 => ?_)
              obtain ⟨⟨rfl, hf2, rfl, rfl⟩, hD2, h72⟩ := h110
              refine r_iinc d_X0_planFloors_113 rfl (by decide) ?_
              refine r_goto d_X0_planFloors_116 ?_
              first | exact CpL (ih (b + 1) (seen ||| 2 ^ f) _ _ (by omega) hsl (frb_tr hf hf2) hVf hD2 hF1) (by repeat (first | exact trivial | refine ⟨rfl, ?_⟩)) | exact CpL (ih (b + 1) (seen ||| 2 ^ f) _ _ (by omega) hsl hf hVf hD1 hF1) (by repeat (first | exact trivial | refine ⟨rfl, ?_⟩))
          · refine r_vret d_X0_planFloors_76 rfl ?_
            rw [if_pos c73] at hF1
            exact ⟨rfl, ⟨rfl, hf, rfl, rfl⟩, by rw [hF1]; exact hD1⟩
        | succ j ihj =>
          intro r hrj
          have hr : r < nr := by omega
          have hbt := bit_tst (m := seen) (r := r) (by omega) (by omega)
          have hrg := amin_rng (fun r => !seen.testBit r) (fun r => δ1 0 r) r
          rw [← hA0] at hrg
          have eg := (hD1.1 r hr).1
          have hg := hV1.1 r hr
          refine r_iload d_X0_planFloors_20 rfl ?_
          refine r_aload_n d_X0_planFloors_22 rfl ?_
          refine r_getr d_X0_planFloors_23 f_X0_46 (tt_63 _ _) (by decide) rfl (rr_63_7 _) ?_
          refine r_geti d_X0_planFloors_26 f_X0_67 (tt_8 _ _) (by decide) (by decide) ?_
          refine r_icmp_ge d_X0_planFloors_29 (by omega) (by omega) (fun c29 => absurd c29 (by omega)) (fun c29 => ?_)
          refine r_iload_n d_X0_planFloors_32 rfl ?_
          refine r_iload d_X0_planFloors_33 rfl ?_
          refine r_ishr d_X0_planFloors_35 ?_
          refine r_iconst d_X0_planFloors_36 ?_
          refine r_iand d_X0_planFloors_37 ?_
          rw [hbt]
          refine r_if_ne d_X0_planFloors_38 (by split <;> omega) (fun c38 => ?_) (fun c38 => ?_)
          · have hn2 : (!seen.testBit r) = false := by
              cases hb : seen.testBit r with
              | true => rfl
              | false => rw [hb] at c38; simp at c38
            have hA : A (r + 1) = A r := by rw [hA0]; exact amin_no (Or.inl hn2)
            refine r_iinc d_X0_planFloors_65 rfl (by decide) ?_
            refine r_goto d_X0_planFloors_68 ?_
            exact CpL (ihj (r + 1) (by omega)) (by repeat (first | exact trivial | refine ⟨rfl, ?_⟩ | refine ⟨by rw [hA]; rfl, ?_⟩))
          · have hm : (!seen.testBit r) = true := by
              cases hb : seen.testBit r with
              | false => rfl
              | true => rw [hb] at c38; simp at c38
            refine r_iload_n d_X0_planFloors_41 rfl ?_
            refine r_iconst d_X0_planFloors_42 ?_
            refine r_icmp_eq d_X0_planFloors_43 (by omega) (by omega) (fun c43 => ?_) (fun c43 => ?_)
            · have hor : A r = -1 ∨ δ1 0 r < δ1 0 (A r).toNat := Or.inl c43
              have hA : A (r + 1) = (r : Int) := by rw [hA0] at hor ⊢; exact amin_yes hm hor
              refine r_iload d_X0_planFloors_62 rfl ?_
              refine r_istore_n d_X0_planFloors_64 (by decide) ?_
              refine r_iinc d_X0_planFloors_65 rfl (by decide) ?_
              refine r_goto d_X0_planFloors_68 ?_
              exact CpL (ihj (r + 1) (by omega)) (by repeat (first | exact trivial | refine ⟨rfl, ?_⟩ | refine ⟨by rw [hA]; rfl, ?_⟩))
            · obtain ⟨f, hfA⟩ : ∃ f : Nat, A r = (f : Int) := ⟨(A r).toNat, by omega⟩
              have eg2 := (hD1.1 f (by omega)).1
              have hg2 := hV1.1 f (by omega)
              rw [hfA]
              refine r_aload_n d_X0_planFloors_46 rfl ?_
              refine r_getr d_X0_planFloors_47 f_X0_34 (tt_63 _ _) (by decide) rfl (rr_63_8 _) ?_
              refine r_iload d_X0_planFloors_50 rfl ?_
              refine r_ialdJ d_X0_planFloors_52 (tt_73 _ _) rfl (by omega) (kk := ?_)
              refine r_aload_n d_X0_planFloors_53 rfl ?_
              refine r_getr d_X0_planFloors_54 f_X0_34 (tt_63 _ _) (by decide) rfl (rr_63_8 _) ?_
              refine r_iload_n d_X0_planFloors_57 rfl ?_
              refine r_ialdJ d_X0_planFloors_58 (tt_73 _ _) rfl (by omega) (kk := ?_)
              refine r_icmp_ge d_X0_planFloors_59 (by omega) (by omega) (fun c59 => ?_) (fun c59 => ?_)
              · have hA : A (r + 1) = (f : Int) := by
                  rw [hA0] at hfA ⊢
                  rw [amin_no (Or.inr ⟨by omega, by rw [hfA, Int.toNat_natCast]; omega⟩)]
                  exact hfA
                refine r_iinc d_X0_planFloors_65 rfl (by decide) ?_
                refine r_goto d_X0_planFloors_68 ?_
                exact CpL (ihj (r + 1) (by omega)) (by repeat (first | exact trivial | refine ⟨rfl, ?_⟩ | refine ⟨by rw [hA]; rfl, ?_⟩))
              · have hor : A r = -1 ∨ δ1 0 r < δ1 0 (A r).toNat := Or.inr (by rw [hfA, Int.toNat_natCast]; omega)
                have hA : A (r + 1) = (r : Int) := by rw [hA0] at hor ⊢; exact amin_yes hm hor
                refine r_iload d_X0_planFloors_62 rfl ?_
                refine r_istore_n d_X0_planFloors_64 (by decide) ?_
                refine r_iinc d_X0_planFloors_65 rfl (by decide) ?_
                refine r_goto d_X0_planFloors_68 ?_
                exact CpL (ihj (r + 1) (by omega)) (by repeat (first | exact trivial | refine ⟨rfl, ?_⟩ | refine ⟨by rw [hA]; rfl, ?_⟩))
      refine r_iload_n d_X0_planFloors_4 rfl ?_
      refine r_aload_n d_X0_planFloors_5 rfl ?_
      refine r_getr d_X0_planFloors_6 f_X0_46 (tt_63 _ _) (by decide) rfl (rr_63_7 _) ?_
      refine r_geti d_X0_planFloors_9 f_X0_67 (tt_8 _ _) (by decide) (by decide) ?_
      refine r_icmp_ge d_X0_planFloors_12 (by omega) (by omega) (fun c12 => absurd c12 (by omega)) (fun c12 => ?_)
      refine r_iconst d_X0_planFloors_15 ?_
      refine r_istore_n d_X0_planFloors_16 (by decide) ?_
      refine r_iconst d_X0_planFloors_17 ?_
      refine r_istore d_X0_planFloors_18 (by decide) ?_
      exact CpL (inner nr 0 (by omega)) (by repeat (first | exact trivial | refine ⟨rfl, ?_⟩ | refine ⟨by rw [hA0]; rfl, ?_⟩))
  refine r_iconst d_X0_planFloors_0 ?_
  refine r_istore_n d_X0_planFloors_1 (by decide) ?_
  refine r_iconst d_X0_planFloors_2 ?_
  refine r_istore_n d_X0_planFloors_3 (by decide) ?_
  exact CpL (outer nr 0 0 δ I (by omega) (by omega) frb_rf hV hD hF) (by repeat (first | exact trivial | refine ⟨rfl, ?_⟩))
theorem c_freeFirst (hS : SV σ ℓ nr nW) (hK : KX σ ℓ ab nr nW I) (hV : DV δ nr nW) (hD : DX δ nr nW I) {en : Nat → Bool} (hE : ∀ w, w < nW → I 72 w = if en w = true then 1 else 0) : Mc g 0 m_X0_freeFirst 0 0 [vr 63] (TT Ls tl) I L (RR tl) (qI fun z T' I' L' R' => z = ffS en δ nW ∧ same (TT Ls tl) I L (RR tl) T' I' L' R') := by
  refine Mc_of rfl (Nat.le_of_ble_eq_true rfl) ?_
  have hn := hK.2.2.2.1
  have h4 := hS.2.1
  unfold ffS
  obtain ⟨A, hA0⟩ : ∃ A : Nat → Int, A = amin (fun w => !en w) (fun w => δ 4 w) := ⟨_, rfl⟩
  rw [← hA0]
  have loop : ∀ (k b : Nat), b + k = nW → Cp g 0 m_X0_freeFirst 0 0 (qI fun z T' I' L' R' => z = A nW ∧ same (TT Ls tl) I L (RR tl) T' I' L' R') 4 [(0, vr 63), (1, vi (A b)), (2, vi (b : Int))] [] (TT Ls tl) I L (RR tl) := by
    intro k
    induction k with
    | zero =>
      intro b hbk
      refine r_iload_n d_X0_freeFirst_4 rfl ?_
      refine r_aload_n d_X0_freeFirst_5 rfl ?_
      refine r_geti d_X0_freeFirst_6 f_X0_50 (tt_63 _ _) (by decide) (by decide) ?_
      refine r_icmp_ge d_X0_freeFirst_9 (by omega) (by omega) (fun c9 => ?_) (fun c9 => absurd c9 (by omega))
      refine r_iload_n d_X0_freeFirst_49 rfl ?_
      refine r_iret d_X0_freeFirst_50 rfl ?_
      exact ⟨_, rfl, by rw [show b = nW by omega], same_rf⟩
    | succ k ih =>
      intro b hbk
      have hb : b < nW := by omega
      have e1 := (hD.2 b hb).1
      have q1 := hV.2 b hb
      have e2 := hE b hb
      have hrg := amin_rng (fun w => !en w) (fun w => δ 4 w) b
      rw [← hA0] at hrg
      refine r_iload_n d_X0_freeFirst_4 rfl ?_
      refine r_aload_n d_X0_freeFirst_5 rfl ?_
      refine r_geti d_X0_freeFirst_6 f_X0_50 (tt_63 _ _) (by decide) (by decide) ?_
      refine r_icmp_ge d_X0_freeFirst_9 (by omega) (by omega) (fun c9 => absurd c9 (by omega)) (fun c9 => ?_)
      refine r_aload_n d_X0_freeFirst_12 rfl ?_
      refine r_getr d_X0_freeFirst_13 f_X0_31 (tt_63 _ _) (by decide) rfl (rr_63_6 _) ?_
      refine r_iload_n d_X0_freeFirst_16 rfl ?_
      refine r_zaldJ d_X0_freeFirst_17 (tt_72 _ _) rfl (by omega) (kk := ?_)
      refine r_if_ne d_X0_freeFirst_18 (by rw [e2]; split <;> omega) (fun c18 => ?_) (fun c18 => ?_)
      · have hn2 : (!en b) = false := by
          cases hb : en b with
          | true => rfl
          | false => rw [e2, hb] at c18; simp at c18
        have hA : A (b + 1) = A b := by rw [hA0]; exact amin_no (Or.inl hn2)
        refine r_iinc d_X0_freeFirst_43 rfl (by decide) ?_
        refine r_goto d_X0_freeFirst_46 ?_
        exact CpL (ih (b + 1) (by omega)) (by repeat (first | exact trivial | refine ⟨rfl, ?_⟩ | refine ⟨by rw [hA]; rfl, ?_⟩))
      · have hm : (!en b) = true := by
          cases hb : en b with
          | false => rfl
          | true => rw [e2, hb] at c18; simp at c18
        refine r_iload_n d_X0_freeFirst_21 rfl ?_
        refine r_iconst d_X0_freeFirst_22 ?_
        refine r_icmp_eq d_X0_freeFirst_23 (by omega) (by omega) (fun c23 => ?_) (fun c23 => ?_)
        · have hor : A b = -1 ∨ δ 4 b < δ 4 (A b).toNat := Or.inl c23
          have hA : A (b + 1) = (b : Int) := by rw [hA0] at hor ⊢; exact amin_yes hm hor
          refine r_iload_n d_X0_freeFirst_41 rfl ?_
          refine r_istore_n d_X0_freeFirst_42 (by decide) ?_
          refine r_iinc d_X0_freeFirst_43 rfl (by decide) ?_
          refine r_goto d_X0_freeFirst_46 ?_
          exact CpL (ih (b + 1) (by omega)) (by repeat (first | exact trivial | refine ⟨rfl, ?_⟩ | refine ⟨by rw [hA]; rfl, ?_⟩))
        · obtain ⟨f, hfA⟩ : ∃ f : Nat, A b = (f : Int) := ⟨(A b).toNat, by omega⟩
          have eg2 := (hD.2 f (by omega)).1
          have hg2 := hV.2 f (by omega)
          rw [hfA]
          refine r_aload_n d_X0_freeFirst_26 rfl ?_
          refine r_getr d_X0_freeFirst_27 f_X0_24 (tt_63 _ _) (by decide) rfl (rr_63_4 _) ?_
          refine r_iload_n d_X0_freeFirst_30 rfl ?_
          refine r_ialdJ d_X0_freeFirst_31 (tt_70 _ _) rfl (by omega) (kk := ?_)
          refine r_aload_n d_X0_freeFirst_32 rfl ?_
          refine r_getr d_X0_freeFirst_33 f_X0_24 (tt_63 _ _) (by decide) rfl (rr_63_4 _) ?_
          refine r_iload_n d_X0_freeFirst_36 rfl ?_
          refine r_ialdJ d_X0_freeFirst_37 (tt_70 _ _) rfl (by omega) (kk := ?_)
          refine r_icmp_ge d_X0_freeFirst_38 (by omega) (by omega) (fun c38 => ?_) (fun c38 => ?_)
          · have hA : A (b + 1) = (f : Int) := by
              rw [hA0] at hfA ⊢
              rw [amin_no (Or.inr ⟨by omega, by rw [hfA, Int.toNat_natCast]; omega⟩)]
              exact hfA
            refine r_iinc d_X0_freeFirst_43 rfl (by decide) ?_
            refine r_goto d_X0_freeFirst_46 ?_
            exact CpL (ih (b + 1) (by omega)) (by repeat (first | exact trivial | refine ⟨rfl, ?_⟩ | refine ⟨by rw [hA]; rfl, ?_⟩))
          · have hor : A b = -1 ∨ δ 4 b < δ 4 (A b).toNat := Or.inr (by rw [hfA, Int.toNat_natCast]; omega)
            have hA : A (b + 1) = (b : Int) := by rw [hA0] at hor ⊢; exact amin_yes hm hor
            refine r_iload_n d_X0_freeFirst_41 rfl ?_
            refine r_istore_n d_X0_freeFirst_42 (by decide) ?_
            refine r_iinc d_X0_freeFirst_43 rfl (by decide) ?_
            refine r_goto d_X0_freeFirst_46 ?_
            exact CpL (ih (b + 1) (by omega)) (by repeat (first | exact trivial | refine ⟨rfl, ?_⟩ | refine ⟨by rw [hA]; rfl, ?_⟩))
  refine r_iconst d_X0_freeFirst_0 ?_
  refine r_istore_n d_X0_freeFirst_1 (by decide) ?_
  refine r_iconst d_X0_freeFirst_2 ?_
  refine r_istore_n d_X0_freeFirst_3 (by decide) ?_
  exact CpL (loop nW 0 (by omega)) (by repeat (first | exact trivial | refine ⟨rfl, ?_⟩ | refine ⟨by rw [hA0]; rfl, ?_⟩))
theorem c_nextGone (hS : SV σ ℓ nr nW) (hK : KX σ ℓ ab nr nW I) (hV : DV δ nr nW) (hD : DX δ nr nW I) {q : Int} (hq : -1 ≤ q ∧ q ≤ 268435456) : Mc g 0 m_X0_nextGone 0 0 [vr 63, vi q] (TT Ls tl) I L (RR tl) (qI fun z T' I' L' R' => z = ngS δ q nr ∧ same (TT Ls tl) I L (RR tl) T' I' L' R') := by
  refine Mc_of rfl (Nat.le_of_ble_eq_true rfl) ?_
  have hn := hK.1
  have h8 := hS.1
  have loop : ∀ (k b : Nat), b + k = nr → Cp g 0 m_X0_nextGone 0 0 (qI fun z T' I' L' R' => z = ngS δ q nr ∧ same (TT Ls tl) I L (RR tl) T' I' L' R') 4 [(0, vr 63), (1, vi q), (2, vi (ngS δ q b)), (3, vi (b : Int))] [] (TT Ls tl) I L (RR tl) := by
    intro k
    induction k with
    | zero =>
      intro b hbk
      refine r_iload_n d_X0_nextGone_4 rfl ?_
      refine r_aload_n d_X0_nextGone_5 rfl ?_
      refine r_getr d_X0_nextGone_6 f_X0_46 (tt_63 _ _) (by decide) rfl (rr_63_7 _) ?_
      refine r_geti d_X0_nextGone_9 f_X0_67 (tt_8 _ _) (by decide) (by decide) ?_
      refine r_icmp_ge d_X0_nextGone_12 (by omega) (by omega) (fun c12 => ?_) (fun c12 => absurd c12 (by omega))
      refine r_iload_n d_X0_nextGone_63 rfl ?_
      refine r_iret d_X0_nextGone_64 rfl ?_
      exact ⟨_, rfl, by rw [show b = nr by omega], same_rf⟩
    | succ k ih =>
      intro b hbk
      have hb : b < nr := by omega
      obtain ⟨e1, e2, -⟩ := hD.1 b hb
      have q1 := hV.1 b hb
      have hng := ngS_bd hV hq.1 b (by omega)
      have hst : ngS δ q (b + 1) = if δ 1 b = -1 ∧ q < δ 0 b ∧ (ngS δ q b = -1 ∨ δ 0 b < ngS δ q b) then δ 0 b else ngS δ q b := rfl
      refine r_iload_n d_X0_nextGone_4 rfl ?_
      refine r_aload_n d_X0_nextGone_5 rfl ?_
      refine r_getr d_X0_nextGone_6 f_X0_46 (tt_63 _ _) (by decide) rfl (rr_63_7 _) ?_
      refine r_geti d_X0_nextGone_9 f_X0_67 (tt_8 _ _) (by decide) (by decide) ?_
      refine r_icmp_ge d_X0_nextGone_12 (by omega) (by omega) (fun c12 => absurd c12 (by omega)) (fun c12 => ?_)
      refine r_aload_n d_X0_nextGone_15 rfl ?_
      refine r_getr d_X0_nextGone_16 f_X0_37 (tt_63 _ _) (by decide) rfl (rr_63_9 _) ?_
      refine r_iload_n d_X0_nextGone_19 rfl ?_
      refine r_ialdJ d_X0_nextGone_20 (tt_74 _ _) rfl (by omega) (kk := ?_)
      refine r_iconst d_X0_nextGone_21 ?_
      refine r_icmp_ne d_X0_nextGone_22 (by omega) (by omega) (fun c22 => ?_) (fun c22 => ?_)
      · have hA : ngS δ q (b + 1) = ngS δ q b := by rw [hst, if_neg (by omega)]
        refine r_iinc d_X0_nextGone_57 rfl (by decide) ?_
        refine r_goto d_X0_nextGone_60 ?_
        exact CpL (ih (b + 1) (by omega)) (by repeat (first | exact trivial | refine ⟨rfl, ?_⟩ | refine ⟨by rw [hA]; rfl, ?_⟩))
      · refine r_aload_n d_X0_nextGone_25 rfl ?_
        refine r_getr d_X0_nextGone_26 f_X0_34 (tt_63 _ _) (by decide) rfl (rr_63_8 _) ?_
        refine r_iload_n d_X0_nextGone_29 rfl ?_
        refine r_ialdJ d_X0_nextGone_30 (tt_73 _ _) rfl (by omega) (kk := ?_)
        refine r_iload_n d_X0_nextGone_31 rfl ?_
        refine r_icmp_le d_X0_nextGone_32 (by omega) (by omega) (fun c32 => ?_) (fun c32 => ?_)
        · have hA : ngS δ q (b + 1) = ngS δ q b := by rw [hst, if_neg (by omega)]
          refine r_iinc d_X0_nextGone_57 rfl (by decide) ?_
          refine r_goto d_X0_nextGone_60 ?_
          exact CpL (ih (b + 1) (by omega)) (by repeat (first | exact trivial | refine ⟨rfl, ?_⟩ | refine ⟨by rw [hA]; rfl, ?_⟩))
        · refine r_iload_n d_X0_nextGone_35 rfl ?_
          refine r_iconst d_X0_nextGone_36 ?_
          refine r_icmp_eq d_X0_nextGone_37 (by omega) (by omega) (fun c37 => ?_) (fun c37 => ?_)
          · have hA : ngS δ q (b + 1) = I 73 b := by rw [hst, if_pos (by omega)]; exact e1.symm
            refine r_aload_n d_X0_nextGone_50 rfl ?_
            refine r_getr d_X0_nextGone_51 f_X0_34 (tt_63 _ _) (by decide) rfl (rr_63_8 _) ?_
            refine r_iload_n d_X0_nextGone_54 rfl ?_
            refine r_ialdJ d_X0_nextGone_55 (tt_73 _ _) rfl (by omega) (kk := ?_)
            refine r_istore_n d_X0_nextGone_56 (by decide) ?_
            refine r_iinc d_X0_nextGone_57 rfl (by decide) ?_
            refine r_goto d_X0_nextGone_60 ?_
            exact CpL (ih (b + 1) (by omega)) (by repeat (first | exact trivial | refine ⟨rfl, ?_⟩ | refine ⟨by rw [hA]; rfl, ?_⟩))
          · refine r_aload_n d_X0_nextGone_40 rfl ?_
            refine r_getr d_X0_nextGone_41 f_X0_34 (tt_63 _ _) (by decide) rfl (rr_63_8 _) ?_
            refine r_iload_n d_X0_nextGone_44 rfl ?_
            refine r_ialdJ d_X0_nextGone_45 (tt_73 _ _) rfl (by omega) (kk := ?_)
            refine r_iload_n d_X0_nextGone_46 rfl ?_
            refine r_icmp_ge d_X0_nextGone_47 (by omega) (by omega) (fun c47 => ?_) (fun c47 => ?_)
            · have hA : ngS δ q (b + 1) = ngS δ q b := by rw [hst, if_neg (by omega)]
              refine r_iinc d_X0_nextGone_57 rfl (by decide) ?_
              refine r_goto d_X0_nextGone_60 ?_
              exact CpL (ih (b + 1) (by omega)) (by repeat (first | exact trivial | refine ⟨rfl, ?_⟩ | refine ⟨by rw [hA]; rfl, ?_⟩))
            · have hA : ngS δ q (b + 1) = I 73 b := by rw [hst, if_pos (by omega)]; exact e1.symm
              refine r_aload_n d_X0_nextGone_50 rfl ?_
              refine r_getr d_X0_nextGone_51 f_X0_34 (tt_63 _ _) (by decide) rfl (rr_63_8 _) ?_
              refine r_iload_n d_X0_nextGone_54 rfl ?_
              refine r_ialdJ d_X0_nextGone_55 (tt_73 _ _) rfl (by omega) (kk := ?_)
              refine r_istore_n d_X0_nextGone_56 (by decide) ?_
              refine r_iinc d_X0_nextGone_57 rfl (by decide) ?_
              refine r_goto d_X0_nextGone_60 ?_
              exact CpL (ih (b + 1) (by omega)) (by repeat (first | exact trivial | refine ⟨rfl, ?_⟩ | refine ⟨by rw [hA]; rfl, ?_⟩))
  refine r_iconst d_X0_nextGone_0 ?_
  refine r_istore_n d_X0_nextGone_1 (by decide) ?_
  refine r_iconst d_X0_nextGone_2 ?_
  refine r_istore_n d_X0_nextGone_3 (by decide) ?_
  exact CpL (loop nr 0 (by omega)) (by repeat (first | exact trivial | refine ⟨rfl, ?_⟩))
end C5
