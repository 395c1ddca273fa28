/-! a best order is one alone -/
theorem CS_uq {σ : Sg} {ℓ ab : Int} {nr nW ng way : Nat} {how z z' : Int} {l : List Nat} (hS : SV σ ℓ nr nW) (hg8 : ng ≤ 8) (hg : ∀ q, q < ng → GV σ q) (hl : ∀ x ∈ l, x < nr) (h : CS σ nr ng (lofS σ ℓ ab nW l (opS σ way) 3) how z) (h' : CS σ nr ng (lofS σ ℓ ab nW l (opS σ way) 3) how z') : z = z' := by
  obtain ⟨ro, h⟩ := h
  obtain ⟨ro', h'⟩ := h'
  have hDV := DV_lof (ab := ab) hS l (opS σ way) (DV_op hS) hl
  exact (GVX_uq hS.1 hg8 (fun r hr => (hDV.1 r hr).2.2.2) hg h h').1
theorem sm_uq {σ : Sg} {ℓ ab : Int} {nr nW ng : Nat} {how : Int} {I0 I1 : sI} (hS : SV σ ℓ nr nW) (hg8 : ng ≤ 8) (hg : ∀ q, q < ng → GV σ q) (h0 : WX σ ℓ ab nr nW ng how (2 ^ chn σ nr) I0) (h1 : WX σ ℓ ab nr nW ng how (2 ^ chn σ nr) I1) {i mask bits : Nat} (hi : i < (ODR nr).length) : smS I0 mask bits i (2 ^ chn σ nr) = smS I1 mask bits i (2 ^ chn σ nr) := by
  unfold smS
  refine sumN_eq _ (fun w hw => ?_)
  obtain ⟨a1, a2⟩ := h0 w hw
  obtain ⟨b1, b2⟩ := h1 w hw
  show (if w &&& mask = bits ∧ 0 < I0 132 w then I0 132 w * I0 (124 + w) i else 0) = (if w &&& mask = bits ∧ 0 < I1 132 w then I1 132 w * I1 (124 + w) i else 0)
  rw [a1, b1]
  by_cases hp : 0 < wtX σ w nr
  · obtain ⟨m1, m2⟩ := ODR_get hi
    rw [CS_uq hS hg8 hg (fun x hx => dfs_mem nr _ _ m1 x hx) (a2 hp i _ m2) (b2 hp i _ m2)]
  · rw [if_neg (fun p => hp p.2), if_neg (fun p => hp p.2)]
theorem BST_uq {σ : Sg} {ℓ ab : Int} {nr nW ng : Nat} {how : Int} {lf lf' : List Nat} (hS : SV σ ℓ nr nW) (hg8 : ng ≤ 8) (hg : ∀ q, q < ng → GV σ q) (h : BST σ ℓ ab nr nW ng how lf) (h' : BST σ ℓ ab nr nW ng how lf') : lf = lf' := by
  obtain ⟨I0, a1, a2⟩ := h
  obtain ⟨I1, b1, b2⟩ := h'
  have e : lsS I0 0 0 (2 ^ chn σ nr) (ODR nr).length = lsS I1 0 0 (2 ^ chn σ nr) (ODR nr).length := by
    unfold lsS
    exact amin_ext (fun i hi => sm_uq hS hg8 hg a1 b1 hi)
  rw [e, b2] at a2
  exact (Option.some.inj a2).symm
theorem lst_od {σ : Sg} {ℓ ab : Int} {nW : Nat} {od od' : Nat → Nat} {δ : Sg} : ∀ n, (∀ k, k < n → od k = od' k) → lstS σ ℓ ab nW od n δ = lstS σ ℓ ab nW od' n δ
  | 0, _ => rfl
  | n + 1, h => by
    show loneS σ ℓ ab nW (lstS σ ℓ ab nW od n δ) (od n) = loneS σ ℓ ab nW (lstS σ ℓ ab nW od' n δ) (od' n)
    rw [lst_od n (fun k hk => h k (by omega)), h n (by omega)]
theorem plan_od {σ : Sg} {ℓ ab : Int} {nr nW ng : Nat} {kd nn : Int} {od od' tr tw : Nat → Nat} {tn : Nat} (hS : SV σ ℓ nr nW) (hg8 : ng ≤ 8) (hg : ∀ q, q < ng → GV σ q) (h : ODS σ ℓ ab nr nW ng kd nn od) (h' : ODS σ ℓ ab nr nW ng kd nn od') (pm : Nat → Int) (way : Nat) : planX σ ℓ ab pm nr nW kd od tr tw tn way = planX σ ℓ ab pm nr nW kd od' tr tw tn way := by
  have e : ∀ k, k < nr → od k = od' k := by
    rcases h with ⟨a1, rfl⟩ | ⟨a1, lf, a2, a3⟩
    · rcases h' with ⟨b1, rfl⟩ | ⟨b1, -⟩
      · exact fun _ _ => rfl
      · exact absurd b1 a1
    · rcases h' with ⟨b1, -⟩ | ⟨b1, lf', b2, b3⟩
      · exact absurd a1 b1
      · intro k hk
        have e := BST_uq hS hg8 hg a2 b2
        have h1 := a3 k hk
        rw [e, b3 k hk] at h1
        exact (Option.some.inj h1).symm
  unfold planX
  rw [lst_od nr e]
theorem DC_uq {σ : Sg} {ℓ ab : Int} {nr nW ng : Nat} {kd nn : Int} {od od' tr tw : Nat → Nat} {tn way : Nat} {how z z' : Int} {ro ro' : Nat → Int} (hS : SV σ ℓ nr nW) (hg8 : ng ≤ 8) (hg : ∀ q, q < ng → GV σ q) (hb : ∀ r, r < nr → -1 ≤ planX σ ℓ ab (fun r => pmS σ r ng) nr nW kd od tr tw tn way 3 r ∧ planX σ ℓ ab (fun r => pmS σ r ng) nr nW kd od tr tw tn way 3 r ≤ 44) (h : ODS σ ℓ ab nr nW ng kd nn od) (h' : ODS σ ℓ ab nr nW ng kd nn od') (d : DC σ ℓ ab nr nW ng kd od tr tw tn way how z ro) (d' : DC σ ℓ ab nr nW ng kd od' tr tw tn way how z' ro') : z = z' ∧ ∀ q, q < ng → ro q = ro' q := by
  unfold DC at d d'
  rw [← plan_od hS hg8 hg h h'] at d'
  exact GVX_uq hS.1 hg8 hb hg d d'
