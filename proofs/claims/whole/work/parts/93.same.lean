/-! ways that tell the same cost the same; sums over the reference's weights -/
theorem GVX_nn {σ : Sg} {nr ng : Nat} {rd : Nat → Int} {how z : Int} {ro : Nat → Int} (h8 : nr ≤ 8) (hg8 : ng ≤ 8) (hrd : ∀ r, r < nr → -1 ≤ rd r ∧ rd r ≤ 44) (hg : ∀ q, q < ng → GV σ q) (h : GVX σ nr ng rd how z ro) : 0 ≤ z := by
  rcases h with ⟨-, ar, a1, -, rfl, -⟩ | ⟨-, a, a1, rfl, -⟩
  · exact (asS_bd (nr := nr) hg hrd a1 ng (Nat.le_refl _)).1
  · have hA := cut_glb (σ := σ) rfl a1.1
    have ra := rnk_bd (b := cutB σ a) ng 0 (by omega) (fun q _ h => GLB_rg h8 hA q (by omega))
    have e98 : (9 : Int) ^ (8 - 0) = 43046721 := by decide
    rw [e98] at ra
    have hs : 0 ≤ sumN (fun q => cstS σ rd q (cutB σ a q)) ng := sumN_nonneg ng (fun q hq => by
      refine (cst_bd (hg q hq) ?_).2.1
      rcases hA.1 q hq with e | ⟨r, e, hr, -⟩
      · exact Or.inl e
      · rw [e]; exact Or.inr (hrd r hr))
    rw [gain_cut rfl hrd a1.1, gv_split, rnk_sum]
    generalize sumN (fun q => cstS σ rd q (cutB σ a q)) ng = X at *
    generalize rnkF (cutB σ a) ng 0 = Y at *
    generalize bareS σ ng = B at *
    omega
theorem plan_same {σ : Sg} {ℓ ab : Int} {nr nW : Nat} {kd : Int} {od tr tw : Nat → Nat} {tn a b : Nat} {pm : Nat → Int} (hc : CAN σ nr) (h : SMW σ nr a b) : planX σ ℓ ab pm nr nW kd od tr tw tn a = planX σ ℓ ab pm nr nW kd od tr tw tn b := by
  unfold planX
  rw [op_can hc h]
theorem DC_same {σ : Sg} {ℓ ab : Int} {nr nW ng : Nat} {kd : Int} {od tr tw : Nat → Nat} {tn a b : Nat} {how z : Int} {ro : Nat → Int} (hc : CAN σ nr) (h : SMW σ nr a b) (d : DC σ ℓ ab nr nW ng kd od tr tw tn a how z ro) : DC σ ℓ ab nr nW ng kd od tr tw tn b how z ro := by
  unfold DC at d ⊢
  rw [← plan_same hc h]; exact d
theorem plan_bd {σ : Sg} {ℓ ab : Int} {nr nW ng : Nat} {kd : Int} {od tr tw : Nat → Nat} {tn way : Nat} (hS : SV σ ℓ nr nW) (ho : ∀ k, k < nr → od k < nr) : ∀ r, r < nr → -1 ≤ planX σ ℓ ab (fun r => pmS σ r ng) nr nW kd od tr tw tn way 3 r ∧ planX σ ℓ ab (fun r => pmS σ r ng) nr nW kd od tr tw tn way 3 r ≤ 44 := fun r hr => ((DV_plan hS ho).1 r hr).2.2.2
theorem ODS_lt9 {σ : Sg} {ℓ ab : Int} {nr nW ng : Nat} {kd nn : Int} {od : Nat → Nat} (h : ODS σ ℓ ab nr nW ng kd nn od) : ∀ k, k < nr → od k < nr := by
  rcases h with ⟨-, rfl⟩ | ⟨-, lf, ⟨I0, -, h2⟩, h3⟩
  · exact fun k hk => hk
  · exact fun k hk => dfs_mem nr _ lf (List.mem_of_getElem? h2) _ (List.mem_of_getElem? (h3 k hk))
/-- each way's cost, at one order -/
def DCA (σ : Sg) (ℓ ab : Int) (nr nW ng : Nat) (kd nn : Int) (tr tw : Nat → Nat) (tn : Nat) (how : Int) (C : Nat → Int) (n : Nat) : Prop := ∀ way, way < n → ∃ od ro, ODS σ ℓ ab nr nW ng kd nn od ∧ DC σ ℓ ab nr nW ng kd od tr tw tn way how (C way) ro
theorem DCA_od {σ : Sg} {ℓ ab : Int} {nr nW ng : Nat} {kd nn : Int} {tr tw : Nat → Nat} {tn n : Nat} {how : Int} {C : Nat → Int} (hS : SV σ ℓ nr nW) (hg8 : ng ≤ 8) (hg : ∀ q, q < ng → GV σ q) (h : DCA σ ℓ ab nr nW ng kd nn tr tw tn how C n) (hn : 0 < n) : ∃ od, ODS σ ℓ ab nr nW ng kd nn od ∧ ∀ way, way < n → ∃ ro, DC σ ℓ ab nr nW ng kd od tr tw tn way how (C way) ro := by
  obtain ⟨od, ro, h1, h2⟩ := h 0 hn
  refine ⟨od, h1, fun way hw => ?_⟩
  obtain ⟨od', ro', h3, h4⟩ := h way hw
  refine ⟨ro', ?_⟩
  unfold DC at h4 ⊢
  rw [plan_od hS hg8 hg h1 h3]; exact h4
theorem CW_of {σ : Sg} {ℓ ab : Int} {nr nW ng : Nat} {kd nn : Int} {tr tw : Nat → Nat} {tn : Nat} {how : Int} {C : Nat → Int} (hS : SV σ ℓ nr nW) (hc : CAN σ nr) (hg8 : ng ≤ 8) (hg : ∀ q, q < ng → GV σ q) (h : DCA σ ℓ ab nr nW ng kd nn tr tw tn how C (2 ^ chn σ nr)) : CW σ ℓ ab nr nW ng kd nn tr tw tn how (sumN (fun w => wtM σ w nr * C w) (2 ^ chn σ nr)) := by
  obtain ⟨od, h1, h2⟩ := DCA_od hS hg8 hg h (Nat.two_pow_pos _)
  refine ⟨od, C, h1, fun way hw _ => h2 way hw, ?_⟩
  rw [w_pos hS.2.2.1]
  refine w_eq nr C (fun a b ha hb hs => ?_)
  obtain ⟨ro, d⟩ := h2 a ha
  obtain ⟨ro', d'⟩ := h2 b hb
  exact (DC_uq hS hg8 hg (plan_bd hS (ODS_lt9 h1)) h1 h1 (DC_same hc hs d) d').1
theorem CW_uq {σ : Sg} {ℓ ab : Int} {nr nW ng : Nat} {kd nn : Int} {tr tw : Nat → Nat} {tn : Nat} {how z z' : Int} (hS : SV σ ℓ nr nW) (hg8 : ng ≤ 8) (hg : ∀ q, q < ng → GV σ q) (h : CW σ ℓ ab nr nW ng kd nn tr tw tn how z) (h' : CW σ ℓ ab nr nW ng kd nn tr tw tn how z') : z = z' := by
  obtain ⟨od, C, a1, a2, a3⟩ := h
  obtain ⟨od', C', b1, b2, b3⟩ := h'
  rw [a3, b3]
  refine sumN_eq _ (fun w hw => ?_)
  show (if 0 < wtX σ w nr then wtX σ w nr * C w else 0) = (if 0 < wtX σ w nr then wtX σ w nr * C' w else 0)
  by_cases hp : 0 < wtX σ w nr
  · obtain ⟨ro, d⟩ := a2 w hw hp
    obtain ⟨ro', d'⟩ := b2 w hw hp
    rw [(DC_uq hS hg8 hg (plan_bd hS (ODS_lt9 a1)) a1 b1 d d').1]
  · rw [if_neg hp, if_neg hp]
theorem CD_uq {σ : Sg} {ℓ ab : Int} {nr nW ng : Nat} {kd nn : Int} {tr tw : Nat → Nat} {tn way : Nat} {how z z' : Int} (hS : SV σ ℓ nr nW) (hg8 : ng ≤ 8) (hg : ∀ q, q < ng → GV σ q) (h : CD σ ℓ ab nr nW ng kd nn tr tw tn way how z) (h' : CD σ ℓ ab nr nW ng kd nn tr tw tn way how z') : z = z' := by
  obtain ⟨od, ro, a1, a2⟩ := h
  obtain ⟨od', ro', b1, b2⟩ := h'
  exact (DC_uq hS hg8 hg (plan_bd hS (ODS_lt9 a1)) a1 b1 a2 b2).1
theorem WT_uq {σ : Sg} {ℓ ab : Int} {nr nW ng : Nat} {kd nn : Int} {od od' tr tw : Nat → Nat} {tn a b : Nat} {how : Int} {q : Nat} {x y : Int} (hS : SV σ ℓ nr nW) (hg8 : ng ≤ 8) (hg : ∀ q, q < ng → GV σ q) (hq : q < ng) (h : ODS σ ℓ ab nr nW ng kd nn od) (h' : ODS σ ℓ ab nr nW ng kd nn od') (e : planX σ ℓ ab (fun r => pmS σ r ng) nr nW kd od tr tw tn a = planX σ ℓ ab (fun r => pmS σ r ng) nr nW kd od tr tw tn b) (d : WT σ ℓ ab nr nW ng kd od tr tw tn how q a x) (d' : WT σ ℓ ab nr nW ng kd od' tr tw tn how q b y) : x = y := by
  obtain ⟨z, ro, d1, d2, -⟩ := d
  obtain ⟨z', ro', e1, e2, -⟩ := d'
  have d3 : DC σ ℓ ab nr nW ng kd od tr tw tn b how z ro := by unfold DC at d1 ⊢; rw [← e]; exact d1
  have := (DC_uq hS hg8 hg (plan_bd hS (ODS_lt9 h)) h h' d3 e1).2 q hq
  rw [d2, e2, this, e, plan_od hS hg8 hg h h']
theorem CH_uq {σ : Sg} {ℓ ab : Int} {nr nW ng : Nat} {kd nn : Int} {tr tw : Nat → Nat} {tn : Nat} {how : Int} {q : Nat} {W W' : Nat → Int} (hS : SV σ ℓ nr nW) (hg8 : ng ≤ 8) (hg : ∀ q, q < ng → GV σ q) (hq : q < ng) (h : CH σ ℓ ab nr nW ng kd nn tr tw tn how q W) (h' : CH σ ℓ ab nr nW ng kd nn tr tw tn how q W') : ∀ way, way < 2 ^ chn σ nr → W way = W' way := by
  obtain ⟨od, a1, a2⟩ := h
  obtain ⟨od', b1, b2⟩ := h'
  exact fun way hw => WT_uq hS hg8 hg hq a1 b1 rfl (a2 way hw) (b2 way hw)
theorem wb_eq {σ : Sg} {nr : Nat} {W W' : Nat → Int} {qs : Int} : ∀ n, (∀ way, way < n → W way = W' way) → wbS σ nr W qs n = wbS σ nr W' qs n := fun n h => by
  unfold wbS
  exact sumN_eq n (fun w hw => by rw [h w hw])
theorem wb_of {σ : Sg} {ℓ ab : Int} {nr nW ng : Nat} {kd nn : Int} {tr tw : Nat → Nat} {tn : Nat} {how : Int} {q : Nat} {W : Nat → Int} (hS : SV σ ℓ nr nW) (hc : CAN σ nr) (hg8 : ng ≤ 8) (hg : ∀ q, q < ng → GV σ q) (hq : q < ng) (h : CH σ ℓ ab nr nW ng kd nn tr tw tn how q W) (qs : Int) : sumN (fun w => if W w ≤ qs then wtM σ w nr else 0) (2 ^ chn σ nr) = wbS σ nr W qs (2 ^ chn σ nr) := by
  obtain ⟨od, a1, a2⟩ := h
  have e := w_eq (σ := σ) nr (fun w => if W w ≤ qs then 1 else 0) (fun a b ha hb hs => by
    show (if W a ≤ qs then (1 : Int) else 0) = (if W b ≤ qs then (1 : Int) else 0)
    rw [WT_uq hS hg8 hg hq a1 a1 (plan_same hc hs) (a2 a ha) (a2 b hb)])
  have f : ∀ (v : Nat → Int) (n : Nat), sumN (fun w => v w * (if W w ≤ qs then 1 else 0)) n = sumN (fun w => if W w ≤ qs then v w else 0) n := fun v n => sumN_eq n (fun w _ => by
    show v w * (if W w ≤ qs then 1 else 0) = (if W w ≤ qs then v w else 0)
    split
    · rw [Int.mul_one]
    · rw [Int.mul_zero])
  rw [f, f] at e
  exact e
