/-! one answer alone -/
theorem cd_congr2 {σ : Sg} {W W' : Nat → Int} : ∀ n, (∀ r, r < n → σ 6 r = -1 → σ 4 r ≠ -1 → W (chn σ r) = W' (chn σ r)) → cdX σ W n = cdX σ W' n
  | 0, _ => rfl
  | n + 1, h => by
    have ih := cd_congr2 n (fun r hr => h r (by omega))
    unfold cdX
    rw [ih]
    by_cases c : σ 6 n = -1 ∧ σ 4 n ≠ -1
    · rw [h n (by omega) c.1 c.2]
    · rw [if_neg (fun q => c q.1), if_neg (fun q => c q.1)]
theorem tl_congr {σ : Sg} {nr : Nat} {W W' : Nat → Int} {t : Int} (h : ∀ way, way < 2 ^ chn σ nr → W way = W' way) : ∀ k b, tlS σ nr W t k b = tlS σ nr W' t k b
  | 0, _ => rfl
  | k + 1, b => by
    unfold tlS
    rw [wb_eq _ h, tl_congr h k (b + 1)]
section U9x
variable {σ : Sg} {ℓ : Int} {nr nw ng : Nat} {tl : List Nat} {ukd unn : Nat → Int} {utr utw : Nat → Nat → Nat} {z z' q q1 q2 : Int}
theorem rg_ok {n nr ng : Nat} {rule how guest : Int} (h : rgS n nr ng rule how guest = 0) : 0 ≤ guest ∧ guest < ng := by
  apply Classical.byContradiction
  intro hg
  unfold rgS at h
  by_cases c : (0 ≤ rule ∧ rule < n) ∧ 0 < nr ∧ ¬ (0 ≤ guest ∧ guest < ng)
  · rw [if_pos c] at h; exact absurd h (by decide)
  · rw [if_neg c] at h
    unfold rfS at h
    by_cases c1 : 0 ≤ rule ∧ rule < (n : Int)
    · rw [if_pos c1] at h
      by_cases c2 : 0 < nr
      · exact c ⟨c1, c2, hg⟩
      · rw [if_neg c2] at h; exact absurd h (by decide)
    · rw [if_neg c1] at h; exact absurd h (by decide)
theorem uDone {rule way room what : Int} (hV : MV σ ℓ nr nw ng) (h : aDone σ ℓ nr nw ng tl ukd unn utr utw rule way room what z) (h' : aDone σ ℓ nr nw ng tl ukd unn utr utw rule way room what z') : z = z' := by
  by_cases c : dfS tl.length nr (2 ^ chn σ nr) rule way room what = 0
  · obtain ⟨od, o1, o2⟩ := h.2 c
    obtain ⟨od', o1', o2'⟩ := h'.2 c
    rw [o2, o2', plan_od hV.1 hV.2.1 hV.2.2.1 o1 o1']
  · rw [h.1 c, h'.1 c]
theorem uGiven {rule way how guest what : Int} (hV : MV σ ℓ nr nw ng) (h : aGiven σ ℓ nr nw ng tl ukd unn utr utw rule way how guest what z) (h' : aGiven σ ℓ nr nw ng tl ukd unn utr utw rule way how guest what z') : z = z' := by
  by_cases c : gfS tl.length nr ng (2 ^ chn σ nr) rule way how guest what = 0
  · obtain ⟨od, cc, ro, o1, o2, o3⟩ := h.2 c
    obtain ⟨od', cc', ro', o1', o2', o3'⟩ := h'.2 c
    have hg : 0 ≤ guest ∧ guest < ng := by
      apply Classical.byContradiction
      intro hg
      unfold gfS at c
      by_cases c1 : 0 ≤ rule ∧ rule < (tl.length : Int)
      · rw [if_pos c1] at c
        by_cases c2 : 0 < nr
        · rw [if_pos c2, if_neg hg] at c; exact absurd c (by decide)
        · rw [if_neg c2] at c; exact absurd c (by decide)
      · rw [if_neg c1] at c; exact absurd c (by decide)
    obtain ⟨-, e⟩ := DC_uq hV.1 hV.2.1 hV.2.2.1 (plan_bd hV.1 (ODS_lt o1)) o1 o1' o2 o2'
    rw [o3, o3', plan_od hV.1 hV.2.1 hV.2.2.1 o1 o1', e guest.toNat (by omega)]
  · rw [h.1 c, h'.1 c]
theorem uCost {rule way how : Int} (hV : MV σ ℓ nr nw ng) (h : aCost σ ℓ nr nw ng tl ukd unn utr utw rule way how z) (h' : aCost σ ℓ nr nw ng tl ukd unn utr utw rule way how z') : z = z' := by
  by_cases c : rfS tl.length nr rule how = 0
  · by_cases c2 : 0 ≤ way ∧ way < ((2 ^ chn σ nr : Nat) : Int)
    · exact CD_uq hV.1 hV.2.1 hV.2.2.1 (h.2.2 c c2) (h'.2.2 c c2)
    · rw [h.2.1 c c2, h'.2.1 c c2]
  · rw [h.1 c, h'.1 c]
theorem uMean {rule how part : Int} (hV : MV σ ℓ nr nw ng) (h : aMean σ ℓ nr nw ng tl ukd unn utr utw rule how part z) (h' : aMean σ ℓ nr nw ng tl ukd unn utr utw rule how part z') : z = z' := by
  by_cases c : rfS tl.length nr rule how = 0
  · by_cases c2 : part = 0 ∨ part = 1
    · obtain ⟨s, o1, o2⟩ := h.2.2 c c2
      obtain ⟨s', o1', o2'⟩ := h'.2.2 c c2
      rw [o2, o2', CW_uq hV.1 hV.2.1 hV.2.2.1 o1 o1']
    · rw [h.2.1 c c2, h'.2.1 c c2]
  · rw [h.1 c, h'.1 c]
theorem uWorst {rule how what : Int} (hV : MV σ ℓ nr nw ng) (h : aWorst σ ℓ nr nw ng tl ukd unn utr utw rule how what z) (h' : aWorst σ ℓ nr nw ng tl ukd unn utr utw rule how what z') : z = z' := by
  by_cases c : rfS tl.length nr rule how = 0
  · by_cases c2 : 0 ≤ what ∧ what < 2
    · obtain ⟨C, od, o1, o2, o3⟩ := h.2.2 c c2
      obtain ⟨C', od', o1', o2', o3'⟩ := h'.2.2 c c2
      have e : wsX C (2 ^ chn σ nr) = wsX C' (2 ^ chn σ nr) := wsX_congr _ (fun i hi => by
        obtain ⟨ro, d⟩ := o2 i hi
        obtain ⟨ro', d'⟩ := o2' i hi
        exact (DC_uq hV.1 hV.2.1 hV.2.2.1 (plan_bd hV.1 (ODS_lt o1)) o1 o1' d d').1)
      rw [o3, o3', e]
    · rw [h.2.1 c c2, h'.2.1 c c2]
  · rw [h.1 c, h'.1 c]
theorem uSure {rule how guest qs part : Int} (hV : MV σ ℓ nr nw ng) (h : aSure σ ℓ nr nw ng tl ukd unn utr utw rule how guest qs part z) (h' : aSure σ ℓ nr nw ng tl ukd unn utr utw rule how guest qs part z') : z = z' := by
  by_cases c : rgS tl.length nr ng rule how guest = 0
  · by_cases c2 : (0 ≤ qs ∧ qs ≤ 44) ∧ (part = 0 ∨ part = 1)
    · obtain ⟨W, o1, o2⟩ := h.2.2 c c2
      obtain ⟨W', o1', o2'⟩ := h'.2.2 c c2
      have hg := rg_ok c
      rw [o2, o2', wb_eq _ (CH_uq hV.1 hV.2.1 hV.2.2.1 (by omega) o1 o1')]
    · rw [h.2.1 c c2, h'.2.1 c c2]
  · rw [h.1 c, h'.1 c]
theorem uTells {rule how guest t : Int} (hV : MV σ ℓ nr nw ng) (h : aTells σ ℓ nr nw ng tl ukd unn utr utw rule how guest t z) (h' : aTells σ ℓ nr nw ng tl ukd unn utr utw rule how guest t z') : z = z' := by
  by_cases c : rgS tl.length nr ng rule how guest = 0
  · by_cases c2 : 1 ≤ t ∧ t ≤ 10
    · obtain ⟨W, o1, o2⟩ := h.2.2 c c2
      obtain ⟨W', o1', o2'⟩ := h'.2.2 c c2
      have hg := rg_ok c
      rw [o2, o2', tl_congr (CH_uq hV.1 hV.2.1 hV.2.2.1 (by omega) o1 o1')]
    · rw [h.2.1 c c2, h'.2.1 c c2]
  · rw [h.1 c, h'.1 c]
theorem uRun {rule how seed what : Int} (hV : MV σ ℓ nr nw ng) (h : aRun σ ℓ nr nw ng tl ukd unn utr utw rule how seed what z) (h' : aRun σ ℓ nr nw ng tl ukd unn utr utw rule how seed what z') : z = z' := by
  by_cases c : rfS tl.length nr rule how = 0
  · by_cases c2 : 0 ≤ seed ∧ (0 ≤ what ∧ what < 3)
    · obtain ⟨a0, a2, a1⟩ := h.2.2 c c2
      obtain ⟨b0, b2, b1⟩ := h'.2.2 c c2
      rcases (show what = 0 ∨ what = 1 ∨ what = 2 by omega) with e | e | e
      · rw [a0 e, b0 e]
      · exact CD_uq hV.1 hV.2.1 hV.2.2.1 (a1 e) (b1 e)
      · rw [a2 e, b2 e]
    · rw [h.2.1 c c2, h'.2.1 c c2]
  · rw [h.1 c, h'.1 c]
theorem uBest {how i : Int} (hV : MV σ ℓ nr nw ng) (h : aBest σ ℓ nr nw ng how i q z q1) (h' : aBest σ ℓ nr nw ng how i q z' q2) : z = z' ∧ q1 = q2 := by
  by_cases c : bfS nr how i q = 0
  · obtain ⟨e1, a1, a2⟩ := h.2 c
    obtain ⟨e2, b1, b2⟩ := h'.2 c
    refine ⟨?_, by rw [e1, e2]⟩
    by_cases c2 : i < nr
    · obtain ⟨lf, x, o1, o2, o3⟩ := a2 c2
      obtain ⟨lf', x', o1', o2', o3'⟩ := b2 c2
      rw [BST_uq hV.1 hV.2.1 hV.2.2.1 o1 o1'] at o2
      rw [o3, o3', Option.some.inj (o2.symm.trans o2')]
    · rw [a1 (by omega), b1 (by omega)]
  · exact ⟨by rw [(h.1 c).1, (h'.1 c).1], by rw [(h.1 c).2, (h'.1 c).2]⟩
theorem uCall {how room part : Int} (hV : MV σ ℓ nr nw ng) (h : aCall σ ℓ nr nw ng how room part q z q1) (h' : aCall σ ℓ nr nw ng how room part q z' q2) : z = z' ∧ q1 = q2 := by
  by_cases c : cfS σ nr how room part q = 0
  · obtain ⟨e1, s, o1, o2⟩ := h.2 c
    obtain ⟨e2, s', o1', o2'⟩ := h'.2 c
    refine ⟨?_, by rw [e1, e2]⟩
    have h7 : nr < 7 := by
      apply Classical.byContradiction
      intro hn
      unfold cfS at c
      by_cases c1 : (0 ≤ room ∧ room < nr) ∧ (σ 6 room.toNat = -1 ∧ σ 4 room.toNat ≠ -1)
      · rw [if_pos c1] at c
        by_cases c2 : (how = 0 ∨ how = 1) ∧ (part = 0 ∨ part = 1)
        · rw [if_pos c2, if_neg (by omega)] at c; exact absurd c (by decide)
        · rw [if_neg c2] at c; exact absurd c (by decide)
      · rw [if_neg c1] at c; exact absurd c (by decide)
    rw [o2, o2', WRT_uq hV.1 hV.2.1 hV.2.2.1 h7 o1 o1']
  · exact ⟨by rw [(h.1 c).1, (h'.1 c).1], by rw [(h.1 c).2, (h'.1 c).2]⟩
theorem uCalled {how : Int} (hV : MV σ ℓ nr nw ng) (h : aCalled σ ℓ nr nw ng how q z q1) (h' : aCalled σ ℓ nr nw ng how q z' q2) : z = z' ∧ q1 = q2 := by
  by_cases c : dfC nr how q = 0
  · obtain ⟨e1, W, o1, o2⟩ := h.2 c
    obtain ⟨e2, W', o1', o2'⟩ := h'.2 c
    refine ⟨?_, by rw [e1, e2]⟩
    have h7 : nr < 7 := by
      apply Classical.byContradiction
      intro hn
      unfold dfC at c
      by_cases c1 : 0 < nr
      · rw [if_pos c1] at c
        by_cases c2 : how = 0 ∨ how = 1
        · rw [if_pos c2, if_neg (by omega)] at c; exact absurd c (by decide)
        · rw [if_neg c2] at c; exact absurd c (by decide)
      · rw [if_neg c1] at c; exact absurd c (by decide)
    rw [o2, o2', cd_congr2 nr (fun r hr h6 h4 => WRT_uq hV.1 hV.2.1 hV.2.2.1 h7 (o1 r hr (chn_lt σ hr h4) h6 h4) (o1' r hr (chn_lt σ hr h4) h6 h4))]
  · exact ⟨by rw [(h.1 c).1, (h'.1 c).1], by rw [(h.1 c).2, (h'.1 c).2]⟩
theorem uWhich {how : Int} (hV : MV σ ℓ nr nw ng) (h : aWhich σ ℓ nr nw ng tl ukd unn utr utw how q z q1) (h' : aWhich σ ℓ nr nw ng tl ukd unn utr utw how q z' q2) : z = z' ∧ q1 = q2 := by
  by_cases c : whF nr how q = 0
  · obtain ⟨e1, S, o1, o2⟩ := h.2 c
    obtain ⟨e2, S', o1', o2'⟩ := h'.2 c
    refine ⟨?_, by rw [e1, e2]⟩
    rw [o2, o2', wh_congr _ (fun i hi => CW_uq hV.1 hV.2.1 hV.2.2.1 (o1 i hi) (o1' i hi))]
  · exact ⟨by rw [(h.1 c).1, (h'.1 c).1], by rw [(h.1 c).2, (h'.1 c).2]⟩
theorem uMissed {rule how : Int} (hV : MV σ ℓ nr nw ng) (h : aMissed σ ℓ nr nw ng tl ukd unn utr utw rule how q z q1) (h' : aMissed σ ℓ nr nw ng tl ukd unn utr utw rule how q z' q2) : z = z' ∧ q1 = q2 := by
  by_cases c : mfS tl.length nr rule how q = 0
  · obtain ⟨e1, S, o1, o2⟩ := h.2 c
    obtain ⟨e2, S', o1', o2'⟩ := h'.2 c
    refine ⟨?_, by rw [e1, e2]⟩
    rw [o2, o2', wsX_congr _ (fun i hi => CW_uq hV.1 hV.2.1 hV.2.2.1 (o1 i hi) (o1' i hi))]
  · exact ⟨by rw [(h.1 c).1, (h'.1 c).1], by rw [(h.1 c).2, (h'.1 c).2]⟩
theorem uMore {rule how part : Int} (hV : MV σ ℓ nr nw ng) (h3 : nw ≤ 3) (h0w : 0 < nr → 0 < nw) (h : aMore σ ℓ nr nw ng tl ukd unn utr utw rule how part q z q1) (h' : aMore σ ℓ nr nw ng tl ukd unn utr utw rule how part q z' q2) : z = z' ∧ q1 = q2 := by
  by_cases c : ofS tl.length nr rule how part q = 0
  · obtain ⟨e1, s, t, o1, o2, o3⟩ := h.2 c
    obtain ⟨e2, s', t', o1', o2', o3'⟩ := h'.2 c
    refine ⟨?_, by rw [e1, e2]⟩
    have h0 : 0 < nr := by
      apply Classical.byContradiction
      intro hn
      unfold ofS at c
      by_cases c1 : 0 ≤ rule ∧ rule < (tl.length : Int)
      · rw [if_pos c1, if_neg hn] at c; exact absurd c (by decide)
      · rw [if_neg c1] at c; exact absurd c (by decide)
    have hV2 := MV_ad hV h3 (h0w h0)
    rw [o3, o3', CW_uq hV.1 hV.2.1 hV.2.2.1 o1 o1', CW_uq hV2.1 hV2.2.1 hV2.2.2.1 o2 o2']
  · exact ⟨by rw [(h.1 c).1, (h'.1 c).1], by rw [(h.1 c).2, (h'.1 c).2]⟩
theorem uDigest {pg : Nat → Int} {pl : Nat} (hV : MV σ ℓ nr nw ng) (h : aDigest σ ℓ nr nw ng tl ukd unn utr utw pg pl q z) (h' : aDigest σ ℓ nr nw ng tl ukd unn utr utw pg pl q z') : z = z' := by
  obtain ⟨c0, c1, o1, o2⟩ := h
  obtain ⟨d0, d1, o1', o2'⟩ := h'
  have e : ∀ h0 : Int, mixR (fun i => ruM nr (ukd i) (unn i) (c0 i) (c1 i)) tl.length h0 = mixR (fun i => ruM nr (ukd i) (unn i) (d0 i) (d1 i)) tl.length h0 := fun h0 => mixR_congr _ (fun i hi => by
    show ruM nr (ukd i) (unn i) (c0 i) (c1 i) = ruM nr (ukd i) (unn i) (d0 i) (d1 i)
    funext x
    unfold ruM
    by_cases c : ukd i ≠ 5 ∧ 0 < nr
    · obtain ⟨⟨r0, a0⟩, ⟨r1, a1⟩⟩ := o1 i hi c.1 c.2
      obtain ⟨⟨r0', b0⟩, ⟨r1', b1⟩⟩ := o1' i hi c.1 c.2
      have ho : ODS σ ℓ (-1) nr nw ng (ukd i) (unn i) (fun k => k) := Or.inl ⟨fun q => c.1 q.1, rfl⟩
      have hb := fun way => plan_bd (ab := -1) (ng := ng) (kd := ukd i) (tr := utr i) (tw := utw i) (tn := tl.getD i 0) (way := way) hV.1 (ODS_lt ho)
      rw [(DC_uq hV.1 hV.2.1 hV.2.2.1 (hb 0) ho ho a0 b0).1, (DC_uq hV.1 hV.2.1 hV.2.2.1 (hb 0) ho ho a1 b1).1]
    · rw [if_neg c, if_neg c])
  rw [o2, o2', e]
theorem uFault {pg : Nat → Int} {len : Nat} {D0 : Sg} {sort : Int} (h : aFault pg len D0 sort z) (h' : aFault pg len D0 sort z') : z = z' := by
  by_cases c0 : sort = 0
  · obtain ⟨p, D, o1, o2⟩ := h.2.1 c0
    obtain ⟨p', D', o1', o2'⟩ := h'.2.1 c0
    rw [o2, o2', (stp_uq o1 o1').1]
  · by_cases c1 : sort = 1
    · obtain ⟨p, D, o1, o2⟩ := h.2.2 c1
      obtain ⟨p', D', o1', o2'⟩ := h'.2.2 c1
      rw [o2, o2', (stpT_uq o1 o1').1]
    · rw [h.1 (by omega), h'.1 (by omega)]
end U9x
