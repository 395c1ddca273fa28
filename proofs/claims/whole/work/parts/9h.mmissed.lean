theorem KNM_zero {σ : Sg} {ℓ ab : Int} {nr nW ng : Nat} {I : sI} (h0 : I 173 0 = 0) (h1 : I 173 1 = 0) : KNM σ ℓ ab nr nW ng I := fun hw hh => by
  rcases (show hw = 0 ∨ hw = 1 by omega) with rfl | rfl
  · exact Or.inl h0
  · exact Or.inl h1
section X9h
variable {g : sG} {Ls : Nat} {T : sT} {R : sR} {I L : sI} {σ δ : Sg} {ℓ ab : Int} {nr nw nW ng : Nat} {tl : List Nat} {ukd unn : Nat → Int} {utr utw : Nat → Nat → Nat}
theorem chg_fm : FM I (up2 (up2 I 173 0 0) 173 1 0) ∧ (up2 (up2 I 173 0 0) 173 1 0) 173 0 = 0 ∧ (up2 (up2 I 173 0 0) 173 1 0) 173 1 = 0 := ⟨⟨fun a h1 h2 => by rw [up2_ne _ _ (by omega), up2_ne _ _ (by omega)], fun k _ => by rw [up2_ne _ _ (by decide), up2_ne _ _ (by decide)]⟩, by rw [up2_nj _ _ (by decide), up2_at], by rw [up2_at]⟩
theorem x_sumAnew (hV : MV σ ℓ nr nW ng) (hcan : CAN σ nr) (hA : ARS σ ng) (hab : -1 ≤ ab ∧ ab ≤ 100) (hX : MX σ nr nW ng I) (hK : MK ℓ ab nW I) (hR : RXM tl ukd unn utr utw I) {q : Nat} (hq : q < tl.length) (h0 : 0 < nr) {how : Int} (hh : how = 0 ∨ how = 1) : Mc g 12 m_X8_sumAnew 0 0 [vr 139, vi (q : Int), vi how] (TT Ls tl) I L (RR tl) (qI fun z T' I' L' R' => T' = TT Ls tl ∧ R' = RR tl ∧ L' = L ∧ FM I I' ∧ (I' 173 0 = 0 ∧ I' 173 1 = 0) ∧ (0 ≤ z ∧ z ≤ 32000000) ∧ CW σ ℓ ab nr nW ng (ukd q) (unn q) (utr q) (utw q) (tl.getD q 0) how z) := by
  refine Mc_of rfl (Nat.le_of_ble_eq_true rfl) ?_
  obtain ⟨c1, c2, c3⟩ := chg_fm (I := I)
  have hM : MB σ ℓ ab nr nW ng tl ukd unn utr utw (up2 (up2 I 173 0 0) 173 1 0) := ⟨hV, hcan, hA, hab, MX_fm hX c1, MK_fm hK c1, KNM_zero c2 c3, RXM_fm hR c1⟩
  refine r_aload_n d_X8_sumAnew_0 rfl ?_
  refine r_V0v d_X8_sumAnew_1 (w_X8_244 _ rfl) (tt_139 _ _) rfl rfl (x_change) (by decide) (Nat.le_of_ble_eq_true rfl) (fun T1 I1 L1 R1 h1 => ?_)
  obtain ⟨rfl, rfl, rfl, rfl⟩ := h1
  refine r_aload_n d_X8_sumAnew_4 rfl ?_
  refine r_iload_n d_X8_sumAnew_5 rfl ?_
  refine r_iload_n d_X8_sumAnew_6 rfl ?_
  refine r_V2i d_X8_sumAnew_7 (w_X8_412 _ rfl) (tt_139 _ _) rfl rfl (x_sumBy hM hq h0 hh) (by decide) (Nat.le_of_ble_eq_true rfl) (fun z7 T7 I7 L7 R7 h7 => ?_)
  obtain ⟨rfl, rfl, rfl, y1, y2, y3, y4⟩ := h7
  refine r_istore_n d_X8_sumAnew_10 (by decide) ?_
  refine r_aload_n d_X8_sumAnew_11 rfl ?_
  refine r_V0v d_X8_sumAnew_12 (w_X8_244 _ rfl) (tt_139 _ _) rfl rfl (x_change) (by decide) (Nat.le_of_ble_eq_true rfl) (fun T12 I12 L12 R12 h12 => ?_)
  obtain ⟨rfl, rfl, rfl, rfl⟩ := h12
  refine r_iload_n d_X8_sumAnew_15 rfl ?_
  refine r_iret d_X8_sumAnew_16 rfl ?_
  obtain ⟨d1, d2, d3⟩ := chg_fm (I := I7)
  exact ⟨_, rfl, rfl, rfl, rfl, FM_tr c1 (FM_tr y1 d1), ⟨d2, d3⟩, y3, y4⟩
def mmS (S : Nat → Int) (n : Nat) : Int := if n = 0 then 0 else (wsX S n).2
theorem wsX_rg9 {C : Nat → Int} : ∀ n, (∀ w, w < n → 0 ≤ C w ∧ C w ≤ 32000000) → -1 ≤ (wsX C n).2 ∧ (wsX C n).2 ≤ 32000000
  | 0, _ => by show (-1 : Int) ≤ -1 ∧ (-1 : Int) ≤ 32000000; omega
  | n + 1, h => by
    have ih := wsX_rg9 n (fun w hw => h w (by omega))
    have := h n (by omega)
    show -1 ≤ (if (wsX C n).2 < C n then (n, C n) else wsX C n).2 ∧ (if (wsX C n).2 < C n then (n, C n) else wsX C n).2 ≤ 32000000
    split
    · show -1 ≤ C n ∧ C n ≤ 32000000; omega
    · exact ih
theorem CWA_ex {σ : Sg} {ℓ : Int} {nr nW ng : Nat} {kd nn : Int} {tr tw : Nat → Nat} {tn : Nat} {how : Int} (hS : SV σ ℓ nr nW) (hg8 : ng ≤ 8) (hg : ∀ q, q < ng → GV σ q) : ∃ S : Nat → Int, ∀ (w : Nat) z, CW σ ℓ (w : Int) nr nW ng kd nn tr tw tn how z → z = S w := by
  have h : ∀ w : Nat, ∃ c : Int, ∀ z, CW σ ℓ (w : Int) nr nW ng kd nn tr tw tn how z → z = c := fun w => by
    by_cases hx : ∃ z, CW σ ℓ (w : Int) nr nW ng kd nn tr tw tn how z
    · obtain ⟨c, hc⟩ := hx
      exact ⟨c, fun z hz => CW_uq hS hg8 hg hz hc⟩
    · exact ⟨0, fun z hz => absurd ⟨z, hz⟩ hx⟩
  exact Classical.axiomOfChoice h
end X9h
