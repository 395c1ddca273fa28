/-! the law: one call of each side, case by case -/
/-- what is carried beside the two houses -/
def RST (A0 : Nat → Int) (pg : Nat → Int) (len : Nat) (q kept ℓi : Int) (xi : Nat → Int) (nr n : Nat) (I : sI) : Prop := I 0 = A0 ∧ PGL pg len I ∧ PGM pg len I ∧ (I 3 12 = q ∧ I 139 25 = q ∧ 0 ≤ q ∧ q ≤ 16) ∧ (I 3 11 = kept ∧ (kept = 0 ∨ kept = 1) ∧ (I 139 26 = 0 ∨ I 139 26 = 1) ∧ (0 ≤ I 139 27 ∧ I 139 27 ≤ I 139 18) ∧ I 139 18 ≤ (n : Int) ∧ (kept = 0 ↔ ¬ (I 139 26 = 1 ∧ I 139 27 = I 139 18)) ∧ (kept ≠ 0 → I 3 10 = ℓi ∧ I 139 28 = ℓi ∧ (1 ≤ ℓi ∧ ℓi ≤ 6) ∧ (∀ r, r < nr → I 138 r = xi r ∧ I 158 r = xi r ∧ -1 ≤ xi r ∧ xi r ≤ 44) ∧ ∀ r, nr ≤ r → xi r = -1))
/-- both sides hold the same house, between calls -/
def LW (A0 pg : Nat → Int) (len : Nat) (q kept ℓi : Int) (xi : Nat → Int) (n : Nat) (σ : Sg) (ℓ : Int) (nr nw ng : Nat) (tl : List Nat) (ukd unn : Nat → Int) (utr utw : Nat → Nat → Nat) (I L : sI) : Prop := XS σ ℓ nr nw ng tl ukd unn utr utw I L ∧ MS σ ℓ nr nw ng tl ukd unn utr utw I ∧ (0 < nr → 0 < nw) ∧ RST A0 pg len q kept ℓi xi nr n I
/-- the law goes on behind a call -/
def KON (g : sG) (Ls : Nat) (A0 : Nat → Int) (Q : sQ) (i u : Nat) (pg : Nat → Int) (len mc ms : Nat) : Prop := ∀ (q kept ℓi : Int) (xi : Nat → Int) (σ : Sg) (ℓ : Int) (nr nw ng : Nat) (tl : List Nat) (ukd unn : Nat → Int) (utr utw : Nat → Nat → Nat) (I L : sI), tl.length = u → LW A0 pg len q kept ℓi xi (i + 6) σ ℓ nr nw ng tl ukd unn utr utw I L → Cp g 14 m_L_law mc ms Q 1216 [(0, vr 0), (1, vr 3), (2, vr 139), (3, vi (i : Int))] [] (TT Ls tl) I L (RR tl)
theorem uLate {σ : Sg} {ℓ : Int} {nr : Nat} {room quarter z z' : Int} {x x' : Nat → Int} {l l' : Int} (h : aLate σ ℓ nr room quarter z x l) (h' : aLate σ ℓ nr room quarter z' x' l') : z = z' ∧ x = x' ∧ l = l' := ⟨by rw [h.2.1, h'.2.1], by rw [h.2.2, h'.2.2], by rw [h.1, h'.1]⟩
theorem uLift {σ : Sg} {ℓ fl z z' : Int} {x x' : Nat → Int} {l l' : Int} (h : aLift σ ℓ fl z x l) (h' : aLift σ ℓ fl z' x' l') : z = z' ∧ x = x' ∧ l = l' := ⟨by rw [h.2.1, h'.2.1], by rw [h.1, h'.1], by rw [h.2.2, h'.2.2]⟩
theorem uRestore {σ : Sg} {ℓ : Int} {nr : Nat} {kept ℓi z z' : Int} {xi x x' : Nat → Int} {l l' : Int} (h : aRestore σ ℓ nr kept xi ℓi z x l) (h' : aRestore σ ℓ nr kept xi ℓi z' x' l') : z = z' ∧ x = x' ∧ l = l' := by
  by_cases c : kept = 0
  · obtain ⟨a1, a2, a3⟩ := h.1 c
    obtain ⟨b1, b2, b3⟩ := h'.1 c
    exact ⟨by rw [a1, b1], by rw [a2, b2], by rw [a3, b3]⟩
  · obtain ⟨a1, a2, a3⟩ := h.2 c
    obtain ⟨b1, b2, b3⟩ := h'.2 c
    exact ⟨by rw [a1, b1], by rw [a2, b2], by rw [a3, b3]⟩
theorem RST_fr {A0 pg : Nat → Int} {len : Nat} {q kept ℓi q' : Int} {xi : Nat → Int} {nr n n' : Nat} {I I' : sI} (h : RST A0 pg len q kept ℓi xi nr n I) (f0 : I' 0 = I 0) (f3 : ∀ k, (k = 10 ∨ k = 11) → I' 3 k = I 3 k) (f4 : I' 4 1 = I 4 1) (f5 : I' 5 = I 5) (f138 : I' 138 = I 138) (fm : ∀ k, (k = 18 ∨ k = 23 ∨ k = 26 ∨ k = 27 ∨ k = 28) → I' 139 k = I 139 k) (f157 : I' 157 = I 157) (f158 : I' 158 = I 158) (hq : I' 3 12 = q' ∧ I' 139 25 = q' ∧ 0 ≤ q' ∧ q' ≤ 16) (hn : n ≤ n') : RST A0 pg len q' kept ℓi xi nr n' I' := by
  obtain ⟨a0, ⟨a1, a2, a3⟩, ⟨b1, b2, b3⟩, -, d1, d2, d3, d4, d5, d6, d7⟩ := h
  refine ⟨by rw [f0]; exact a0, ⟨by rw [f4]; exact a1, a2, fun j hj => by rw [f5]; exact a3 j hj⟩, ⟨by rw [fm 23 (by omega)]; exact b1, b2, fun j hj => by rw [f157]; exact b3 j hj⟩, hq, by rw [f3 11 (by omega)]; exact d1, d2, by rw [fm 26 (by omega)]; exact d3, by rw [fm 27 (by omega), fm 18 (by omega)]; exact d4, by rw [fm 18 (by omega)]; omega, by rw [fm 26 (by omega), fm 27 (by omega), fm 18 (by omega)]; exact d6, fun hk => ?_⟩
  obtain ⟨e1, e2, e3, e4, e5⟩ := d7 hk
  exact ⟨by rw [f3 10 (by omega)]; exact e1, by rw [fm 28 (by omega)]; exact e2, e3, fun r hr => by rw [f138, f158]; exact e4 r hr, e5⟩
theorem RST_pg {A0 pg pg' : Nat → Int} {len len' : Nat} {q kept ℓi : Int} {xi : Nat → Int} {nr n n' : Nat} {I I' : sI} (h : RST A0 pg len q kept ℓi xi nr n I) (hL : PGL pg' len' I') (hM : PGM pg' len' I') (f0 : I' 0 = I 0) (f3 : ∀ k, (k = 10 ∨ k = 11 ∨ k = 12) → I' 3 k = I 3 k) (f138 : I' 138 = I 138) (fm : ∀ k, (k = 18 ∨ k = 25 ∨ k = 26 ∨ k = 27 ∨ k = 28) → I' 139 k = I 139 k) (f158 : I' 158 = I 158) (hn : n ≤ n') : RST A0 pg' len' q kept ℓi xi nr n' I' := by
  obtain ⟨a0, -, -, ⟨c1, c2, c3⟩, d1, d2, d3, d4, d5, d6, d7⟩ := h
  refine ⟨by rw [f0]; exact a0, hL, hM, ⟨by rw [f3 12 (by omega)]; exact c1, by rw [fm 25 (by omega)]; exact c2, c3⟩, by rw [f3 11 (by omega)]; exact d1, d2, by rw [fm 26 (by omega)]; exact d3, by rw [fm 27 (by omega), fm 18 (by omega)]; exact d4, by rw [fm 18 (by omega)]; omega, by rw [fm 26 (by omega), fm 27 (by omega), fm 18 (by omega)]; exact d6, fun hk => ?_⟩
  obtain ⟨e1, e2, e3, e4, e5⟩ := d7 hk
  exact ⟨by rw [f3 10 (by omega)]; exact e1, by rw [fm 28 (by omega)]; exact e2, e3, fun r hr => by rw [f138, f158]; exact e4 r hr, e5⟩
section L9z
variable {g : sG} {Ls i u mc ms len nr nw ng : Nat} {A0 pg xi : Nat → Int} {Q : sQ} {q kept ℓi ℓ : Int} {σ : Sg} {tl : List Nat} {ukd unn : Nat → Int} {utr utw : Nat → Nat → Nat} {I L : sI}
theorem law_13 (hi : i + 6 ≤ Ls) (hLs : Ls ≤ 3072) (hA0 : ∀ j, i32 (A0 j)) (hu : tl.length = u) (h : LW A0 pg len q kept ℓi xi i σ ℓ nr nw ng tl ukd unn utr utw I L) (hK : KON g Ls A0 Q i u pg len mc ms) : Cp g 14 m_L_law mc ms Q 541 [(0, vr 0), (1, vr 3), (2, vr 139), (3, vi (i : Int))] [] (TT Ls tl) I L (RR tl) := by
  obtain ⟨hX, hM, h0w, hT⟩ := id h
  obtain ⟨hI0, hPL, hPM, ⟨hq1, hq2, hq3⟩, hIm⟩ := id hT
  have hV := hM.1
  refine r_aload_n d_L_law_541 rfl ?_
  refine r_aload_n d_L_law_542 rfl ?_
  refine r_iload_n d_L_law_543 rfl ?_
  refine r_iconst d_L_law_544 ?_
  refine r_iadd d_L_law_545 ?_
  refine r_ialdJ (j := i + 1) d_L_law_546 (tt_0 _ _) (by omega) (by omega) (hn := (by omega)) (kk := ?_)
  refine r_aload_n d_L_law_547 rfl ?_
  refine r_iload_n d_L_law_548 rfl ?_
  refine r_iconst d_L_law_549 ?_
  refine r_iadd d_L_law_550 ?_
  refine r_ialdJ (j := i + 2) d_L_law_551 (tt_0 _ _) (by omega) (by omega) (hn := (by omega)) (kk := ?_)
  refine r_aload_n d_L_law_552 rfl ?_
  refine r_iload_n d_L_law_553 rfl ?_
  refine r_iconst d_L_law_554 ?_
  refine r_iadd d_L_law_555 ?_
  refine r_ialdJ (j := i + 3) d_L_law_556 (tt_0 _ _) (by omega) (by omega) (hn := (by omega)) (kk := ?_)
  refine r_aload_n d_L_law_557 rfl ?_
  refine r_iload_n d_L_law_558 rfl ?_
  refine r_iconst d_L_law_559 ?_
  refine r_iadd d_L_law_560 ?_
  refine r_ialdJ (j := i + 4) d_L_law_561 (tt_0 _ _) (by omega) (by omega) (hn := (by omega)) (kk := ?_)
  rw [hI0]
  refine r_V4i d_L_law_562 (w_L_71 _ rfl) (tt_3 _ _) rfl rfl (c_done hX (hA0 _) (hA0 _) (hA0 _) (hA0 _)) (by decide) (Nat.le_of_ble_eq_true rfl) (fun z562 T562 I562 L562 R562 h562 => ?_)
  obtain ⟨rfl, rfl, f1, f2, hX1, ha1⟩ := h562
  have e0 : I562 0 = A0 := by rw [f1 0 (by omega)]; exact hI0
  have hM1 := MS_off hM (fun a h1 h2 h3 => f1 a (by omega)) (fun k hk => by rw [f1 139 (by omega)])
  refine r_aload_n d_L_law_565 rfl ?_
  refine r_aload_n d_L_law_566 rfl ?_
  refine r_iload_n d_L_law_567 rfl ?_
  refine r_iconst d_L_law_568 ?_
  refine r_iadd d_L_law_569 ?_
  refine r_ialdJ (j := i + 1) d_L_law_570 (tt_0 _ _) (by omega) (by omega) (hn := (by omega)) (kk := ?_)
  refine r_aload_n d_L_law_571 rfl ?_
  refine r_iload_n d_L_law_572 rfl ?_
  refine r_iconst d_L_law_573 ?_
  refine r_iadd d_L_law_574 ?_
  refine r_ialdJ (j := i + 2) d_L_law_575 (tt_0 _ _) (by omega) (by omega) (hn := (by omega)) (kk := ?_)
  refine r_aload_n d_L_law_576 rfl ?_
  refine r_iload_n d_L_law_577 rfl ?_
  refine r_iconst d_L_law_578 ?_
  refine r_iadd d_L_law_579 ?_
  refine r_ialdJ (j := i + 3) d_L_law_580 (tt_0 _ _) (by omega) (by omega) (hn := (by omega)) (kk := ?_)
  refine r_aload_n d_L_law_581 rfl ?_
  refine r_iload_n d_L_law_582 rfl ?_
  refine r_iconst d_L_law_583 ?_
  refine r_iadd d_L_law_584 ?_
  refine r_ialdJ (j := i + 4) d_L_law_585 (tt_0 _ _) (by omega) (by omega) (hn := (by omega)) (kk := ?_)
  rw [e0]
  refine r_V4i d_L_law_586 (w_L_75 _ rfl) (tt_139 _ _) rfl rfl (x_done hM1 (hA0 _) (hA0 _) (hA0 _) (hA0 _)) (by decide) (Nat.le_of_ble_eq_true rfl) (fun z586 T586 I586 L586 R586 h586 => ?_)
  obtain ⟨rfl, rfl, rfl, f3, hM2, ha2⟩ := h586
  have ez := uDone hV ha1 ha2
  subst ez
  refine r_icmp_same d_L_law_589 ?_
  exact hK _ _ _ _ _ _ _ _ _ _ _ _ _ _ _ _ hu ⟨XS_off hX1 (fun a ha => f3.1 a (by omega) (by omega)) (by rw [f3.1 3 (by omega) (by omega)]) rfl, hM2, h0w, RST_fr hT (by rw [f3.1 0 (by omega) (by omega), f1 0 (by omega)]) (fun k hk => by rw [f3.1 3 (by omega) (by omega), f1 3 (by omega)]) (by rw [f3.1 4 (by omega) (by omega), f1 4 (by omega)]) (by rw [f3.1 5 (by omega) (by omega), f1 5 (by omega)]) (by rw [f3.1 138 (by omega) (by omega), f1 138 (by omega)]) (fun k hk => by rw [f3.2 k (by omega), f1 139 (by omega)]) (by rw [f3.1 157 (by omega) (by omega), f1 157 (by omega)]) (by rw [f3.1 158 (by omega) (by omega), f1 158 (by omega)]) ⟨by rw [f3.1 3 (by omega) (by omega), f1 3 (by omega)]; exact hq1, by rw [f3.2 25 (by omega), f1 139 (by omega)]; exact hq2, hq3⟩ (by omega)⟩
theorem law_14 (hi : i + 6 ≤ Ls) (hLs : Ls ≤ 3072) (hA0 : ∀ j, i32 (A0 j)) (hu : tl.length = u) (h : LW A0 pg len q kept ℓi xi i σ ℓ nr nw ng tl ukd unn utr utw I L) (hK : KON g Ls A0 Q i u pg len mc ms) : Cp g 14 m_L_law mc ms Q 594 [(0, vr 0), (1, vr 3), (2, vr 139), (3, vi (i : Int))] [] (TT Ls tl) I L (RR tl) := by
  obtain ⟨hX, hM, h0w, hT⟩ := id h
  obtain ⟨hI0, hPL, hPM, ⟨hq1, hq2, hq3⟩, hIm⟩ := id hT
  have hV := hM.1
  refine r_aload_n d_L_law_594 rfl ?_
  refine r_aload_n d_L_law_595 rfl ?_
  refine r_iload_n d_L_law_596 rfl ?_
  refine r_iconst d_L_law_597 ?_
  refine r_iadd d_L_law_598 ?_
  refine r_ialdJ (j := i + 1) d_L_law_599 (tt_0 _ _) (by omega) (by omega) (hn := (by omega)) (kk := ?_)
  refine r_aload_n d_L_law_600 rfl ?_
  refine r_iload_n d_L_law_601 rfl ?_
  refine r_iconst d_L_law_602 ?_
  refine r_iadd d_L_law_603 ?_
  refine r_ialdJ (j := i + 2) d_L_law_604 (tt_0 _ _) (by omega) (by omega) (hn := (by omega)) (kk := ?_)
  refine r_aload_n d_L_law_605 rfl ?_
  refine r_iload_n d_L_law_606 rfl ?_
  refine r_iconst d_L_law_607 ?_
  refine r_iadd d_L_law_608 ?_
  refine r_ialdJ (j := i + 3) d_L_law_609 (tt_0 _ _) (by omega) (by omega) (hn := (by omega)) (kk := ?_)
  refine r_aload_n d_L_law_610 rfl ?_
  refine r_iload_n d_L_law_611 rfl ?_
  refine r_iconst d_L_law_612 ?_
  refine r_iadd d_L_law_613 ?_
  refine r_ialdJ (j := i + 4) d_L_law_614 (tt_0 _ _) (by omega) (by omega) (hn := (by omega)) (kk := ?_)
  refine r_aload_n d_L_law_615 rfl ?_
  refine r_iload_n d_L_law_616 rfl ?_
  refine r_iconst d_L_law_617 ?_
  refine r_iadd d_L_law_618 ?_
  refine r_ialdJ (j := i + 5) d_L_law_619 (tt_0 _ _) (by omega) (by omega) (hn := (by omega)) (kk := ?_)
  rw [hI0]
  refine r_V5i d_L_law_620 (w_L_76 _ rfl) (tt_3 _ _) rfl rfl (c_given hX (hA0 _) (hA0 _) (hA0 _) (hA0 _) (hA0 _)) (by decide) (Nat.le_of_ble_eq_true rfl) (fun z620 T620 I620 L620 R620 h620 => ?_)
  obtain ⟨rfl, rfl, f1, f2, hX1, ha1⟩ := h620
  have e0 : I620 0 = A0 := by rw [f1 0 (by omega)]; exact hI0
  have hM1 := MS_off hM (fun a h1 h2 h3 => f1 a (by omega)) (fun k hk => by rw [f1 139 (by omega)])
  refine r_aload_n d_L_law_623 rfl ?_
  refine r_aload_n d_L_law_624 rfl ?_
  refine r_iload_n d_L_law_625 rfl ?_
  refine r_iconst d_L_law_626 ?_
  refine r_iadd d_L_law_627 ?_
  refine r_ialdJ (j := i + 1) d_L_law_628 (tt_0 _ _) (by omega) (by omega) (hn := (by omega)) (kk := ?_)
  refine r_aload_n d_L_law_629 rfl ?_
  refine r_iload_n d_L_law_630 rfl ?_
  refine r_iconst d_L_law_631 ?_
  refine r_iadd d_L_law_632 ?_
  refine r_ialdJ (j := i + 2) d_L_law_633 (tt_0 _ _) (by omega) (by omega) (hn := (by omega)) (kk := ?_)
  refine r_aload_n d_L_law_634 rfl ?_
  refine r_iload_n d_L_law_635 rfl ?_
  refine r_iconst d_L_law_636 ?_
  refine r_iadd d_L_law_637 ?_
  refine r_ialdJ (j := i + 3) d_L_law_638 (tt_0 _ _) (by omega) (by omega) (hn := (by omega)) (kk := ?_)
  refine r_aload_n d_L_law_639 rfl ?_
  refine r_iload_n d_L_law_640 rfl ?_
  refine r_iconst d_L_law_641 ?_
  refine r_iadd d_L_law_642 ?_
  refine r_ialdJ (j := i + 4) d_L_law_643 (tt_0 _ _) (by omega) (by omega) (hn := (by omega)) (kk := ?_)
  refine r_aload_n d_L_law_644 rfl ?_
  refine r_iload_n d_L_law_645 rfl ?_
  refine r_iconst d_L_law_646 ?_
  refine r_iadd d_L_law_647 ?_
  refine r_ialdJ (j := i + 5) d_L_law_648 (tt_0 _ _) (by omega) (by omega) (hn := (by omega)) (kk := ?_)
  rw [e0]
  refine r_V5i d_L_law_649 (w_L_80 _ rfl) (tt_139 _ _) rfl rfl (x_given hM1 (hA0 _) (hA0 _) (hA0 _) (hA0 _) (hA0 _)) (by decide) (Nat.le_of_ble_eq_true rfl) (fun z649 T649 I649 L649 R649 h649 => ?_)
  obtain ⟨rfl, rfl, rfl, f3, hM2, ha2⟩ := h649
  have ez := uGiven hV ha1 ha2
  subst ez
  refine r_icmp_same d_L_law_652 ?_
  exact hK _ _ _ _ _ _ _ _ _ _ _ _ _ _ _ _ hu ⟨XS_off hX1 (fun a ha => f3.1 a (by omega) (by omega)) (by rw [f3.1 3 (by omega) (by omega)]) rfl, hM2, h0w, RST_fr hT (by rw [f3.1 0 (by omega) (by omega), f1 0 (by omega)]) (fun k hk => by rw [f3.1 3 (by omega) (by omega), f1 3 (by omega)]) (by rw [f3.1 4 (by omega) (by omega), f1 4 (by omega)]) (by rw [f3.1 5 (by omega) (by omega), f1 5 (by omega)]) (by rw [f3.1 138 (by omega) (by omega), f1 138 (by omega)]) (fun k hk => by rw [f3.2 k (by omega), f1 139 (by omega)]) (by rw [f3.1 157 (by omega) (by omega), f1 157 (by omega)]) (by rw [f3.1 158 (by omega) (by omega), f1 158 (by omega)]) ⟨by rw [f3.1 3 (by omega) (by omega), f1 3 (by omega)]; exact hq1, by rw [f3.2 25 (by omega), f1 139 (by omega)]; exact hq2, hq3⟩ (by omega)⟩
theorem law_15 (hi : i + 6 ≤ Ls) (hLs : Ls ≤ 3072) (hA0 : ∀ j, i32 (A0 j)) (hu : tl.length = u) (h : LW A0 pg len q kept ℓi xi i σ ℓ nr nw ng tl ukd unn utr utw I L) (hK : KON g Ls A0 Q i u pg len mc ms) : Cp g 14 m_L_law mc ms Q 657 [(0, vr 0), (1, vr 3), (2, vr 139), (3, vi (i : Int))] [] (TT Ls tl) I L (RR tl) := by
  obtain ⟨hX, hM, h0w, hT⟩ := id h
  obtain ⟨hI0, hPL, hPM, ⟨hq1, hq2, hq3⟩, hIm⟩ := id hT
  have hV := hM.1
  refine r_aload_n d_L_law_657 rfl ?_
  refine r_aload_n d_L_law_658 rfl ?_
  refine r_iload_n d_L_law_659 rfl ?_
  refine r_iconst d_L_law_660 ?_
  refine r_iadd d_L_law_661 ?_
  refine r_ialdJ (j := i + 1) d_L_law_662 (tt_0 _ _) (by omega) (by omega) (hn := (by omega)) (kk := ?_)
  refine r_aload_n d_L_law_663 rfl ?_
  refine r_iload_n d_L_law_664 rfl ?_
  refine r_iconst d_L_law_665 ?_
  refine r_iadd d_L_law_666 ?_
  refine r_ialdJ (j := i + 2) d_L_law_667 (tt_0 _ _) (by omega) (by omega) (hn := (by omega)) (kk := ?_)
  refine r_aload_n d_L_law_668 rfl ?_
  refine r_iload_n d_L_law_669 rfl ?_
  refine r_iconst d_L_law_670 ?_
  refine r_iadd d_L_law_671 ?_
  refine r_ialdJ (j := i + 3) d_L_law_672 (tt_0 _ _) (by omega) (by omega) (hn := (by omega)) (kk := ?_)
  rw [hI0]
  refine r_V3i d_L_law_673 (w_L_81 _ rfl) (tt_3 _ _) rfl rfl (c_cost hX (hA0 _) (hA0 _) (hA0 _)) (by decide) (Nat.le_of_ble_eq_true rfl) (fun z673 T673 I673 L673 R673 h673 => ?_)
  obtain ⟨rfl, rfl, f1, f2, hX1, ha1⟩ := h673
  have e0 : I673 0 = A0 := by rw [f1 0 (by omega)]; exact hI0
  have hM1 := MS_off hM (fun a h1 h2 h3 => f1 a (by omega)) (fun k hk => by rw [f1 139 (by omega)])
  refine r_aload_n d_L_law_676 rfl ?_
  refine r_aload_n d_L_law_677 rfl ?_
  refine r_iload_n d_L_law_678 rfl ?_
  refine r_iconst d_L_law_679 ?_
  refine r_iadd d_L_law_680 ?_
  refine r_ialdJ (j := i + 1) d_L_law_681 (tt_0 _ _) (by omega) (by omega) (hn := (by omega)) (kk := ?_)
  refine r_aload_n d_L_law_682 rfl ?_
  refine r_iload_n d_L_law_683 rfl ?_
  refine r_iconst d_L_law_684 ?_
  refine r_iadd d_L_law_685 ?_
  refine r_ialdJ (j := i + 2) d_L_law_686 (tt_0 _ _) (by omega) (by omega) (hn := (by omega)) (kk := ?_)
  refine r_aload_n d_L_law_687 rfl ?_
  refine r_iload_n d_L_law_688 rfl ?_
  refine r_iconst d_L_law_689 ?_
  refine r_iadd d_L_law_690 ?_
  refine r_ialdJ (j := i + 3) d_L_law_691 (tt_0 _ _) (by omega) (by omega) (hn := (by omega)) (kk := ?_)
  rw [e0]
  refine r_V3i d_L_law_692 (w_L_85 _ rfl) (tt_139 _ _) rfl rfl (x_cost hM1 (hA0 _) (hA0 _) (hA0 _)) (by decide) (Nat.le_of_ble_eq_true rfl) (fun z692 T692 I692 L692 R692 h692 => ?_)
  obtain ⟨rfl, rfl, rfl, f3, hM2, ha2⟩ := h692
  have ez := uCost hV ha1 ha2
  subst ez
  refine r_icmp_same d_L_law_695 ?_
  exact hK _ _ _ _ _ _ _ _ _ _ _ _ _ _ _ _ hu ⟨XS_off hX1 (fun a ha => f3.1 a (by omega) (by omega)) (by rw [f3.1 3 (by omega) (by omega)]) rfl, hM2, h0w, RST_fr hT (by rw [f3.1 0 (by omega) (by omega), f1 0 (by omega)]) (fun k hk => by rw [f3.1 3 (by omega) (by omega), f1 3 (by omega)]) (by rw [f3.1 4 (by omega) (by omega), f1 4 (by omega)]) (by rw [f3.1 5 (by omega) (by omega), f1 5 (by omega)]) (by rw [f3.1 138 (by omega) (by omega), f1 138 (by omega)]) (fun k hk => by rw [f3.2 k (by omega), f1 139 (by omega)]) (by rw [f3.1 157 (by omega) (by omega), f1 157 (by omega)]) (by rw [f3.1 158 (by omega) (by omega), f1 158 (by omega)]) ⟨by rw [f3.1 3 (by omega) (by omega), f1 3 (by omega)]; exact hq1, by rw [f3.2 25 (by omega), f1 139 (by omega)]; exact hq2, hq3⟩ (by omega)⟩
theorem law_16 (hi : i + 6 ≤ Ls) (hLs : Ls ≤ 3072) (hA0 : ∀ j, i32 (A0 j)) (hu : tl.length = u) (h : LW A0 pg len q kept ℓi xi i σ ℓ nr nw ng tl ukd unn utr utw I L) (hK : KON g Ls A0 Q i u pg len mc ms) : Cp g 14 m_L_law mc ms Q 700 [(0, vr 0), (1, vr 3), (2, vr 139), (3, vi (i : Int))] [] (TT Ls tl) I L (RR tl) := by
  obtain ⟨hX, hM, h0w, hT⟩ := id h
  obtain ⟨hI0, hPL, hPM, ⟨hq1, hq2, hq3⟩, hIm⟩ := id hT
  have hV := hM.1
  refine r_aload_n d_L_law_700 rfl ?_
  refine r_aload_n d_L_law_701 rfl ?_
  refine r_iload_n d_L_law_702 rfl ?_
  refine r_iconst d_L_law_703 ?_
  refine r_iadd d_L_law_704 ?_
  refine r_ialdJ (j := i + 1) d_L_law_705 (tt_0 _ _) (by omega) (by omega) (hn := (by omega)) (kk := ?_)
  refine r_aload_n d_L_law_706 rfl ?_
  refine r_iload_n d_L_law_707 rfl ?_
  refine r_iconst d_L_law_708 ?_
  refine r_iadd d_L_law_709 ?_
  refine r_ialdJ (j := i + 2) d_L_law_710 (tt_0 _ _) (by omega) (by omega) (hn := (by omega)) (kk := ?_)
  refine r_aload_n d_L_law_711 rfl ?_
  refine r_iload_n d_L_law_712 rfl ?_
  refine r_iconst d_L_law_713 ?_
  refine r_iadd d_L_law_714 ?_
  refine r_ialdJ (j := i + 3) d_L_law_715 (tt_0 _ _) (by omega) (by omega) (hn := (by omega)) (kk := ?_)
  rw [hI0]
  refine r_V3i d_L_law_716 (w_L_86 _ rfl) (tt_3 _ _) rfl rfl (c_mean hX (hA0 _) (hA0 _) (hA0 _)) (by decide) (Nat.le_of_ble_eq_true rfl) (fun z716 T716 I716 L716 R716 h716 => ?_)
  obtain ⟨rfl, rfl, f1, f2, hX1, ha1⟩ := h716
  have e0 : I716 0 = A0 := by rw [f1 0 (by omega)]; exact hI0
  have hM1 := MS_off hM (fun a h1 h2 h3 => f1 a (by omega)) (fun k hk => by rw [f1 139 (by omega)])
  refine r_aload_n d_L_law_719 rfl ?_
  refine r_aload_n d_L_law_720 rfl ?_
  refine r_iload_n d_L_law_721 rfl ?_
  refine r_iconst d_L_law_722 ?_
  refine r_iadd d_L_law_723 ?_
  refine r_ialdJ (j := i + 1) d_L_law_724 (tt_0 _ _) (by omega) (by omega) (hn := (by omega)) (kk := ?_)
  refine r_aload_n d_L_law_725 rfl ?_
  refine r_iload_n d_L_law_726 rfl ?_
  refine r_iconst d_L_law_727 ?_
  refine r_iadd d_L_law_728 ?_
  refine r_ialdJ (j := i + 2) d_L_law_729 (tt_0 _ _) (by omega) (by omega) (hn := (by omega)) (kk := ?_)
  refine r_aload_n d_L_law_730 rfl ?_
  refine r_iload_n d_L_law_731 rfl ?_
  refine r_iconst d_L_law_732 ?_
  refine r_iadd d_L_law_733 ?_
  refine r_ialdJ (j := i + 3) d_L_law_734 (tt_0 _ _) (by omega) (by omega) (hn := (by omega)) (kk := ?_)
  rw [e0]
  refine r_V3i d_L_law_735 (w_L_89 _ rfl) (tt_139 _ _) rfl rfl (x_mean hM1 (hA0 _) (hA0 _) (hA0 _)) (by decide) (Nat.le_of_ble_eq_true rfl) (fun z735 T735 I735 L735 R735 h735 => ?_)
  obtain ⟨rfl, rfl, rfl, f3, hM2, ha2⟩ := h735
  have ez := uMean hV ha1 ha2
  subst ez
  refine r_icmp_same d_L_law_738 ?_
  exact hK _ _ _ _ _ _ _ _ _ _ _ _ _ _ _ _ hu ⟨XS_off hX1 (fun a ha => f3.1 a (by omega) (by omega)) (by rw [f3.1 3 (by omega) (by omega)]) rfl, hM2, h0w, RST_fr hT (by rw [f3.1 0 (by omega) (by omega), f1 0 (by omega)]) (fun k hk => by rw [f3.1 3 (by omega) (by omega), f1 3 (by omega)]) (by rw [f3.1 4 (by omega) (by omega), f1 4 (by omega)]) (by rw [f3.1 5 (by omega) (by omega), f1 5 (by omega)]) (by rw [f3.1 138 (by omega) (by omega), f1 138 (by omega)]) (fun k hk => by rw [f3.2 k (by omega), f1 139 (by omega)]) (by rw [f3.1 157 (by omega) (by omega), f1 157 (by omega)]) (by rw [f3.1 158 (by omega) (by omega), f1 158 (by omega)]) ⟨by rw [f3.1 3 (by omega) (by omega), f1 3 (by omega)]; exact hq1, by rw [f3.2 25 (by omega), f1 139 (by omega)]; exact hq2, hq3⟩ (by omega)⟩
theorem law_17 (hi : i + 6 ≤ Ls) (hLs : Ls ≤ 3072) (hA0 : ∀ j, i32 (A0 j)) (hu : tl.length = u) (h : LW A0 pg len q kept ℓi xi i σ ℓ nr nw ng tl ukd unn utr utw I L) (hK : KON g Ls A0 Q i u pg len mc ms) : Cp g 14 m_L_law mc ms Q 743 [(0, vr 0), (1, vr 3), (2, vr 139), (3, vi (i : Int))] [] (TT Ls tl) I L (RR tl) := by
  obtain ⟨hX, hM, h0w, hT⟩ := id h
  obtain ⟨hI0, hPL, hPM, ⟨hq1, hq2, hq3⟩, hIm⟩ := id hT
  have hV := hM.1
  refine r_aload_n d_L_law_743 rfl ?_
  refine r_aload_n d_L_law_744 rfl ?_
  refine r_iload_n d_L_law_745 rfl ?_
  refine r_iconst d_L_law_746 ?_
  refine r_iadd d_L_law_747 ?_
  refine r_ialdJ (j := i + 1) d_L_law_748 (tt_0 _ _) (by omega) (by omega) (hn := (by omega)) (kk := ?_)
  refine r_aload_n d_L_law_749 rfl ?_
  refine r_iload_n d_L_law_750 rfl ?_
  refine r_iconst d_L_law_751 ?_
  refine r_iadd d_L_law_752 ?_
  refine r_ialdJ (j := i + 2) d_L_law_753 (tt_0 _ _) (by omega) (by omega) (hn := (by omega)) (kk := ?_)
  refine r_aload_n d_L_law_754 rfl ?_
  refine r_iload_n d_L_law_755 rfl ?_
  refine r_iconst d_L_law_756 ?_
  refine r_iadd d_L_law_757 ?_
  refine r_ialdJ (j := i + 3) d_L_law_758 (tt_0 _ _) (by omega) (by omega) (hn := (by omega)) (kk := ?_)
  rw [hI0]
  refine r_V3i d_L_law_759 (w_L_90 _ rfl) (tt_3 _ _) rfl rfl (c_worst hX (hA0 _) (hA0 _) (hA0 _)) (by decide) (Nat.le_of_ble_eq_true rfl) (fun z759 T759 I759 L759 R759 h759 => ?_)
  obtain ⟨rfl, rfl, f1, f2, hX1, ha1⟩ := h759
  have e0 : I759 0 = A0 := by rw [f1 0 (by omega)]; exact hI0
  have hM1 := MS_off hM (fun a h1 h2 h3 => f1 a (by omega)) (fun k hk => by rw [f1 139 (by omega)])
  refine r_aload_n d_L_law_762 rfl ?_
  refine r_aload_n d_L_law_763 rfl ?_
  refine r_iload_n d_L_law_764 rfl ?_
  refine r_iconst d_L_law_765 ?_
  refine r_iadd d_L_law_766 ?_
  refine r_ialdJ (j := i + 1) d_L_law_767 (tt_0 _ _) (by omega) (by omega) (hn := (by omega)) (kk := ?_)
  refine r_aload_n d_L_law_768 rfl ?_
  refine r_iload_n d_L_law_769 rfl ?_
  refine r_iconst d_L_law_770 ?_
  refine r_iadd d_L_law_771 ?_
  refine r_ialdJ (j := i + 2) d_L_law_772 (tt_0 _ _) (by omega) (by omega) (hn := (by omega)) (kk := ?_)
  refine r_aload_n d_L_law_773 rfl ?_
  refine r_iload_n d_L_law_774 rfl ?_
  refine r_iconst d_L_law_775 ?_
  refine r_iadd d_L_law_776 ?_
  refine r_ialdJ (j := i + 3) d_L_law_777 (tt_0 _ _) (by omega) (by omega) (hn := (by omega)) (kk := ?_)
  rw [e0]
  refine r_V3i d_L_law_778 (w_L_93 _ rfl) (tt_139 _ _) rfl rfl (x_worst hM1 (hA0 _) (hA0 _) (hA0 _)) (by decide) (Nat.le_of_ble_eq_true rfl) (fun z778 T778 I778 L778 R778 h778 => ?_)
  obtain ⟨rfl, rfl, rfl, f3, hM2, ha2⟩ := h778
  have ez := uWorst hV ha1 ha2
  subst ez
  refine r_icmp_same d_L_law_781 ?_
  exact hK _ _ _ _ _ _ _ _ _ _ _ _ _ _ _ _ hu ⟨XS_off hX1 (fun a ha => f3.1 a (by omega) (by omega)) (by rw [f3.1 3 (by omega) (by omega)]) rfl, hM2, h0w, RST_fr hT (by rw [f3.1 0 (by omega) (by omega), f1 0 (by omega)]) (fun k hk => by rw [f3.1 3 (by omega) (by omega), f1 3 (by omega)]) (by rw [f3.1 4 (by omega) (by omega), f1 4 (by omega)]) (by rw [f3.1 5 (by omega) (by omega), f1 5 (by omega)]) (by rw [f3.1 138 (by omega) (by omega), f1 138 (by omega)]) (fun k hk => by rw [f3.2 k (by omega), f1 139 (by omega)]) (by rw [f3.1 157 (by omega) (by omega), f1 157 (by omega)]) (by rw [f3.1 158 (by omega) (by omega), f1 158 (by omega)]) ⟨by rw [f3.1 3 (by omega) (by omega), f1 3 (by omega)]; exact hq1, by rw [f3.2 25 (by omega), f1 139 (by omega)]; exact hq2, hq3⟩ (by omega)⟩
theorem law_18 (hi : i + 6 ≤ Ls) (hLs : Ls ≤ 3072) (hA0 : ∀ j, i32 (A0 j)) (hu : tl.length = u) (h : LW A0 pg len q kept ℓi xi i σ ℓ nr nw ng tl ukd unn utr utw I L) (hK : KON g Ls A0 Q i u pg len mc ms) : Cp g 14 m_L_law mc ms Q 786 [(0, vr 0), (1, vr 3), (2, vr 139), (3, vi (i : Int))] [] (TT Ls tl) I L (RR tl) := by
  obtain ⟨hX, hM, h0w, hT⟩ := id h
  obtain ⟨hI0, hPL, hPM, ⟨hq1, hq2, hq3⟩, hIm⟩ := id hT
  have hV := hM.1
  refine r_aload_n d_L_law_786 rfl ?_
  refine r_aload_n d_L_law_787 rfl ?_
  refine r_iload_n d_L_law_788 rfl ?_
  refine r_iconst d_L_law_789 ?_
  refine r_iadd d_L_law_790 ?_
  refine r_ialdJ (j := i + 1) d_L_law_791 (tt_0 _ _) (by omega) (by omega) (hn := (by omega)) (kk := ?_)
  refine r_aload_n d_L_law_792 rfl ?_
  refine r_iload_n d_L_law_793 rfl ?_
  refine r_iconst d_L_law_794 ?_
  refine r_iadd d_L_law_795 ?_
  refine r_ialdJ (j := i + 2) d_L_law_796 (tt_0 _ _) (by omega) (by omega) (hn := (by omega)) (kk := ?_)
  refine r_aload_n d_L_law_797 rfl ?_
  refine r_iload_n d_L_law_798 rfl ?_
  refine r_iconst d_L_law_799 ?_
  refine r_iadd d_L_law_800 ?_
  refine r_ialdJ (j := i + 3) d_L_law_801 (tt_0 _ _) (by omega) (by omega) (hn := (by omega)) (kk := ?_)
  refine r_aload_n d_L_law_802 rfl ?_
  refine r_iload_n d_L_law_803 rfl ?_
  refine r_iconst d_L_law_804 ?_
  refine r_iadd d_L_law_805 ?_
  refine r_ialdJ (j := i + 4) d_L_law_806 (tt_0 _ _) (by omega) (by omega) (hn := (by omega)) (kk := ?_)
  refine r_aload_n d_L_law_807 rfl ?_
  refine r_iload_n d_L_law_808 rfl ?_
  refine r_iconst d_L_law_809 ?_
  refine r_iadd d_L_law_810 ?_
  refine r_ialdJ (j := i + 5) d_L_law_811 (tt_0 _ _) (by omega) (by omega) (hn := (by omega)) (kk := ?_)
  rw [hI0]
  refine r_V5i d_L_law_812 (w_L_94 _ rfl) (tt_3 _ _) rfl rfl (c_sure hX (hA0 _) (hA0 _) (hA0 _) (hA0 _) (hA0 _)) (by decide) (Nat.le_of_ble_eq_true rfl) (fun z812 T812 I812 L812 R812 h812 => ?_)
  obtain ⟨rfl, rfl, f1, f2, hX1, ha1⟩ := h812
  have e0 : I812 0 = A0 := by rw [f1 0 (by omega)]; exact hI0
  have hM1 := MS_off hM (fun a h1 h2 h3 => f1 a (by omega)) (fun k hk => by rw [f1 139 (by omega)])
  refine r_aload_n d_L_law_815 rfl ?_
  refine r_aload_n d_L_law_816 rfl ?_
  refine r_iload_n d_L_law_817 rfl ?_
  refine r_iconst d_L_law_818 ?_
  refine r_iadd d_L_law_819 ?_
  refine r_ialdJ (j := i + 1) d_L_law_820 (tt_0 _ _) (by omega) (by omega) (hn := (by omega)) (kk := ?_)
  refine r_aload_n d_L_law_821 rfl ?_
  refine r_iload_n d_L_law_822 rfl ?_
  refine r_iconst d_L_law_823 ?_
  refine r_iadd d_L_law_824 ?_
  refine r_ialdJ (j := i + 2) d_L_law_825 (tt_0 _ _) (by omega) (by omega) (hn := (by omega)) (kk := ?_)
  refine r_aload_n d_L_law_826 rfl ?_
  refine r_iload_n d_L_law_827 rfl ?_
  refine r_iconst d_L_law_828 ?_
  refine r_iadd d_L_law_829 ?_
  refine r_ialdJ (j := i + 3) d_L_law_830 (tt_0 _ _) (by omega) (by omega) (hn := (by omega)) (kk := ?_)
  refine r_aload_n d_L_law_831 rfl ?_
  refine r_iload_n d_L_law_832 rfl ?_
  refine r_iconst d_L_law_833 ?_
  refine r_iadd d_L_law_834 ?_
  refine r_ialdJ (j := i + 4) d_L_law_835 (tt_0 _ _) (by omega) (by omega) (hn := (by omega)) (kk := ?_)
  refine r_aload_n d_L_law_836 rfl ?_
  refine r_iload_n d_L_law_837 rfl ?_
  refine r_iconst d_L_law_838 ?_
  refine r_iadd d_L_law_839 ?_
  refine r_ialdJ (j := i + 5) d_L_law_840 (tt_0 _ _) (by omega) (by omega) (hn := (by omega)) (kk := ?_)
  rw [e0]
  refine r_V5i d_L_law_841 (w_L_97 _ rfl) (tt_139 _ _) rfl rfl (x_sure hM1 (hA0 _) (hA0 _) (hA0 _) (hA0 _) (hA0 _)) (by decide) (Nat.le_of_ble_eq_true rfl) (fun z841 T841 I841 L841 R841 h841 => ?_)
  obtain ⟨rfl, rfl, rfl, f3, hM2, ha2⟩ := h841
  have ez := uSure hV ha1 ha2
  subst ez
  refine r_icmp_same d_L_law_844 ?_
  exact hK _ _ _ _ _ _ _ _ _ _ _ _ _ _ _ _ hu ⟨XS_off hX1 (fun a ha => f3.1 a (by omega) (by omega)) (by rw [f3.1 3 (by omega) (by omega)]) rfl, hM2, h0w, RST_fr hT (by rw [f3.1 0 (by omega) (by omega), f1 0 (by omega)]) (fun k hk => by rw [f3.1 3 (by omega) (by omega), f1 3 (by omega)]) (by rw [f3.1 4 (by omega) (by omega), f1 4 (by omega)]) (by rw [f3.1 5 (by omega) (by omega), f1 5 (by omega)]) (by rw [f3.1 138 (by omega) (by omega), f1 138 (by omega)]) (fun k hk => by rw [f3.2 k (by omega), f1 139 (by omega)]) (by rw [f3.1 157 (by omega) (by omega), f1 157 (by omega)]) (by rw [f3.1 158 (by omega) (by omega), f1 158 (by omega)]) ⟨by rw [f3.1 3 (by omega) (by omega), f1 3 (by omega)]; exact hq1, by rw [f3.2 25 (by omega), f1 139 (by omega)]; exact hq2, hq3⟩ (by omega)⟩
theorem law_19 (hi : i + 6 ≤ Ls) (hLs : Ls ≤ 3072) (hA0 : ∀ j, i32 (A0 j)) (hu : tl.length = u) (h : LW A0 pg len q kept ℓi xi i σ ℓ nr nw ng tl ukd unn utr utw I L) (hK : KON g Ls A0 Q i u pg len mc ms) : Cp g 14 m_L_law mc ms Q 849 [(0, vr 0), (1, vr 3), (2, vr 139), (3, vi (i : Int))] [] (TT Ls tl) I L (RR tl) := by
  obtain ⟨hX, hM, h0w, hT⟩ := id h
  obtain ⟨hI0, hPL, hPM, ⟨hq1, hq2, hq3⟩, hIm⟩ := id hT
  have hV := hM.1
  refine r_aload_n d_L_law_849 rfl ?_
  refine r_aload_n d_L_law_850 rfl ?_
  refine r_iload_n d_L_law_851 rfl ?_
  refine r_iconst d_L_law_852 ?_
  refine r_iadd d_L_law_853 ?_
  refine r_ialdJ (j := i + 1) d_L_law_854 (tt_0 _ _) (by omega) (by omega) (hn := (by omega)) (kk := ?_)
  refine r_aload_n d_L_law_855 rfl ?_
  refine r_iload_n d_L_law_856 rfl ?_
  refine r_iconst d_L_law_857 ?_
  refine r_iadd d_L_law_858 ?_
  refine r_ialdJ (j := i + 2) d_L_law_859 (tt_0 _ _) (by omega) (by omega) (hn := (by omega)) (kk := ?_)
  refine r_aload_n d_L_law_860 rfl ?_
  refine r_iload_n d_L_law_861 rfl ?_
  refine r_iconst d_L_law_862 ?_
  refine r_iadd d_L_law_863 ?_
  refine r_ialdJ (j := i + 3) d_L_law_864 (tt_0 _ _) (by omega) (by omega) (hn := (by omega)) (kk := ?_)
  refine r_aload_n d_L_law_865 rfl ?_
  refine r_iload_n d_L_law_866 rfl ?_
  refine r_iconst d_L_law_867 ?_
  refine r_iadd d_L_law_868 ?_
  refine r_ialdJ (j := i + 4) d_L_law_869 (tt_0 _ _) (by omega) (by omega) (hn := (by omega)) (kk := ?_)
  rw [hI0]
  refine r_V4i d_L_law_870 (w_L_98 _ rfl) (tt_3 _ _) rfl rfl (c_tells hX (hA0 _) (hA0 _) (hA0 _) (hA0 _)) (by decide) (Nat.le_of_ble_eq_true rfl) (fun z870 T870 I870 L870 R870 h870 => ?_)
  obtain ⟨rfl, rfl, f1, f2, hX1, ha1⟩ := h870
  have e0 : I870 0 = A0 := by rw [f1 0 (by omega)]; exact hI0
  have hM1 := MS_off hM (fun a h1 h2 h3 => f1 a (by omega)) (fun k hk => by rw [f1 139 (by omega)])
  refine r_aload_n d_L_law_873 rfl ?_
  refine r_aload_n d_L_law_874 rfl ?_
  refine r_iload_n d_L_law_875 rfl ?_
  refine r_iconst d_L_law_876 ?_
  refine r_iadd d_L_law_877 ?_
  refine r_ialdJ (j := i + 1) d_L_law_878 (tt_0 _ _) (by omega) (by omega) (hn := (by omega)) (kk := ?_)
  refine r_aload_n d_L_law_879 rfl ?_
  refine r_iload_n d_L_law_880 rfl ?_
  refine r_iconst d_L_law_881 ?_
  refine r_iadd d_L_law_882 ?_
  refine r_ialdJ (j := i + 2) d_L_law_883 (tt_0 _ _) (by omega) (by omega) (hn := (by omega)) (kk := ?_)
  refine r_aload_n d_L_law_884 rfl ?_
  refine r_iload_n d_L_law_885 rfl ?_
  refine r_iconst d_L_law_886 ?_
  refine r_iadd d_L_law_887 ?_
  refine r_ialdJ (j := i + 3) d_L_law_888 (tt_0 _ _) (by omega) (by omega) (hn := (by omega)) (kk := ?_)
  refine r_aload_n d_L_law_889 rfl ?_
  refine r_iload_n d_L_law_890 rfl ?_
  refine r_iconst d_L_law_891 ?_
  refine r_iadd d_L_law_892 ?_
  refine r_ialdJ (j := i + 4) d_L_law_893 (tt_0 _ _) (by omega) (by omega) (hn := (by omega)) (kk := ?_)
  rw [e0]
  refine r_V4i d_L_law_894 (w_L_101 _ rfl) (tt_139 _ _) rfl rfl (x_tells hM1 (hA0 _) (hA0 _) (hA0 _) (hA0 _)) (by decide) (Nat.le_of_ble_eq_true rfl) (fun z894 T894 I894 L894 R894 h894 => ?_)
  obtain ⟨rfl, rfl, rfl, f3, hM2, ha2⟩ := h894
  have ez := uTells hV ha1 ha2
  subst ez
  refine r_icmp_same d_L_law_897 ?_
  exact hK _ _ _ _ _ _ _ _ _ _ _ _ _ _ _ _ hu ⟨XS_off hX1 (fun a ha => f3.1 a (by omega) (by omega)) (by rw [f3.1 3 (by omega) (by omega)]) rfl, hM2, h0w, RST_fr hT (by rw [f3.1 0 (by omega) (by omega), f1 0 (by omega)]) (fun k hk => by rw [f3.1 3 (by omega) (by omega), f1 3 (by omega)]) (by rw [f3.1 4 (by omega) (by omega), f1 4 (by omega)]) (by rw [f3.1 5 (by omega) (by omega), f1 5 (by omega)]) (by rw [f3.1 138 (by omega) (by omega), f1 138 (by omega)]) (fun k hk => by rw [f3.2 k (by omega), f1 139 (by omega)]) (by rw [f3.1 157 (by omega) (by omega), f1 157 (by omega)]) (by rw [f3.1 158 (by omega) (by omega), f1 158 (by omega)]) ⟨by rw [f3.1 3 (by omega) (by omega), f1 3 (by omega)]; exact hq1, by rw [f3.2 25 (by omega), f1 139 (by omega)]; exact hq2, hq3⟩ (by omega)⟩
theorem law_20 (hi : i + 6 ≤ Ls) (hLs : Ls ≤ 3072) (hA0 : ∀ j, i32 (A0 j)) (hu : tl.length = u) (h : LW A0 pg len q kept ℓi xi i σ ℓ nr nw ng tl ukd unn utr utw I L) (hK : KON g Ls A0 Q i u pg len mc ms) : Cp g 14 m_L_law mc ms Q 902 [(0, vr 0), (1, vr 3), (2, vr 139), (3, vi (i : Int))] [] (TT Ls tl) I L (RR tl) := by
  obtain ⟨hX, hM, h0w, hT⟩ := id h
  obtain ⟨hI0, hPL, hPM, ⟨hq1, hq2, hq3⟩, hIm⟩ := id hT
  have hV := hM.1
  refine r_aload_n d_L_law_902 rfl ?_
  refine r_aload_n d_L_law_903 rfl ?_
  refine r_iload_n d_L_law_904 rfl ?_
  refine r_iconst d_L_law_905 ?_
  refine r_iadd d_L_law_906 ?_
  refine r_ialdJ (j := i + 1) d_L_law_907 (tt_0 _ _) (by omega) (by omega) (hn := (by omega)) (kk := ?_)
  refine r_aload_n d_L_law_908 rfl ?_
  refine r_iload_n d_L_law_909 rfl ?_
  refine r_iconst d_L_law_910 ?_
  refine r_iadd d_L_law_911 ?_
  refine r_ialdJ (j := i + 2) d_L_law_912 (tt_0 _ _) (by omega) (by omega) (hn := (by omega)) (kk := ?_)
  refine r_aload_n d_L_law_913 rfl ?_
  refine r_iload_n d_L_law_914 rfl ?_
  refine r_iconst d_L_law_915 ?_
  refine r_iadd d_L_law_916 ?_
  refine r_ialdJ (j := i + 3) d_L_law_917 (tt_0 _ _) (by omega) (by omega) (hn := (by omega)) (kk := ?_)
  refine r_aload_n d_L_law_918 rfl ?_
  refine r_iload_n d_L_law_919 rfl ?_
  refine r_iconst d_L_law_920 ?_
  refine r_iadd d_L_law_921 ?_
  refine r_ialdJ (j := i + 4) d_L_law_922 (tt_0 _ _) (by omega) (by omega) (hn := (by omega)) (kk := ?_)
  rw [hI0]
  refine r_V4i d_L_law_923 (w_L_102 _ rfl) (tt_3 _ _) rfl rfl (c_run hX (hA0 _) (hA0 _) (hA0 _) (hA0 _)) (by decide) (Nat.le_of_ble_eq_true rfl) (fun z923 T923 I923 L923 R923 h923 => ?_)
  obtain ⟨rfl, rfl, f1, f2, hX1, ha1⟩ := h923
  have e0 : I923 0 = A0 := by rw [f1 0 (by omega)]; exact hI0
  have hM1 := MS_off hM (fun a h1 h2 h3 => f1 a (by omega)) (fun k hk => by rw [f1 139 (by omega)])
  refine r_aload_n d_L_law_926 rfl ?_
  refine r_aload_n d_L_law_927 rfl ?_
  refine r_iload_n d_L_law_928 rfl ?_
  refine r_iconst d_L_law_929 ?_
  refine r_iadd d_L_law_930 ?_
  refine r_ialdJ (j := i + 1) d_L_law_931 (tt_0 _ _) (by omega) (by omega) (hn := (by omega)) (kk := ?_)
  refine r_aload_n d_L_law_932 rfl ?_
  refine r_iload_n d_L_law_933 rfl ?_
  refine r_iconst d_L_law_934 ?_
  refine r_iadd d_L_law_935 ?_
  refine r_ialdJ (j := i + 2) d_L_law_936 (tt_0 _ _) (by omega) (by omega) (hn := (by omega)) (kk := ?_)
  refine r_aload_n d_L_law_937 rfl ?_
  refine r_iload_n d_L_law_938 rfl ?_
  refine r_iconst d_L_law_939 ?_
  refine r_iadd d_L_law_940 ?_
  refine r_ialdJ (j := i + 3) d_L_law_941 (tt_0 _ _) (by omega) (by omega) (hn := (by omega)) (kk := ?_)
  refine r_aload_n d_L_law_942 rfl ?_
  refine r_iload_n d_L_law_943 rfl ?_
  refine r_iconst d_L_law_944 ?_
  refine r_iadd d_L_law_945 ?_
  refine r_ialdJ (j := i + 4) d_L_law_946 (tt_0 _ _) (by omega) (by omega) (hn := (by omega)) (kk := ?_)
  rw [e0]
  refine r_V4i d_L_law_947 (w_L_105 _ rfl) (tt_139 _ _) rfl rfl (x_run hM1 (hA0 _) (hA0 _) (hA0 _) (hA0 _)) (by decide) (Nat.le_of_ble_eq_true rfl) (fun z947 T947 I947 L947 R947 h947 => ?_)
  obtain ⟨rfl, rfl, rfl, f3, hM2, ha2⟩ := h947
  have ez := uRun hV ha1 ha2
  subst ez
  refine r_icmp_same d_L_law_950 ?_
  exact hK _ _ _ _ _ _ _ _ _ _ _ _ _ _ _ _ hu ⟨XS_off hX1 (fun a ha => f3.1 a (by omega) (by omega)) (by rw [f3.1 3 (by omega) (by omega)]) rfl, hM2, h0w, RST_fr hT (by rw [f3.1 0 (by omega) (by omega), f1 0 (by omega)]) (fun k hk => by rw [f3.1 3 (by omega) (by omega), f1 3 (by omega)]) (by rw [f3.1 4 (by omega) (by omega), f1 4 (by omega)]) (by rw [f3.1 5 (by omega) (by omega), f1 5 (by omega)]) (by rw [f3.1 138 (by omega) (by omega), f1 138 (by omega)]) (fun k hk => by rw [f3.2 k (by omega), f1 139 (by omega)]) (by rw [f3.1 157 (by omega) (by omega), f1 157 (by omega)]) (by rw [f3.1 158 (by omega) (by omega), f1 158 (by omega)]) ⟨by rw [f3.1 3 (by omega) (by omega), f1 3 (by omega)]; exact hq1, by rw [f3.2 25 (by omega), f1 139 (by omega)]; exact hq2, hq3⟩ (by omega)⟩
theorem law_21 (hi : i + 6 ≤ Ls) (hLs : Ls ≤ 3072) (hA0 : ∀ j, i32 (A0 j)) (hu : tl.length = u) (h : LW A0 pg len q kept ℓi xi i σ ℓ nr nw ng tl ukd unn utr utw I L) (hK : KON g Ls A0 Q i u pg len mc ms) : Cp g 14 m_L_law mc ms Q 955 [(0, vr 0), (1, vr 3), (2, vr 139), (3, vi (i : Int))] [] (TT Ls tl) I L (RR tl) := by
  obtain ⟨hX, hM, h0w, hT⟩ := id h
  obtain ⟨hI0, hPL, hPM, ⟨hq1, hq2, hq3⟩, hIm⟩ := id hT
  have hV := hM.1
  refine r_aload_n d_L_law_955 rfl ?_
  refine r_aload_n d_L_law_956 rfl ?_
  refine r_iload_n d_L_law_957 rfl ?_
  refine r_iconst d_L_law_958 ?_
  refine r_iadd d_L_law_959 ?_
  refine r_ialdJ (j := i + 1) d_L_law_960 (tt_0 _ _) (by omega) (by omega) (hn := (by omega)) (kk := ?_)
  refine r_aload_n d_L_law_961 rfl ?_
  refine r_iload_n d_L_law_962 rfl ?_
  refine r_iconst d_L_law_963 ?_
  refine r_iadd d_L_law_964 ?_
  refine r_ialdJ (j := i + 2) d_L_law_965 (tt_0 _ _) (by omega) (by omega) (hn := (by omega)) (kk := ?_)
  rw [hI0]
  refine r_V2i d_L_law_966 (w_L_106 _ rfl) (tt_3 _ _) rfl rfl (c_best hX (hA0 _) (hA0 _) hq1 hq3) (by decide) (Nat.le_of_ble_eq_true rfl) (fun z966 T966 I966 L966 R966 h966 => ?_)
  obtain ⟨rfl, rfl, f1, f1b, f2, hX1, ha1⟩ := h966
  have e0 : I966 0 = A0 := by rw [f1 0 (by omega) (by omega)]; exact hI0
  have hM1 := MS_off hM (fun a h1 h2 h3 => f1 a (by omega) (by omega)) (fun k hk => by rw [f1 139 (by omega) (by omega)])
  have hq2b : I966 139 25 = q := by rw [f1 139 (by omega) (by omega)]; exact hq2
  refine r_aload_n d_L_law_969 rfl ?_
  refine r_aload_n d_L_law_970 rfl ?_
  refine r_iload_n d_L_law_971 rfl ?_
  refine r_iconst d_L_law_972 ?_
  refine r_iadd d_L_law_973 ?_
  refine r_ialdJ (j := i + 1) d_L_law_974 (tt_0 _ _) (by omega) (by omega) (hn := (by omega)) (kk := ?_)
  refine r_aload_n d_L_law_975 rfl ?_
  refine r_iload_n d_L_law_976 rfl ?_
  refine r_iconst d_L_law_977 ?_
  refine r_iadd d_L_law_978 ?_
  refine r_ialdJ (j := i + 2) d_L_law_979 (tt_0 _ _) (by omega) (by omega) (hn := (by omega)) (kk := ?_)
  rw [e0]
  refine r_V2i d_L_law_980 (w_L_109 _ rfl) (tt_139 _ _) rfl rfl (x_best hM1 (hA0 _) (hA0 _) hq2b hq3) (by decide) (Nat.le_of_ble_eq_true rfl) (fun z980 T980 I980 L980 R980 h980 => ?_)
  obtain ⟨rfl, rfl, rfl, f3, hM2, ha2⟩ := h980
  obtain ⟨ez, eq2⟩ := uBest hV ha1 ha2
  have hb := bBest hq3 ha2
  subst ez
  refine r_icmp_same d_L_law_983 ?_
  exact hK _ _ _ _ _ _ _ _ _ _ _ _ _ _ _ _ hu ⟨XS_off hX1 (fun a ha => f3.1 a (by omega) (by omega)) (by rw [f3.1 3 (by omega) (by omega)]) rfl, hM2, h0w, RST_fr hT (by rw [f3.1 0 (by omega) (by omega), f1 0 (by omega) (by omega)]) (fun k hk => by rw [f3.1 3 (by omega) (by omega), f1b k (by omega)]) (by rw [f3.1 4 (by omega) (by omega), f1 4 (by omega) (by omega)]) (by rw [f3.1 5 (by omega) (by omega), f1 5 (by omega) (by omega)]) (by rw [f3.1 138 (by omega) (by omega), f1 138 (by omega) (by omega)]) (fun k hk => by rw [f3.2 k (by omega) (by omega), f1 139 (by omega) (by omega)]) (by rw [f3.1 157 (by omega) (by omega), f1 157 (by omega) (by omega)]) (by rw [f3.1 158 (by omega) (by omega), f1 158 (by omega) (by omega)]) ⟨by rw [f3.1 3 (by omega) (by omega), eq2], rfl, hb⟩ (by omega)⟩
theorem law_22 (hi : i + 6 ≤ Ls) (hLs : Ls ≤ 3072) (hA0 : ∀ j, i32 (A0 j)) (hu : tl.length = u) (h : LW A0 pg len q kept ℓi xi i σ ℓ nr nw ng tl ukd unn utr utw I L) (hK : KON g Ls A0 Q i u pg len mc ms) : Cp g 14 m_L_law mc ms Q 988 [(0, vr 0), (1, vr 3), (2, vr 139), (3, vi (i : Int))] [] (TT Ls tl) I L (RR tl) := by
  obtain ⟨hX, hM, h0w, hT⟩ := id h
  obtain ⟨hI0, hPL, hPM, ⟨hq1, hq2, hq3⟩, hIm⟩ := id hT
  have hV := hM.1
  refine r_aload_n d_L_law_988 rfl ?_
  refine r_aload_n d_L_law_989 rfl ?_
  refine r_iload_n d_L_law_990 rfl ?_
  refine r_iconst d_L_law_991 ?_
  refine r_iadd d_L_law_992 ?_
  refine r_ialdJ (j := i + 1) d_L_law_993 (tt_0 _ _) (by omega) (by omega) (hn := (by omega)) (kk := ?_)
  refine r_aload_n d_L_law_994 rfl ?_
  refine r_iload_n d_L_law_995 rfl ?_
  refine r_iconst d_L_law_996 ?_
  refine r_iadd d_L_law_997 ?_
  refine r_ialdJ (j := i + 2) d_L_law_998 (tt_0 _ _) (by omega) (by omega) (hn := (by omega)) (kk := ?_)
  refine r_aload_n d_L_law_999 rfl ?_
  refine r_iload_n d_L_law_1000 rfl ?_
  refine r_iconst d_L_law_1001 ?_
  refine r_iadd d_L_law_1002 ?_
  refine r_ialdJ (j := i + 3) d_L_law_1003 (tt_0 _ _) (by omega) (by omega) (hn := (by omega)) (kk := ?_)
  rw [hI0]
  refine r_V3i d_L_law_1004 (w_L_110 _ rfl) (tt_3 _ _) rfl rfl (c_call hX (hA0 _) (hA0 _) (hA0 _) hq1 hq3) (by decide) (Nat.le_of_ble_eq_true rfl) (fun z1004 T1004 I1004 L1004 R1004 h1004 => ?_)
  obtain ⟨rfl, rfl, f1, f1b, f2, hX1, ha1⟩ := h1004
  have e0 : I1004 0 = A0 := by rw [f1 0 (by omega) (by omega)]; exact hI0
  have hM1 := MS_off hM (fun a h1 h2 h3 => f1 a (by omega) (by omega)) (fun k hk => by rw [f1 139 (by omega) (by omega)])
  have hq2b : I1004 139 25 = q := by rw [f1 139 (by omega) (by omega)]; exact hq2
  refine r_aload_n d_L_law_1007 rfl ?_
  refine r_aload_n d_L_law_1008 rfl ?_
  refine r_iload_n d_L_law_1009 rfl ?_
  refine r_iconst d_L_law_1010 ?_
  refine r_iadd d_L_law_1011 ?_
  refine r_ialdJ (j := i + 1) d_L_law_1012 (tt_0 _ _) (by omega) (by omega) (hn := (by omega)) (kk := ?_)
  refine r_aload_n d_L_law_1013 rfl ?_
  refine r_iload_n d_L_law_1014 rfl ?_
  refine r_iconst d_L_law_1015 ?_
  refine r_iadd d_L_law_1016 ?_
  refine r_ialdJ (j := i + 2) d_L_law_1017 (tt_0 _ _) (by omega) (by omega) (hn := (by omega)) (kk := ?_)
  refine r_aload_n d_L_law_1018 rfl ?_
  refine r_iload_n d_L_law_1019 rfl ?_
  refine r_iconst d_L_law_1020 ?_
  refine r_iadd d_L_law_1021 ?_
  refine r_ialdJ (j := i + 3) d_L_law_1022 (tt_0 _ _) (by omega) (by omega) (hn := (by omega)) (kk := ?_)
  rw [e0]
  refine r_V3i d_L_law_1023 (w_L_113 _ rfl) (tt_139 _ _) rfl rfl (x_call hM1 (hA0 _) (hA0 _) (hA0 _) hq2b hq3) (by decide) (Nat.le_of_ble_eq_true rfl) (fun z1023 T1023 I1023 L1023 R1023 h1023 => ?_)
  obtain ⟨rfl, rfl, rfl, f3, hM2, ha2⟩ := h1023
  obtain ⟨ez, eq2⟩ := uCall hV ha1 ha2
  have hb := bCall hq3 ha2
  subst ez
  refine r_icmp_same d_L_law_1026 ?_
  exact hK _ _ _ _ _ _ _ _ _ _ _ _ _ _ _ _ hu ⟨XS_off hX1 (fun a ha => f3.1 a (by omega) (by omega)) (by rw [f3.1 3 (by omega) (by omega)]) rfl, hM2, h0w, RST_fr hT (by rw [f3.1 0 (by omega) (by omega), f1 0 (by omega) (by omega)]) (fun k hk => by rw [f3.1 3 (by omega) (by omega), f1b k (by omega)]) (by rw [f3.1 4 (by omega) (by omega), f1 4 (by omega) (by omega)]) (by rw [f3.1 5 (by omega) (by omega), f1 5 (by omega) (by omega)]) (by rw [f3.1 138 (by omega) (by omega), f1 138 (by omega) (by omega)]) (fun k hk => by rw [f3.2 k (by omega) (by omega), f1 139 (by omega) (by omega)]) (by rw [f3.1 157 (by omega) (by omega), f1 157 (by omega) (by omega)]) (by rw [f3.1 158 (by omega) (by omega), f1 158 (by omega) (by omega)]) ⟨by rw [f3.1 3 (by omega) (by omega), eq2], rfl, hb⟩ (by omega)⟩
theorem law_23 (hi : i + 6 ≤ Ls) (hLs : Ls ≤ 3072) (hA0 : ∀ j, i32 (A0 j)) (hu : tl.length = u) (h : LW A0 pg len q kept ℓi xi i σ ℓ nr nw ng tl ukd unn utr utw I L) (hK : KON g Ls A0 Q i u pg len mc ms) : Cp g 14 m_L_law mc ms Q 1031 [(0, vr 0), (1, vr 3), (2, vr 139), (3, vi (i : Int))] [] (TT Ls tl) I L (RR tl) := by
  obtain ⟨hX, hM, h0w, hT⟩ := id h
  obtain ⟨hI0, hPL, hPM, ⟨hq1, hq2, hq3⟩, hIm⟩ := id hT
  have hV := hM.1
  refine r_aload_n d_L_law_1031 rfl ?_
  refine r_aload_n d_L_law_1032 rfl ?_
  refine r_iload_n d_L_law_1033 rfl ?_
  refine r_iconst d_L_law_1034 ?_
  refine r_iadd d_L_law_1035 ?_
  refine r_ialdJ (j := i + 1) d_L_law_1036 (tt_0 _ _) (by omega) (by omega) (hn := (by omega)) (kk := ?_)
  rw [hI0]
  refine r_V1i d_L_law_1037 (w_L_114 _ rfl) (tt_3 _ _) rfl rfl (c_called hX (hA0 _) hq1 hq3) (by decide) (Nat.le_of_ble_eq_true rfl) (fun z1037 T1037 I1037 L1037 R1037 h1037 => ?_)
  obtain ⟨rfl, rfl, f1, f1b, f2, hX1, ha1⟩ := h1037
  have e0 : I1037 0 = A0 := by rw [f1 0 (by omega) (by omega)]; exact hI0
  have hM1 := MS_off hM (fun a h1 h2 h3 => f1 a (by omega) (by omega)) (fun k hk => by rw [f1 139 (by omega) (by omega)])
  have hq2b : I1037 139 25 = q := by rw [f1 139 (by omega) (by omega)]; exact hq2
  refine r_aload_n d_L_law_1040 rfl ?_
  refine r_aload_n d_L_law_1041 rfl ?_
  refine r_iload_n d_L_law_1042 rfl ?_
  refine r_iconst d_L_law_1043 ?_
  refine r_iadd d_L_law_1044 ?_
  refine r_ialdJ (j := i + 1) d_L_law_1045 (tt_0 _ _) (by omega) (by omega) (hn := (by omega)) (kk := ?_)
  rw [e0]
  refine r_V1i d_L_law_1046 (w_L_117 _ rfl) (tt_139 _ _) rfl rfl (x_called hM1 (hA0 _) hq2b hq3) (by decide) (Nat.le_of_ble_eq_true rfl) (fun z1046 T1046 I1046 L1046 R1046 h1046 => ?_)
  obtain ⟨rfl, rfl, rfl, f3, hM2, ha2⟩ := h1046
  obtain ⟨ez, eq2⟩ := uCalled hV ha1 ha2
  have hb := bCalled hq3 ha2
  subst ez
  refine r_icmp_same d_L_law_1049 ?_
  exact hK _ _ _ _ _ _ _ _ _ _ _ _ _ _ _ _ hu ⟨XS_off hX1 (fun a ha => f3.1 a (by omega) (by omega)) (by rw [f3.1 3 (by omega) (by omega)]) rfl, hM2, h0w, RST_fr hT (by rw [f3.1 0 (by omega) (by omega), f1 0 (by omega) (by omega)]) (fun k hk => by rw [f3.1 3 (by omega) (by omega), f1b k (by omega)]) (by rw [f3.1 4 (by omega) (by omega), f1 4 (by omega) (by omega)]) (by rw [f3.1 5 (by omega) (by omega), f1 5 (by omega) (by omega)]) (by rw [f3.1 138 (by omega) (by omega), f1 138 (by omega) (by omega)]) (fun k hk => by rw [f3.2 k (by omega) (by omega), f1 139 (by omega) (by omega)]) (by rw [f3.1 157 (by omega) (by omega), f1 157 (by omega) (by omega)]) (by rw [f3.1 158 (by omega) (by omega), f1 158 (by omega) (by omega)]) ⟨by rw [f3.1 3 (by omega) (by omega), eq2], rfl, hb⟩ (by omega)⟩
theorem law_24 (hi : i + 6 ≤ Ls) (hLs : Ls ≤ 3072) (hA0 : ∀ j, i32 (A0 j)) (hu : tl.length = u) (h : LW A0 pg len q kept ℓi xi i σ ℓ nr nw ng tl ukd unn utr utw I L) (hK : KON g Ls A0 Q i u pg len mc ms) : Cp g 14 m_L_law mc ms Q 1054 [(0, vr 0), (1, vr 3), (2, vr 139), (3, vi (i : Int))] [] (TT Ls tl) I L (RR tl) := by
  obtain ⟨hX, hM, h0w, hT⟩ := id h
  obtain ⟨hI0, hPL, hPM, ⟨hq1, hq2, hq3⟩, hIm⟩ := id hT
  have hV := hM.1
  refine r_aload_n d_L_law_1054 rfl ?_
  refine r_aload_n d_L_law_1055 rfl ?_
  refine r_iload_n d_L_law_1056 rfl ?_
  refine r_iconst d_L_law_1057 ?_
  refine r_iadd d_L_law_1058 ?_
  refine r_ialdJ (j := i + 1) d_L_law_1059 (tt_0 _ _) (by omega) (by omega) (hn := (by omega)) (kk := ?_)
  refine r_aload_n d_L_law_1060 rfl ?_
  refine r_iload_n d_L_law_1061 rfl ?_
  refine r_iconst d_L_law_1062 ?_
  refine r_iadd d_L_law_1063 ?_
  refine r_ialdJ (j := i + 2) d_L_law_1064 (tt_0 _ _) (by omega) (by omega) (hn := (by omega)) (kk := ?_)
  rw [hI0]
  refine r_V2i d_L_law_1065 (w_L_118 _ rfl) (tt_3 _ _) rfl rfl (c_missed hX (hA0 _) (hA0 _) hq1 hq3) (by decide) (Nat.le_of_ble_eq_true rfl) (fun z1065 T1065 I1065 L1065 R1065 h1065 => ?_)
  obtain ⟨rfl, rfl, f1, f1b, f2, hX1, ha1⟩ := h1065
  have e0 : I1065 0 = A0 := by rw [f1 0 (by omega) (by omega)]; exact hI0
  have hM1 := MS_off hM (fun a h1 h2 h3 => f1 a (by omega) (by omega)) (fun k hk => by rw [f1 139 (by omega) (by omega)])
  have hq2b : I1065 139 25 = q := by rw [f1 139 (by omega) (by omega)]; exact hq2
  refine r_aload_n d_L_law_1068 rfl ?_
  refine r_aload_n d_L_law_1069 rfl ?_
  refine r_iload_n d_L_law_1070 rfl ?_
  refine r_iconst d_L_law_1071 ?_
  refine r_iadd d_L_law_1072 ?_
  refine r_ialdJ (j := i + 1) d_L_law_1073 (tt_0 _ _) (by omega) (by omega) (hn := (by omega)) (kk := ?_)
  refine r_aload_n d_L_law_1074 rfl ?_
  refine r_iload_n d_L_law_1075 rfl ?_
  refine r_iconst d_L_law_1076 ?_
  refine r_iadd d_L_law_1077 ?_
  refine r_ialdJ (j := i + 2) d_L_law_1078 (tt_0 _ _) (by omega) (by omega) (hn := (by omega)) (kk := ?_)
  rw [e0]
  refine r_V2i d_L_law_1079 (w_L_121 _ rfl) (tt_139 _ _) rfl rfl (x_missed hM1 h0w (hA0 _) (hA0 _) hq2b hq3) (by decide) (Nat.le_of_ble_eq_true rfl) (fun z1079 T1079 I1079 L1079 R1079 h1079 => ?_)
  obtain ⟨rfl, rfl, rfl, f3, hM2, ha2⟩ := h1079
  obtain ⟨ez, eq2⟩ := uMissed hV ha1 ha2
  have hb := bMissed hq3 ha2
  subst ez
  refine r_icmp_same d_L_law_1082 ?_
  exact hK _ _ _ _ _ _ _ _ _ _ _ _ _ _ _ _ hu ⟨XS_off hX1 (fun a ha => f3.1 a (by omega) (by omega)) (by rw [f3.1 3 (by omega) (by omega)]) rfl, hM2, h0w, RST_fr hT (by rw [f3.1 0 (by omega) (by omega), f1 0 (by omega) (by omega)]) (fun k hk => by rw [f3.1 3 (by omega) (by omega), f1b k (by omega)]) (by rw [f3.1 4 (by omega) (by omega), f1 4 (by omega) (by omega)]) (by rw [f3.1 5 (by omega) (by omega), f1 5 (by omega) (by omega)]) (by rw [f3.1 138 (by omega) (by omega), f1 138 (by omega) (by omega)]) (fun k hk => by rw [f3.2 k (by omega) (by omega), f1 139 (by omega) (by omega)]) (by rw [f3.1 157 (by omega) (by omega), f1 157 (by omega) (by omega)]) (by rw [f3.1 158 (by omega) (by omega), f1 158 (by omega) (by omega)]) ⟨by rw [f3.1 3 (by omega) (by omega), eq2], rfl, hb⟩ (by omega)⟩
theorem law_25 (hi : i + 6 ≤ Ls) (hLs : Ls ≤ 3072) (hA0 : ∀ j, i32 (A0 j)) (hu : tl.length = u) (h : LW A0 pg len q kept ℓi xi i σ ℓ nr nw ng tl ukd unn utr utw I L) (hK : KON g Ls A0 Q i u pg len mc ms) : Cp g 14 m_L_law mc ms Q 1087 [(0, vr 0), (1, vr 3), (2, vr 139), (3, vi (i : Int))] [] (TT Ls tl) I L (RR tl) := by
  obtain ⟨hX, hM, h0w, hT⟩ := id h
  obtain ⟨hI0, hPL, hPM, ⟨hq1, hq2, hq3⟩, hIm⟩ := id hT
  have hV := hM.1
  refine r_aload_n d_L_law_1087 rfl ?_
  refine r_aload_n d_L_law_1088 rfl ?_
  refine r_iload_n d_L_law_1089 rfl ?_
  refine r_iconst d_L_law_1090 ?_
  refine r_iadd d_L_law_1091 ?_
  refine r_ialdJ (j := i + 1) d_L_law_1092 (tt_0 _ _) (by omega) (by omega) (hn := (by omega)) (kk := ?_)
  refine r_aload_n d_L_law_1093 rfl ?_
  refine r_iload_n d_L_law_1094 rfl ?_
  refine r_iconst d_L_law_1095 ?_
  refine r_iadd d_L_law_1096 ?_
  refine r_ialdJ (j := i + 2) d_L_law_1097 (tt_0 _ _) (by omega) (by omega) (hn := (by omega)) (kk := ?_)
  refine r_aload_n d_L_law_1098 rfl ?_
  refine r_iload_n d_L_law_1099 rfl ?_
  refine r_iconst d_L_law_1100 ?_
  refine r_iadd d_L_law_1101 ?_
  refine r_ialdJ (j := i + 3) d_L_law_1102 (tt_0 _ _) (by omega) (by omega) (hn := (by omega)) (kk := ?_)
  rw [hI0]
  refine r_V3i d_L_law_1103 (w_L_122 _ rfl) (tt_3 _ _) rfl rfl (c_more hX h0w (hA0 _) (hA0 _) (hA0 _) hq1 hq3) (by decide) (Nat.le_of_ble_eq_true rfl) (fun z1103 T1103 I1103 L1103 R1103 h1103 => ?_)
  obtain ⟨rfl, rfl, f1, f1b, f2, hX1, ha1⟩ := h1103
  have e0 : I1103 0 = A0 := by rw [f1 0 (by omega) (by omega)]; exact hI0
  have hM1 := MS_off hM (fun a h1 h2 h3 => f1 a (by omega) (by omega)) (fun k hk => by rw [f1 139 (by omega) (by omega)])
  have hq2b : I1103 139 25 = q := by rw [f1 139 (by omega) (by omega)]; exact hq2
  refine r_aload_n d_L_law_1106 rfl ?_
  refine r_aload_n d_L_law_1107 rfl ?_
  refine r_iload_n d_L_law_1108 rfl ?_
  refine r_iconst d_L_law_1109 ?_
  refine r_iadd d_L_law_1110 ?_
  refine r_ialdJ (j := i + 1) d_L_law_1111 (tt_0 _ _) (by omega) (by omega) (hn := (by omega)) (kk := ?_)
  refine r_aload_n d_L_law_1112 rfl ?_
  refine r_iload_n d_L_law_1113 rfl ?_
  refine r_iconst d_L_law_1114 ?_
  refine r_iadd d_L_law_1115 ?_
  refine r_ialdJ (j := i + 2) d_L_law_1116 (tt_0 _ _) (by omega) (by omega) (hn := (by omega)) (kk := ?_)
  refine r_aload_n d_L_law_1117 rfl ?_
  refine r_iload_n d_L_law_1118 rfl ?_
  refine r_iconst d_L_law_1119 ?_
  refine r_iadd d_L_law_1120 ?_
  refine r_ialdJ (j := i + 3) d_L_law_1121 (tt_0 _ _) (by omega) (by omega) (hn := (by omega)) (kk := ?_)
  rw [e0]
  refine r_V3i d_L_law_1122 (w_L_125 _ rfl) (tt_139 _ _) rfl rfl (x_more hM1 h0w (hA0 _) (hA0 _) (hA0 _) hq2b hq3) (by decide) (Nat.le_of_ble_eq_true rfl) (fun z1122 T1122 I1122 L1122 R1122 h1122 => ?_)
  obtain ⟨rfl, rfl, rfl, f3, hM2, ha2⟩ := h1122
  obtain ⟨ez, eq2⟩ := uMore hV hM.2.1 h0w ha1 ha2
  have hb := bMore hq3 ha2
  subst ez
  refine r_icmp_same d_L_law_1125 ?_
  exact hK _ _ _ _ _ _ _ _ _ _ _ _ _ _ _ _ hu ⟨XS_off hX1 (fun a ha => f3.1 a (by omega) (by omega)) (by rw [f3.1 3 (by omega) (by omega)]) rfl, hM2, h0w, RST_fr hT (by rw [f3.1 0 (by omega) (by omega), f1 0 (by omega) (by omega)]) (fun k hk => by rw [f3.1 3 (by omega) (by omega), f1b k (by omega)]) (by rw [f3.1 4 (by omega) (by omega), f1 4 (by omega) (by omega)]) (by rw [f3.1 5 (by omega) (by omega), f1 5 (by omega) (by omega)]) (by rw [f3.1 138 (by omega) (by omega), f1 138 (by omega) (by omega)]) (fun k hk => by rw [f3.2 k (by omega) (by omega), f1 139 (by omega) (by omega)]) (by rw [f3.1 157 (by omega) (by omega), f1 157 (by omega) (by omega)]) (by rw [f3.1 158 (by omega) (by omega), f1 158 (by omega) (by omega)]) ⟨by rw [f3.1 3 (by omega) (by omega), eq2], rfl, hb⟩ (by omega)⟩
theorem law_26 (hi : i + 6 ≤ Ls) (hLs : Ls ≤ 3072) (hA0 : ∀ j, i32 (A0 j)) (hu : tl.length = u) (h : LW A0 pg len q kept ℓi xi i σ ℓ nr nw ng tl ukd unn utr utw I L) (hK : KON g Ls A0 Q i u pg len mc ms) : Cp g 14 m_L_law mc ms Q 1130 [(0, vr 0), (1, vr 3), (2, vr 139), (3, vi (i : Int))] [] (TT Ls tl) I L (RR tl) := by
  obtain ⟨hX, hM, h0w, hT⟩ := id h
  obtain ⟨hI0, hPL, hPM, ⟨hq1, hq2, hq3⟩, hIm⟩ := id hT
  have hV := hM.1
  refine r_aload_n d_L_law_1130 rfl ?_
  refine r_aload_n d_L_law_1131 rfl ?_
  refine r_iload_n d_L_law_1132 rfl ?_
  refine r_iconst d_L_law_1133 ?_
  refine r_iadd d_L_law_1134 ?_
  refine r_ialdJ (j := i + 1) d_L_law_1135 (tt_0 _ _) (by omega) (by omega) (hn := (by omega)) (kk := ?_)
  rw [hI0]
  refine r_V1i d_L_law_1136 (w_L_126 _ rfl) (tt_3 _ _) rfl rfl (c_which hX (hA0 _) hq1 hq3) (by decide) (Nat.le_of_ble_eq_true rfl) (fun z1136 T1136 I1136 L1136 R1136 h1136 => ?_)
  obtain ⟨rfl, rfl, f1, f1b, f2, hX1, ha1⟩ := h1136
  have e0 : I1136 0 = A0 := by rw [f1 0 (by omega) (by omega)]; exact hI0
  have hM1 := MS_off hM (fun a h1 h2 h3 => f1 a (by omega) (by omega)) (fun k hk => by rw [f1 139 (by omega) (by omega)])
  have hq2b : I1136 139 25 = q := by rw [f1 139 (by omega) (by omega)]; exact hq2
  refine r_aload_n d_L_law_1139 rfl ?_
  refine r_aload_n d_L_law_1140 rfl ?_
  refine r_iload_n d_L_law_1141 rfl ?_
  refine r_iconst d_L_law_1142 ?_
  refine r_iadd d_L_law_1143 ?_
  refine r_ialdJ (j := i + 1) d_L_law_1144 (tt_0 _ _) (by omega) (by omega) (hn := (by omega)) (kk := ?_)
  rw [e0]
  refine r_V1i d_L_law_1145 (w_L_129 _ rfl) (tt_139 _ _) rfl rfl (x_which hM1 (hA0 _) hq2b hq3) (by decide) (Nat.le_of_ble_eq_true rfl) (fun z1145 T1145 I1145 L1145 R1145 h1145 => ?_)
  obtain ⟨rfl, rfl, rfl, f3, hM2, ha2⟩ := h1145
  obtain ⟨ez, eq2⟩ := uWhich hV ha1 ha2
  have hb := bWhich hq3 ha2
  subst ez
  refine r_icmp_same d_L_law_1148 ?_
  exact hK _ _ _ _ _ _ _ _ _ _ _ _ _ _ _ _ hu ⟨XS_off hX1 (fun a ha => f3.1 a (by omega) (by omega)) (by rw [f3.1 3 (by omega) (by omega)]) rfl, hM2, h0w, RST_fr hT (by rw [f3.1 0 (by omega) (by omega), f1 0 (by omega) (by omega)]) (fun k hk => by rw [f3.1 3 (by omega) (by omega), f1b k (by omega)]) (by rw [f3.1 4 (by omega) (by omega), f1 4 (by omega) (by omega)]) (by rw [f3.1 5 (by omega) (by omega), f1 5 (by omega) (by omega)]) (by rw [f3.1 138 (by omega) (by omega), f1 138 (by omega) (by omega)]) (fun k hk => by rw [f3.2 k (by omega) (by omega), f1 139 (by omega) (by omega)]) (by rw [f3.1 157 (by omega) (by omega), f1 157 (by omega) (by omega)]) (by rw [f3.1 158 (by omega) (by omega), f1 158 (by omega) (by omega)]) ⟨by rw [f3.1 3 (by omega) (by omega), eq2], rfl, hb⟩ (by omega)⟩
theorem law_10 (hi : i + 6 ≤ Ls) (hLs : Ls ≤ 3072) (hA0 : ∀ j, i32 (A0 j)) (hu : tl.length = u) (h : LW A0 pg len q kept ℓi xi i σ ℓ nr nw ng tl ukd unn utr utw I L) (hK : KON g Ls A0 Q i u pg len mc ms) : Cp g 14 m_L_law mc ms Q 452 [(0, vr 0), (1, vr 3), (2, vr 139), (3, vi (i : Int))] [] (TT Ls tl) I L (RR tl) := by
  obtain ⟨hX, hM, h0w, hT⟩ := id h
  obtain ⟨hI0, hPL, hPM, ⟨hq1, hq2, hq3⟩, hIm⟩ := id hT
  have hV := hM.1
  refine r_aload_n d_L_law_452 rfl ?_
  refine r_aload_n d_L_law_453 rfl ?_
  refine r_iload_n d_L_law_454 rfl ?_
  refine r_iconst d_L_law_455 ?_
  refine r_iadd d_L_law_456 ?_
  refine r_ialdJ (j := i + 1) d_L_law_457 (tt_0 _ _) (by omega) (by omega) (hn := (by omega)) (kk := ?_)
  refine r_aload_n d_L_law_458 rfl ?_
  refine r_iload_n d_L_law_459 rfl ?_
  refine r_iconst d_L_law_460 ?_
  refine r_iadd d_L_law_461 ?_
  refine r_ialdJ (j := i + 2) d_L_law_462 (tt_0 _ _) (by omega) (by omega) (hn := (by omega)) (kk := ?_)
  rw [hI0]
  refine r_V2i d_L_law_463 (w_L_59 _ rfl) (tt_3 _ _) rfl rfl (c_late hX (hA0 _) (hA0 _)) (by decide) (Nat.le_of_ble_eq_true rfl) (fun z463 T463 I463 L463 R463 h463 => ?_)
  obtain ⟨rfl, rfl, f1, rfl, x1, l1, hX1, ha1⟩ := h463
  have e0 : I463 0 = A0 := by rw [f1 0 (by omega) (by omega) (by omega)]; exact hI0
  have c9 : I463 139 = I 139 := f1 139 (by omega) (by omega) (by omega)
  have c8 : I463 158 = I 158 := f1 158 (by omega) (by omega) (by omega)
  have hM1 := MS_off hM (fun a h1 h2 h3 => f1 a (by omega) (by omega) (by omega)) (fun k hk => by rw [c9])
  refine r_aload_n d_L_law_466 rfl ?_
  refine r_aload_n d_L_law_467 rfl ?_
  refine r_iload_n d_L_law_468 rfl ?_
  refine r_iconst d_L_law_469 ?_
  refine r_iadd d_L_law_470 ?_
  refine r_ialdJ (j := i + 1) d_L_law_471 (tt_0 _ _) (by omega) (by omega) (hn := (by omega)) (kk := ?_)
  refine r_aload_n d_L_law_472 rfl ?_
  refine r_iload_n d_L_law_473 rfl ?_
  refine r_iconst d_L_law_474 ?_
  refine r_iadd d_L_law_475 ?_
  refine r_ialdJ (j := i + 2) d_L_law_476 (tt_0 _ _) (by omega) (by omega) (hn := (by omega)) (kk := ?_)
  rw [e0]
  refine r_V2i d_L_law_477 (w_L_62 _ rfl) (tt_139 _ _) rfl rfl (x_late hM1 (hA0 _) (hA0 _)) (by decide) (Nat.le_of_ble_eq_true rfl) (fun z477 T477 I477 L477 R477 h477 => ?_)
  obtain ⟨rfl, rfl, rfl, f3, f4, x2, l2, hM2, ha2⟩ := h477
  obtain ⟨ez, ex, el⟩ := uLate ha1 ha2
  subst ez
  subst ex
  subst el
  refine r_icmp_same d_L_law_480 ?_
  exact hK _ _ _ _ _ _ _ _ _ _ _ _ _ _ _ _ hu ⟨XS_off hX1 (fun a ha => f3 a (by omega) (by omega) (by omega)) (by rw [f3 3 (by omega) (by omega) (by omega)]) rfl, hM2, h0w, RST_fr hT (by rw [f3 0 (by omega) (by omega) (by omega), f1 0 (by omega) (by omega) (by omega)]) (fun k hk => by rw [f3 3 (by omega) (by omega) (by omega), f1 3 (by omega) (by omega) (by omega)]) (by rw [f3 4 (by omega) (by omega) (by omega), f1 4 (by omega) (by omega) (by omega)]) (by rw [f3 5 (by omega) (by omega) (by omega), f1 5 (by omega) (by omega) (by omega)]) (by rw [f3 138 (by omega) (by omega) (by omega), f1 138 (by omega) (by omega) (by omega)]) (fun k hk => by rw [f4 k (by omega), f1 139 (by omega) (by omega) (by omega)]) (by rw [f3 157 (by omega) (by omega) (by omega), f1 157 (by omega) (by omega) (by omega)]) (by rw [f3 158 (by omega) (by omega) (by omega), f1 158 (by omega) (by omega) (by omega)]) ⟨by rw [f3 3 (by omega) (by omega) (by omega), f1 3 (by omega) (by omega) (by omega)]; exact hq1, by rw [f4 25 (by omega), c9]; exact hq2, hq3⟩ (by omega)⟩
theorem law_11 (hi : i + 6 ≤ Ls) (hLs : Ls ≤ 3072) (hA0 : ∀ j, i32 (A0 j)) (hu : tl.length = u) (h : LW A0 pg len q kept ℓi xi i σ ℓ nr nw ng tl ukd unn utr utw I L) (hK : KON g Ls A0 Q i u pg len mc ms) : Cp g 14 m_L_law mc ms Q 485 [(0, vr 0), (1, vr 3), (2, vr 139), (3, vi (i : Int))] [] (TT Ls tl) I L (RR tl) := by
  obtain ⟨hX, hM, h0w, hT⟩ := id h
  obtain ⟨hI0, hPL, hPM, ⟨hq1, hq2, hq3⟩, hIm⟩ := id hT
  have hV := hM.1
  refine r_aload_n d_L_law_485 rfl ?_
  refine r_aload_n d_L_law_486 rfl ?_
  refine r_iload_n d_L_law_487 rfl ?_
  refine r_iconst d_L_law_488 ?_
  refine r_iadd d_L_law_489 ?_
  refine r_ialdJ (j := i + 1) d_L_law_490 (tt_0 _ _) (by omega) (by omega) (hn := (by omega)) (kk := ?_)
  rw [hI0]
  refine r_V1i d_L_law_491 (w_L_63 _ rfl) (tt_3 _ _) rfl rfl (c_lift hX (hA0 _)) (by decide) (Nat.le_of_ble_eq_true rfl) (fun z491 T491 I491 L491 R491 h491 => ?_)
  obtain ⟨rfl, rfl, f1, rfl, x1, l1, hX1, ha1⟩ := h491
  have e0 : I491 0 = A0 := by rw [f1 0 (by omega) (by omega) (by omega)]; exact hI0
  have c9 : I491 139 = I 139 := f1 139 (by omega) (by omega) (by omega)
  have c8 : I491 158 = I 158 := f1 158 (by omega) (by omega) (by omega)
  have hM1 := MS_off hM (fun a h1 h2 h3 => f1 a (by omega) (by omega) (by omega)) (fun k hk => by rw [c9])
  refine r_aload_n d_L_law_494 rfl ?_
  refine r_aload_n d_L_law_495 rfl ?_
  refine r_iload_n d_L_law_496 rfl ?_
  refine r_iconst d_L_law_497 ?_
  refine r_iadd d_L_law_498 ?_
  refine r_ialdJ (j := i + 1) d_L_law_499 (tt_0 _ _) (by omega) (by omega) (hn := (by omega)) (kk := ?_)
  rw [e0]
  refine r_V1i d_L_law_500 (w_L_66 _ rfl) (tt_139 _ _) rfl rfl (x_lift hM1 (hA0 _)) (by decide) (Nat.le_of_ble_eq_true rfl) (fun z500 T500 I500 L500 R500 h500 => ?_)
  obtain ⟨rfl, rfl, rfl, f3, f4, x2, l2, hM2, ha2⟩ := h500
  obtain ⟨ez, ex, el⟩ := uLift ha1 ha2
  subst ez
  subst ex
  subst el
  refine r_icmp_same d_L_law_503 ?_
  exact hK _ _ _ _ _ _ _ _ _ _ _ _ _ _ _ _ hu ⟨XS_off hX1 (fun a ha => f3 a (by omega) (by omega) (by omega)) (by rw [f3 3 (by omega) (by omega) (by omega)]) rfl, hM2, h0w, RST_fr hT (by rw [f3 0 (by omega) (by omega) (by omega), f1 0 (by omega) (by omega) (by omega)]) (fun k hk => by rw [f3 3 (by omega) (by omega) (by omega), f1 3 (by omega) (by omega) (by omega)]) (by rw [f3 4 (by omega) (by omega) (by omega), f1 4 (by omega) (by omega) (by omega)]) (by rw [f3 5 (by omega) (by omega) (by omega), f1 5 (by omega) (by omega) (by omega)]) (by rw [f3 138 (by omega) (by omega) (by omega), f1 138 (by omega) (by omega) (by omega)]) (fun k hk => by rw [f4 k (by omega), f1 139 (by omega) (by omega) (by omega)]) (by rw [f3 157 (by omega) (by omega) (by omega), f1 157 (by omega) (by omega) (by omega)]) (by rw [f3 158 (by omega) (by omega) (by omega), f1 158 (by omega) (by omega) (by omega)]) ⟨by rw [f3 3 (by omega) (by omega) (by omega), f1 3 (by omega) (by omega) (by omega)]; exact hq1, by rw [f4 25 (by omega), c9]; exact hq2, hq3⟩ (by omega)⟩
theorem law_28 (hi : i + 6 ≤ Ls) (hLs : Ls ≤ 3072) (hA0 : ∀ j, i32 (A0 j)) (hu : tl.length = u) (h : LW A0 pg len q kept ℓi xi i σ ℓ nr nw ng tl ukd unn utr utw I L) (hK : KON g Ls A0 Q i u pg len mc ms) : Cp g 14 m_L_law mc ms Q 1166 [(0, vr 0), (1, vr 3), (2, vr 139), (3, vi (i : Int))] [] (TT Ls tl) I L (RR tl) := by
  obtain ⟨hX, hM, h0w, hT⟩ := id h
  obtain ⟨hI0, hPL, hPM, ⟨hq1, hq2, hq3⟩, hIm⟩ := id hT
  have hV := hM.1
  refine r_aload_n d_L_law_1166 rfl ?_
  refine r_V0i d_L_law_1167 (w_L_134 _ rfl) (tt_3 _ _) rfl rfl (c_restore hX hIm.1 hIm.2.1 (fun hk => ⟨(hIm.2.2.2.2.2.2 hk).1, (hIm.2.2.2.2.2.2 hk).2.2.1, fun r hr => ⟨((hIm.2.2.2.2.2.2 hk).2.2.2.1 r hr).1, ((hIm.2.2.2.2.2.2 hk).2.2.2.1 r hr).2.2⟩⟩)) (by decide) (Nat.le_of_ble_eq_true rfl) (fun z1167 T1167 I1167 L1167 R1167 h1167 => ?_)
  obtain ⟨rfl, rfl, f1, rfl, x1, l1, hX1, ha1⟩ := h1167
  have e0 : I1167 0 = A0 := by rw [f1 0 (by omega) (by omega) (by omega)]; exact hI0
  have c9 : I1167 139 = I 139 := f1 139 (by omega) (by omega) (by omega)
  have c8 : I1167 158 = I 158 := f1 158 (by omega) (by omega) (by omega)
  have hM1 := MS_off hM (fun a h1 h2 h3 => f1 a (by omega) (by omega) (by omega)) (fun k hk => by rw [c9])
  refine r_aload_n d_L_law_1170 rfl ?_
  refine r_V0i d_L_law_1171 (w_L_137 _ rfl) (tt_139 _ _) rfl rfl (x_restore (kept := kept) (ℓi := ℓi) (xi := xi) hM1 (by rw [c9]; exact hIm.2.2.1) (by rw [c9]; have := hIm.2.2.2.1; have := hIm.2.2.2.2.1; omega) (by rw [c9]; exact hIm.2.2.2.2.2.1) (fun hk => by rw [c9, c8]; exact ⟨(hIm.2.2.2.2.2.2 hk).2.1, (hIm.2.2.2.2.2.2 hk).2.2.1, fun r hr => ((hIm.2.2.2.2.2.2 hk).2.2.2.1 r hr).2, (hIm.2.2.2.2.2.2 hk).2.2.2.2⟩)) (by decide) (Nat.le_of_ble_eq_true rfl) (fun z1171 T1171 I1171 L1171 R1171 h1171 => ?_)
  obtain ⟨rfl, rfl, rfl, f3, f4, x2, l2, hM2, ha2⟩ := h1171
  obtain ⟨ez, ex, el⟩ := uRestore ha1 ha2
  subst ez
  subst ex
  subst el
  refine r_icmp_same d_L_law_1174 ?_
  exact hK _ _ _ _ _ _ _ _ _ _ _ _ _ _ _ _ hu ⟨XS_off hX1 (fun a ha => f3 a (by omega) (by omega) (by omega)) (by rw [f3 3 (by omega) (by omega) (by omega)]) rfl, hM2, h0w, RST_fr hT (by rw [f3 0 (by omega) (by omega) (by omega), f1 0 (by omega) (by omega) (by omega)]) (fun k hk => by rw [f3 3 (by omega) (by omega) (by omega), f1 3 (by omega) (by omega) (by omega)]) (by rw [f3 4 (by omega) (by omega) (by omega), f1 4 (by omega) (by omega) (by omega)]) (by rw [f3 5 (by omega) (by omega) (by omega), f1 5 (by omega) (by omega) (by omega)]) (by rw [f3 138 (by omega) (by omega) (by omega), f1 138 (by omega) (by omega) (by omega)]) (fun k hk => by rw [f4 k (by omega), f1 139 (by omega) (by omega) (by omega)]) (by rw [f3 157 (by omega) (by omega) (by omega), f1 157 (by omega) (by omega) (by omega)]) (by rw [f3 158 (by omega) (by omega) (by omega), f1 158 (by omega) (by omega) (by omega)]) ⟨by rw [f3 3 (by omega) (by omega) (by omega), f1 3 (by omega) (by omega) (by omega)]; exact hq1, by rw [f4 25 (by omega), c9]; exact hq2, hq3⟩ (by omega)⟩
theorem law_6 (hi : i + 6 ≤ Ls) (hLs : Ls ≤ 3072) (hA0 : ∀ j, i32 (A0 j)) (hu : tl.length = u) (h : LW A0 pg len q kept ℓi xi i σ ℓ nr nw ng tl ukd unn utr utw I L) (hK : KON g Ls A0 Q i u pg len mc ms) : Cp g 14 m_L_law mc ms Q 320 [(0, vr 0), (1, vr 3), (2, vr 139), (3, vi (i : Int))] [] (TT Ls tl) I L (RR tl) := by
  obtain ⟨hX, hM, h0w, hT⟩ := id h
  obtain ⟨hI0, hPL, hPM, ⟨hq1, hq2, hq3⟩, hIm⟩ := id hT
  have hV := hM.1
  refine r_aload_n d_L_law_320 rfl ?_
  refine r_aload_n d_L_law_321 rfl ?_
  refine r_iload_n d_L_law_322 rfl ?_
  refine r_iconst d_L_law_323 ?_
  refine r_iadd d_L_law_324 ?_
  refine r_ialdJ (j := i + 1) d_L_law_325 (tt_0 _ _) (by omega) (by omega) (hn := (by omega)) (kk := ?_)
  refine r_aload_n d_L_law_326 rfl ?_
  refine r_iload_n d_L_law_327 rfl ?_
  refine r_iconst d_L_law_328 ?_
  refine r_iadd d_L_law_329 ?_
  refine r_ialdJ (j := i + 2) d_L_law_330 (tt_0 _ _) (by omega) (by omega) (hn := (by omega)) (kk := ?_)
  rw [hI0]
  refine r_V2i d_L_law_331 (w_L_43 _ rfl) (tt_3 _ _) rfl rfl (c_as hX (hA0 _) (hA0 _)) (by decide) (Nat.le_of_ble_eq_true rfl) (fun z331 T331 I331 L331 R331 h331 => ?_)
  obtain ⟨rfl, rfl, rfl, rfl, rfl⟩ := h331
  have e0 := hI0
  refine r_aload_n d_L_law_334 rfl ?_
  refine r_aload_n d_L_law_335 rfl ?_
  refine r_iload_n d_L_law_336 rfl ?_
  refine r_iconst d_L_law_337 ?_
  refine r_iadd d_L_law_338 ?_
  refine r_ialdJ (j := i + 1) d_L_law_339 (tt_0 _ _) (by omega) (by omega) (hn := (by omega)) (kk := ?_)
  refine r_aload_n d_L_law_340 rfl ?_
  refine r_iload_n d_L_law_341 rfl ?_
  refine r_iconst d_L_law_342 ?_
  refine r_iadd d_L_law_343 ?_
  refine r_ialdJ (j := i + 2) d_L_law_344 (tt_0 _ _) (by omega) (by omega) (hn := (by omega)) (kk := ?_)
  rw [e0]
  refine r_V2i d_L_law_345 (w_L_46 _ rfl) (tt_139 _ _) rfl rfl (x_as hM (hA0 _) (hA0 _)) (by decide) (Nat.le_of_ble_eq_true rfl) (fun z345 T345 I345 L345 R345 h345 => ?_)
  obtain ⟨rfl, rfl, rfl, rfl, rfl⟩ := h345
  refine r_icmp_same d_L_law_348 ?_
  exact hK _ _ _ _ _ _ _ _ _ _ _ _ _ _ _ _ hu ⟨hX, hM, h0w, RST_fr hT rfl (fun _ _ => rfl) rfl rfl rfl (fun _ _ => rfl) rfl rfl ⟨hq1, hq2, hq3⟩ (by omega)⟩
theorem law_7 (hi : i + 6 ≤ Ls) (hLs : Ls ≤ 3072) (hA0 : ∀ j, i32 (A0 j)) (hu : tl.length = u) (h : LW A0 pg len q kept ℓi xi i σ ℓ nr nw ng tl ukd unn utr utw I L) (hK : KON g Ls A0 Q i u pg len mc ms) : Cp g 14 m_L_law mc ms Q 353 [(0, vr 0), (1, vr 3), (2, vr 139), (3, vi (i : Int))] [] (TT Ls tl) I L (RR tl) := by
  obtain ⟨hX, hM, h0w, hT⟩ := id h
  obtain ⟨hI0, hPL, hPM, ⟨hq1, hq2, hq3⟩, hIm⟩ := id hT
  have hV := hM.1
  refine r_aload_n d_L_law_353 rfl ?_
  refine r_aload_n d_L_law_354 rfl ?_
  refine r_iload_n d_L_law_355 rfl ?_
  refine r_iconst d_L_law_356 ?_
  refine r_iadd d_L_law_357 ?_
  refine r_ialdJ (j := i + 1) d_L_law_358 (tt_0 _ _) (by omega) (by omega) (hn := (by omega)) (kk := ?_)
  refine r_aload_n d_L_law_359 rfl ?_
  refine r_iload_n d_L_law_360 rfl ?_
  refine r_iconst d_L_law_361 ?_
  refine r_iadd d_L_law_362 ?_
  refine r_ialdJ (j := i + 2) d_L_law_363 (tt_0 _ _) (by omega) (by omega) (hn := (by omega)) (kk := ?_)
  rw [hI0]
  refine r_V2i d_L_law_364 (w_L_47 _ rfl) (tt_3 _ _) rfl rfl (c_room hX.1.1 hX.1.2.2.1 (hA0 _) (hA0 _)) (by decide) (Nat.le_of_ble_eq_true rfl) (fun z364 T364 I364 L364 R364 h364 => ?_)
  obtain ⟨rfl, rfl, rfl, rfl, rfl⟩ := h364
  have e0 := hI0
  refine r_aload_n d_L_law_367 rfl ?_
  refine r_aload_n d_L_law_368 rfl ?_
  refine r_iload_n d_L_law_369 rfl ?_
  refine r_iconst d_L_law_370 ?_
  refine r_iadd d_L_law_371 ?_
  refine r_ialdJ (j := i + 1) d_L_law_372 (tt_0 _ _) (by omega) (by omega) (hn := (by omega)) (kk := ?_)
  refine r_aload_n d_L_law_373 rfl ?_
  refine r_iload_n d_L_law_374 rfl ?_
  refine r_iconst d_L_law_375 ?_
  refine r_iadd d_L_law_376 ?_
  refine r_ialdJ (j := i + 2) d_L_law_377 (tt_0 _ _) (by omega) (by omega) (hn := (by omega)) (kk := ?_)
  rw [e0]
  refine r_V2i d_L_law_378 (w_L_50 _ rfl) (tt_139 _ _) rfl rfl (x_room hV hM.2.1 hM.2.2.2.2.1 hM.2.2.2.2.2.2.1 (hA0 _) (hA0 _)) (by decide) (Nat.le_of_ble_eq_true rfl) (fun z378 T378 I378 L378 R378 h378 => ?_)
  obtain ⟨rfl, rfl, rfl, rfl, rfl⟩ := h378
  refine r_icmp_same d_L_law_381 ?_
  exact hK _ _ _ _ _ _ _ _ _ _ _ _ _ _ _ _ hu ⟨hX, hM, h0w, RST_fr hT rfl (fun _ _ => rfl) rfl rfl rfl (fun _ _ => rfl) rfl rfl ⟨hq1, hq2, hq3⟩ (by omega)⟩
theorem law_8 (hi : i + 6 ≤ Ls) (hLs : Ls ≤ 3072) (hA0 : ∀ j, i32 (A0 j)) (hu : tl.length = u) (h : LW A0 pg len q kept ℓi xi i σ ℓ nr nw ng tl ukd unn utr utw I L) (hK : KON g Ls A0 Q i u pg len mc ms) : Cp g 14 m_L_law mc ms Q 386 [(0, vr 0), (1, vr 3), (2, vr 139), (3, vi (i : Int))] [] (TT Ls tl) I L (RR tl) := by
  obtain ⟨hX, hM, h0w, hT⟩ := id h
  obtain ⟨hI0, hPL, hPM, ⟨hq1, hq2, hq3⟩, hIm⟩ := id hT
  have hV := hM.1
  refine r_aload_n d_L_law_386 rfl ?_
  refine r_aload_n d_L_law_387 rfl ?_
  refine r_iload_n d_L_law_388 rfl ?_
  refine r_iconst d_L_law_389 ?_
  refine r_iadd d_L_law_390 ?_
  refine r_ialdJ (j := i + 1) d_L_law_391 (tt_0 _ _) (by omega) (by omega) (hn := (by omega)) (kk := ?_)
  refine r_aload_n d_L_law_392 rfl ?_
  refine r_iload_n d_L_law_393 rfl ?_
  refine r_iconst d_L_law_394 ?_
  refine r_iadd d_L_law_395 ?_
  refine r_ialdJ (j := i + 2) d_L_law_396 (tt_0 _ _) (by omega) (by omega) (hn := (by omega)) (kk := ?_)
  rw [hI0]
  refine r_V2i d_L_law_397 (w_L_51 _ rfl) (tt_3 _ _) rfl rfl (c_woman hX.1.1 hX.1.2.2.1 (hA0 _) (hA0 _)) (by decide) (Nat.le_of_ble_eq_true rfl) (fun z397 T397 I397 L397 R397 h397 => ?_)
  obtain ⟨rfl, rfl, rfl, rfl, rfl⟩ := h397
  have e0 := hI0
  refine r_aload_n d_L_law_400 rfl ?_
  refine r_aload_n d_L_law_401 rfl ?_
  refine r_iload_n d_L_law_402 rfl ?_
  refine r_iconst d_L_law_403 ?_
  refine r_iadd d_L_law_404 ?_
  refine r_ialdJ (j := i + 1) d_L_law_405 (tt_0 _ _) (by omega) (by omega) (hn := (by omega)) (kk := ?_)
  refine r_aload_n d_L_law_406 rfl ?_
  refine r_iload_n d_L_law_407 rfl ?_
  refine r_iconst d_L_law_408 ?_
  refine r_iadd d_L_law_409 ?_
  refine r_ialdJ (j := i + 2) d_L_law_410 (tt_0 _ _) (by omega) (by omega) (hn := (by omega)) (kk := ?_)
  rw [e0]
  refine r_V2i d_L_law_411 (w_L_54 _ rfl) (tt_139 _ _) rfl rfl (x_woman hV hM.2.1 hM.2.2.2.2.1 hM.2.2.2.2.2.2.1 (hA0 _) (hA0 _)) (by decide) (Nat.le_of_ble_eq_true rfl) (fun z411 T411 I411 L411 R411 h411 => ?_)
  obtain ⟨rfl, rfl, rfl, rfl, rfl⟩ := h411
  refine r_icmp_same d_L_law_414 ?_
  exact hK _ _ _ _ _ _ _ _ _ _ _ _ _ _ _ _ hu ⟨hX, hM, h0w, RST_fr hT rfl (fun _ _ => rfl) rfl rfl rfl (fun _ _ => rfl) rfl rfl ⟨hq1, hq2, hq3⟩ (by omega)⟩
theorem law_9 (hi : i + 6 ≤ Ls) (hLs : Ls ≤ 3072) (hA0 : ∀ j, i32 (A0 j)) (hu : tl.length = u) (h : LW A0 pg len q kept ℓi xi i σ ℓ nr nw ng tl ukd unn utr utw I L) (hK : KON g Ls A0 Q i u pg len mc ms) : Cp g 14 m_L_law mc ms Q 419 [(0, vr 0), (1, vr 3), (2, vr 139), (3, vi (i : Int))] [] (TT Ls tl) I L (RR tl) := by
  obtain ⟨hX, hM, h0w, hT⟩ := id h
  obtain ⟨hI0, hPL, hPM, ⟨hq1, hq2, hq3⟩, hIm⟩ := id hT
  have hV := hM.1
  refine r_aload_n d_L_law_419 rfl ?_
  refine r_aload_n d_L_law_420 rfl ?_
  refine r_iload_n d_L_law_421 rfl ?_
  refine r_iconst d_L_law_422 ?_
  refine r_iadd d_L_law_423 ?_
  refine r_ialdJ (j := i + 1) d_L_law_424 (tt_0 _ _) (by omega) (by omega) (hn := (by omega)) (kk := ?_)
  refine r_aload_n d_L_law_425 rfl ?_
  refine r_iload_n d_L_law_426 rfl ?_
  refine r_iconst d_L_law_427 ?_
  refine r_iadd d_L_law_428 ?_
  refine r_ialdJ (j := i + 2) d_L_law_429 (tt_0 _ _) (by omega) (by omega) (hn := (by omega)) (kk := ?_)
  rw [hI0]
  refine r_V2i d_L_law_430 (w_L_55 _ rfl) (tt_3 _ _) rfl rfl (c_guest hX.1.1 hX.1.2.2.1 (hA0 _) (hA0 _)) (by decide) (Nat.le_of_ble_eq_true rfl) (fun z430 T430 I430 L430 R430 h430 => ?_)
  obtain ⟨rfl, rfl, rfl, rfl, rfl⟩ := h430
  have e0 := hI0
  refine r_aload_n d_L_law_433 rfl ?_
  refine r_aload_n d_L_law_434 rfl ?_
  refine r_iload_n d_L_law_435 rfl ?_
  refine r_iconst d_L_law_436 ?_
  refine r_iadd d_L_law_437 ?_
  refine r_ialdJ (j := i + 1) d_L_law_438 (tt_0 _ _) (by omega) (by omega) (hn := (by omega)) (kk := ?_)
  refine r_aload_n d_L_law_439 rfl ?_
  refine r_iload_n d_L_law_440 rfl ?_
  refine r_iconst d_L_law_441 ?_
  refine r_iadd d_L_law_442 ?_
  refine r_ialdJ (j := i + 2) d_L_law_443 (tt_0 _ _) (by omega) (by omega) (hn := (by omega)) (kk := ?_)
  rw [e0]
  refine r_V2i d_L_law_444 (w_L_58 _ rfl) (tt_139 _ _) rfl rfl (x_guest hV hM.2.1 hM.2.2.2.2.1 hM.2.2.2.2.2.2.1 (hA0 _) (hA0 _)) (by decide) (Nat.le_of_ble_eq_true rfl) (fun z444 T444 I444 L444 R444 h444 => ?_)
  obtain ⟨rfl, rfl, rfl, rfl, rfl⟩ := h444
  refine r_icmp_same d_L_law_447 ?_
  exact hK _ _ _ _ _ _ _ _ _ _ _ _ _ _ _ _ hu ⟨hX, hM, h0w, RST_fr hT rfl (fun _ _ => rfl) rfl rfl rfl (fun _ _ => rfl) rfl rfl ⟨hq1, hq2, hq3⟩ (by omega)⟩
end L9z
