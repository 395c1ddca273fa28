/-! the reference: letters of a number -/
section X9l
variable {g : sG} {Ls : Nat} {tl : List Nat} {T : sT} {R : sR} {I L : sI}
theorem x_isDigit {c : Int} (hc : i32 c) : Mc g 1 m_X8_isDigit 0 0 [vi c] T I L R (qI fun z T' I' L' R' => z = (if 48 ≤ c ∧ c ≤ 57 then 1 else 0) ∧ same T I L R T' I' L' R') := by
  refine Mc_of rfl (Nat.le_of_ble_eq_true rfl) ?_
  have hc2 : -2147483648 ≤ c ∧ c ≤ 2147483647 := hc
  refine r_iload_n d_X8_isDigit_0 rfl ?_
  refine r_bipush d_X8_isDigit_1 (by decide) ?_
  refine r_bipush d_X8_isDigit_3 (by decide) ?_
  refine r_S3i d_X8_isDigit_5 (w_X8_162 _ rfl) (x_within hc2 (by omega) (by omega)) (by decide) (Nat.le_of_ble_eq_true rfl) (fun z5 T5 I5 L5 R5 h5 => ?_)
  obtain ⟨rfl, rfl, rfl, rfl, rfl⟩ := h5
  refine r_zret d_X8_isDigit_8 rfl (by split <;> omega) ?_
  exact ⟨_, rfl, rfl, same_rf⟩
theorem x_begin {a b : Int} : Mc g 0 m_X8_begin 0 0 [vr 139, vi a, vi b] (TT Ls tl) I L (RR tl) (qV fun T' I' L' R' => T' = TT Ls tl ∧ R' = RR tl ∧ L' = L ∧ I' = up2 (up2 (up2 I 139 49 (-1)) 139 50 a) 139 51 b) := by
  refine Mc_of rfl (Nat.le_of_ble_eq_true rfl) ?_
  refine r_aload_n d_X8_begin_0 rfl ?_
  refine r_iconst d_X8_begin_1 ?_
  refine r_puti d_X8_begin_2 f_X8_166 (tt_139 _ _) (by decide) (Or.inl rfl) ?_
  refine r_aload_n d_X8_begin_5 rfl ?_
  refine r_iload_n d_X8_begin_6 rfl ?_
  refine r_puti d_X8_begin_7 f_X8_169 (tt_139 _ _) (by decide) (Or.inl rfl) ?_
  refine r_aload_n d_X8_begin_10 rfl ?_
  refine r_iload_n d_X8_begin_11 rfl ?_
  refine r_puti d_X8_begin_12 f_X8_172 (tt_139 _ _) (by decide) (Or.inl rfl) ?_
  refine r_vret d_X8_begin_15 rfl ?_
  exact ⟨rfl, rfl, rfl, rfl, rfl⟩
theorem x_blank : Mc g 0 m_X8_blank 0 0 [vr 139] (TT Ls tl) I L (RR tl) (qI fun z T' I' L' R' => z = I 139 23 ∧ T' = TT Ls tl ∧ R' = RR tl ∧ L' = L ∧ I' = up2 I 139 23 0) := by
  refine Mc_of rfl (Nat.le_of_ble_eq_true rfl) ?_
  refine r_aload_n d_X8_blank_0 rfl ?_
  refine r_geti d_X8_blank_1 f_X8_159 (tt_139 _ _) (by decide) (by decide) ?_
  refine r_istore_n d_X8_blank_4 (by decide) ?_
  refine r_aload_n d_X8_blank_5 rfl ?_
  refine r_iconst d_X8_blank_6 ?_
  refine r_puti d_X8_blank_7 f_X8_159 (tt_139 _ _) (by decide) (Or.inl rfl) ?_
  refine r_iload_n d_X8_blank_10 rfl ?_
  refine r_iret d_X8_blank_11 rfl ?_
  exact ⟨_, rfl, rfl, rfl, rfl, rfl, rfl⟩
theorem x_isNumber {v a : Int} (hv : I 139 49 = v) (ha : I 139 50 = a) (hv2 : i32 v) (ha2 : i32 a) : Mc g 0 m_X8_isNumber 0 0 [vr 139] (TT Ls tl) I L (RR tl) (qI fun z T' I' L' R' => z = (if v < a then 0 else 1) ∧ same (TT Ls tl) I L (RR tl) T' I' L' R') := by
  refine Mc_of rfl (Nat.le_of_ble_eq_true rfl) ?_
  have h1 : -2147483648 ≤ v ∧ v ≤ 2147483647 := hv2
  have h2 : -2147483648 ≤ a ∧ a ≤ 2147483647 := ha2
  by_cases c : v < a
  · skip
    refine r_aload_n d_X8_isNumber_0 rfl ?_
    refine r_geti d_X8_isNumber_1 f_X8_166 (tt_139 _ _) (by decide) (by decide) ?_
    refine r_aload_n d_X8_isNumber_4 rfl ?_
    refine r_geti d_X8_isNumber_5 f_X8_169 (tt_139 _ _) (by decide) (by decide) ?_
    refine r_icmp_lt d_X8_isNumber_8 (by omega) (by omega) (fun c8 => ?_) (fun c8 => absurd c8 (by omega))
    refine r_iconst d_X8_isNumber_15 ?_
    refine r_zret d_X8_isNumber_16 rfl (by omega) ?_
    exact ⟨_, rfl, by rw [if_pos c], same_rf⟩
  · skip
    refine r_aload_n d_X8_isNumber_0 rfl ?_
    refine r_geti d_X8_isNumber_1 f_X8_166 (tt_139 _ _) (by decide) (by decide) ?_
    refine r_aload_n d_X8_isNumber_4 rfl ?_
    refine r_geti d_X8_isNumber_5 f_X8_169 (tt_139 _ _) (by decide) (by decide) ?_
    refine r_icmp_lt d_X8_isNumber_8 (by omega) (by omega) (fun c8 => absurd c8 (by omega)) (fun c8 => ?_)
    refine r_iconst d_X8_isNumber_11 ?_
    refine r_goto d_X8_isNumber_12 ?_
    refine r_zret d_X8_isNumber_16 rfl (by omega) ?_
    exact ⟨_, rfl, by rw [if_neg c], same_rf⟩
end X9l
