/-! 53.minit: the contract of the reference's constructor -/
def m0 : MS := (fun _ => 0, fun _ => 0, fun _ => 0, fun _ => false, fun _ => 0, fun _ => 0, fun _ => 0, 0, 0, 0, 0, 0, 0, 0)
def mf (lm : Nat → Nat) (t i : Nat) : Value := if i < t then .ref (lm (i + 1)) else .null
/-- the fields when t rows are made -/
def mF0 (lm : Nat → Nat) (t : Nat) : List Value := [mf lm t 0, mf lm t 1, mf lm t 2, mf lm t 3, mf lm t 4, mf lm t 5, mf lm t 6, mf lm t 7, mf lm t 8, mf lm t 9, mf lm t 10, mf lm t 11, mf lm t 12, mf lm t 13, mf lm t 14, mf lm t 15, mf lm t 16, mf lm t 17, mf lm t 18, mf lm t 19, mf lm t 20, .int 0, .int 0, .int 0, .int 0, .int 0, .int 0, .int 0, .long 0, .long 0, .long 0, .long 0]
def MI (G : GT) (lm : Nat → Nat) (t : Nat) (u0 u : WT) : Prop := lm 0 ∈ u.1 ∧ u.2 (lm 0) = .inr (8, mF0 lm t) ∧ (∀ k, 1 ≤ k → k ≤ t → lm k ∈ u.1 ∧ u.2 (lm k) = cM G (fun _ => 0) q0 m0 k) ∧ (∀ i j, i ≤ t → j ≤ t → lm i = lm j → i = j) ∧ (∀ k, 1 ≤ k → k ≤ t → lm k ∉ u0.1) ∧ ∀ c, c ∈ u0.1 → c ≠ lm 0 → c ∈ u.1 ∧ u.2 c = u0.2 c
theorem MI.step {G : GT} {lm : Nat → Nat} {t : Nat} {u0 u u1 u2 : WT} {q : Nat} (h : MI G lm t u0 u) (h0 : ∀ c, c ∈ u0.1 → c ∈ u.1) (nb : NB u u1 q (cM G (fun _ => 0) q0 m0 (t + 1))) (n2 : N1 u1 u2 (lm 0) (.inr (8, mF0 (va_up lm (t + 1) q) (t + 1)))) : MI G (va_up lm (t + 1) q) (t + 1) u0 u2 := by
  obtain ⟨h1, h2, h3, h4, h5, h6⟩ := h
  have hne : ∀ k, k ≤ t → lm k ∈ u.1 := fun k hk => by
    rcases Nat.eq_zero_or_pos k with h | h
    · subst h; exact h1
    · exact (h3 k h hk).1
  have e0 : ∀ k, k ≤ t → va_up lm (t + 1) q k = lm k := fun k hk => va_up_ne _ _ (by omega)
  have hq0 : ∀ k, k ≤ t → lm k ≠ q := fun k hk => nb.ne (hne k hk)
  refine ⟨?_, ?_, fun k hk1 hk2 => ?_, fun i j hi hj hij => ?_, fun k hk1 hk2 => ?_, fun c hc hc0 => ?_⟩
  · rw [e0 0 (by omega), n2.1]; exact nb.mem h1
  · rw [e0 0 (by omega)]; exact n2.2.1
  · by_cases hk : k = t + 1
    · subst hk
      rw [va_up_self, n2.1]
      exact ⟨nb.in, (n2.2.2 q (Ne.symm (hq0 0 (by omega)))).trans nb.2.2.1⟩
    · rw [e0 k (by omega), n2.1]
      refine ⟨nb.mem (h3 k hk1 (by omega)).1, (n2.2.2 _ (fun e => ?_)).trans ((nb.at (h3 k hk1 (by omega)).1).trans (h3 k hk1 (by omega)).2)⟩
      have := h4 k 0 (by omega) (by omega) e; omega
  · by_cases hi1 : i = t + 1
    · by_cases hj1 : j = t + 1
      · omega
      · subst hi1; rw [va_up_self, e0 j (by omega)] at hij; exact absurd hij.symm (hq0 j (by omega))
    · by_cases hj1 : j = t + 1
      · subst hj1; rw [va_up_self, e0 i (by omega)] at hij; exact absurd hij (hq0 i (by omega))
      · rw [e0 i (by omega), e0 j (by omega)] at hij; exact h4 i j (by omega) (by omega) hij
  · by_cases hk : k = t + 1
    · subst hk; rw [va_up_self]; exact fun h => nb.1 (h0 _ h)
    · rw [e0 k (by omega)]; exact h5 k hk1 (by omega)
  · rw [e0 0 (by omega)] at hc0
    rw [n2.1]
    exact ⟨nb.mem (h0 c hc), (n2.2.2 c hc0).trans ((nb.at (h0 c hc)).trans (h6 c hc hc0).2)⟩
theorem MI.sub {G : GT} {lm : Nat → Nat} {t : Nat} {u0 u : WT} (h : MI G lm t u0 u) : ∀ c, c ∈ u0.1 → c ∈ u.1 := fun c hc => by
  by_cases h0 : c = lm 0
  · rw [h0]; exact h.1
  · exact (h.2.2.2.2.2 c hc h0).1
theorem MI.done {G : GT} {lm : Nat → Nat} {u0 u : WT} (h : MI G lm 21 u0 u) : rM G lm q0 m0 u := by
  obtain ⟨h1, h2, h3, h4, h5, h6⟩ := h
  refine ⟨fun k hk => ?_, fun i j hi hj => h4 i j (by omega) (by omega), fun j k hj => absurd hj (Nat.not_lt_zero _), Nat.zero_le _⟩
  rcases Nat.eq_zero_or_pos k with h | h
  · subst h; exact ⟨h1, h2⟩
  · refine ⟨(h3 k h (by omega)).1, (h3 k h (by omega)).2.trans ?_⟩
    exact c22 (P := fun k => 0 < k → cM G (fun _ => 0) q0 m0 k = cM G lm q0 m0 k) (fun h => absurd h (by omega)) (fun _ => rfl) (fun _ => rfl) (fun _ => rfl) (fun _ => rfl) (fun _ => rfl) (fun _ => rfl) (fun _ => rfl) (fun _ => rfl) (fun _ => rfl) (fun _ => rfl) (fun _ => rfl) (fun _ => rfl) (fun _ => rfl) (fun _ => rfl) (fun _ => rfl) (fun _ => rfl) (fun _ => rfl) (fun _ => rfl) (fun _ => rfl) (fun _ => rfl) (fun _ => rfl) k hk h
set_option maxHeartbeats 4000000 in
set_option maxRecDepth 100000 in
theorem c_M_init (l : Launch) (G : GT) (A : Nat → Prop) (u : WT) (a : Nat) (ha : a ∈ u.1) (he : u.2 a = .inr (8, mF0 (fun _ => a) 0)) : Kt l y_M_init b_M_init 1 none 1 40 21 536 21 536 0 0 G A u [.ref a] (KQ G A (Rv (fun u' => ∃ lm, lm 0 = a ∧ rM G lm q0 m0 u' ∧ (∀ k, 1 ≤ k → k < 22 → lm k ∉ u.1) ∧ ∀ c, c ∈ u.1 → c ≠ a → c ∈ u'.1 ∧ u'.2 c = u.2 c))) (NX) := by
  refine k_of (by decide) (Nat.le_of_ble_eq_true rfl) (fun p e st m below meth c ls hx hb hr hlocks hml htab hname hown ht hw hl => ?_)
  have hl : lv_has ls 1 [(0, .ref a)] := hl
  refine lv_aload_n hx hb d_M_init_0 rfl (lv_at hl 0 rfl) ?_
  refine k_objInit hx hb (hml.trans hl.1.symm) ht hown gw_796 gw_69 gw_70 d_M_init_1 (by first | decide | (dsimp only; omega)) (by first | decide | (dsimp only; omega) | exact Nat.le_of_ble_eq_true rfl) ?_
  obtain ⟨lm, hlm0, hMI⟩ : ∃ lm, lm 0 = a ∧ MI G lm 0 u u := ⟨fun _ => a, rfl, ha, he, fun k h1 h2 => absurd h1 (by omega), fun i j hi hj _ => by omega, fun k h1 h2 => absurd h1 (by omega), fun c hc _ => ⟨hc, rfl⟩⟩
  refine lv_aload_n hx hb d_M_init_4 rfl (lv_at hl 0 rfl) ?_
  refine lv_bipush (v := 16) hx hb d_M_init_5 (by decide) ?_
  refine k_newa 1 (atype := .int) (ty := .int) (N' := 16) (a0 := (16, .inl (fun _ => 0))) hx hb ht gw_894 rfl hw rfl (fun cA => by rw [vp_cell_i]; rfl) (by decide) (by decide) (by decide) (by first | decide | (dsimp only; omega)) (by first | decide | (dsimp only; omega)) d_M_init_7 (fun q1 H1 hq1 hwa1 => ?_)
  obtain ⟨ua1, hu1⟩ : ∃ v : WT, v = (u.1 ++ [q1], va_up u.2 q1 (.inl (G.2.1 1, 16, .inl (fun _ => 0)))) := ⟨_, rfl⟩
  rw [← hu1] at hwa1
  have nb1 : NB u ua1 q1 (cM G (fun _ => 0) q0 m0 1) := by rw [hu1]; exact ⟨hq1, rfl, va_up_self _ _ _, fun x hx => va_up_ne _ _ hx⟩
  have hA1 : a ∈ ua1.1 := by rw [← hlm0]; exact nb1.mem hMI.1
  have hE1 : ua1.2 a = .inr (8, mF0 lm 0) := by rw [← hlm0]; exact (nb1.at hMI.1).trans hMI.2.1
  refine x_putF hx hb ht i_M t_M t_M_ok n_M hown hwa1 hA1 hE1 (v := .ref q1) (ty := .array .int) (fs' := mF0 (va_up lm 1 q1) 1) rfl 0 (by decide) gw_797 (Or.inl rfl) rfl hname rfl rfl (by decide +kernel) rfl rfl (Nat.le_of_ble_eq_true rfl) d_M_init_9 (fun H1 locs1 ub1 hwb1 n1 => ?_)
  obtain ⟨lm, hlm0, hMI⟩ : ∃ lm', lm' 0 = a ∧ MI G lm' 1 u ub1 := ⟨_, (va_up_ne _ _ (by decide)).trans hlm0, hMI.step hMI.sub nb1 (by rw [hlm0]; exact n1)⟩
  refine lv_aload_n hx hb d_M_init_12 rfl (lv_at hl 0 rfl) ?_
  refine lv_bipush (v := 64) hx hb d_M_init_13 (by decide) ?_
  refine k_newa 1 (atype := .int) (ty := .int) (N' := 64) (a0 := (64, .inl (fun _ => 0))) hx hb ht gw_894 rfl hwb1 rfl (fun cA => by rw [vp_cell_i]; rfl) (by decide) (by decide) (by decide) (by first | decide | (dsimp only; omega)) (by first | decide | (dsimp only; omega)) d_M_init_15 (fun q2 H2 hq2 hwa2 => ?_)
  obtain ⟨ua2, hu2⟩ : ∃ v : WT, v = (ub1.1 ++ [q2], va_up ub1.2 q2 (.inl (G.2.1 1, 64, .inl (fun _ => 0)))) := ⟨_, rfl⟩
  rw [← hu2] at hwa2
  have nb2 : NB ub1 ua2 q2 (cM G (fun _ => 0) q0 m0 2) := by rw [hu2]; exact ⟨hq2, rfl, va_up_self _ _ _, fun x hx => va_up_ne _ _ hx⟩
  have hA2 : a ∈ ua2.1 := by rw [← hlm0]; exact nb2.mem hMI.1
  have hE2 : ua2.2 a = .inr (8, mF0 lm 1) := by rw [← hlm0]; exact (nb2.at hMI.1).trans hMI.2.1
  refine x_putF hx hb ht i_M t_M t_M_ok n_M hown hwa2 hA2 hE2 (v := .ref q2) (ty := .array .int) (fs' := mF0 (va_up lm 2 q2) 2) rfl 1 (by decide) gw_798 (Or.inl rfl) rfl hname rfl rfl (by decide +kernel) rfl rfl (Nat.le_of_ble_eq_true rfl) d_M_init_17 (fun H2 locs2 ub2 hwb2 n2 => ?_)
  obtain ⟨lm, hlm0, hMI⟩ : ∃ lm', lm' 0 = a ∧ MI G lm' 2 u ub2 := ⟨_, (va_up_ne _ _ (by decide)).trans hlm0, hMI.step hMI.sub nb2 (by rw [hlm0]; exact n2)⟩
  refine lv_aload_n hx hb d_M_init_20 rfl (lv_at hl 0 rfl) ?_
  refine lv_bipush (v := 16) hx hb d_M_init_21 (by decide) ?_
  refine k_newa 0 (atype := .long) (ty := .long) (N' := 16) (a0 := (16, lgs (fun _ => 0))) hx hb ht gw_96 rfl hwb2 rfl (fun cA => by rw [vp_cell_l]; rfl) (by decide) (by decide) (by decide) (by first | decide | (dsimp only; omega)) (by first | decide | (dsimp only; omega)) d_M_init_23 (fun q3 H3 hq3 hwa3 => ?_)
  obtain ⟨ua3, hu3⟩ : ∃ v : WT, v = (ub2.1 ++ [q3], va_up ub2.2 q3 (.inl (G.2.1 0, 16, lgs (fun _ => 0)))) := ⟨_, rfl⟩
  rw [← hu3] at hwa3
  have nb3 : NB ub2 ua3 q3 (cM G (fun _ => 0) q0 m0 3) := by rw [hu3]; exact ⟨hq3, rfl, va_up_self _ _ _, fun x hx => va_up_ne _ _ hx⟩
  have hA3 : a ∈ ua3.1 := by rw [← hlm0]; exact nb3.mem hMI.1
  have hE3 : ua3.2 a = .inr (8, mF0 lm 2) := by rw [← hlm0]; exact (nb3.at hMI.1).trans hMI.2.1
  refine x_putF hx hb ht i_M t_M t_M_ok n_M hown hwa3 hA3 hE3 (v := .ref q3) (ty := .array .long) (fs' := mF0 (va_up lm 3 q3) 3) rfl 2 (by decide) gw_799 (Or.inl rfl) rfl hname rfl rfl (by decide +kernel) rfl rfl (Nat.le_of_ble_eq_true rfl) d_M_init_25 (fun H3 locs3 ub3 hwb3 n3 => ?_)
  obtain ⟨lm, hlm0, hMI⟩ : ∃ lm', lm' 0 = a ∧ MI G lm' 3 u ub3 := ⟨_, (va_up_ne _ _ (by decide)).trans hlm0, hMI.step hMI.sub nb3 (by rw [hlm0]; exact n3)⟩
  refine lv_aload_n hx hb d_M_init_28 rfl (lv_at hl 0 rfl) ?_
  refine lv_bipush (v := 16) hx hb d_M_init_29 (by decide) ?_
  refine k_newa 2 (atype := .boolean) (ty := .boolean) (N' := 16) (a0 := (16, .inl (fun _ => 0))) hx hb ht gw_895 rfl hwb3 rfl (fun cA => by rw [vp_cell_i]; rfl) (by decide) (by decide) (by decide) (by first | decide | (dsimp only; omega)) (by first | decide | (dsimp only; omega)) d_M_init_31 (fun q4 H4 hq4 hwa4 => ?_)
  obtain ⟨ua4, hu4⟩ : ∃ v : WT, v = (ub3.1 ++ [q4], va_up ub3.2 q4 (.inl (G.2.1 2, 16, .inl (fun _ => 0)))) := ⟨_, rfl⟩
  rw [← hu4] at hwa4
  have nb4 : NB ub3 ua4 q4 (cM G (fun _ => 0) q0 m0 4) := by rw [hu4]; exact ⟨hq4, rfl, va_up_self _ _ _, fun x hx => va_up_ne _ _ hx⟩
  have hA4 : a ∈ ua4.1 := by rw [← hlm0]; exact nb4.mem hMI.1
  have hE4 : ua4.2 a = .inr (8, mF0 lm 3) := by rw [← hlm0]; exact (nb4.at hMI.1).trans hMI.2.1
  refine x_putF hx hb ht i_M t_M t_M_ok n_M hown hwa4 hA4 hE4 (v := .ref q4) (ty := .array .boolean) (fs' := mF0 (va_up lm 4 q4) 4) rfl 3 (by decide) gw_800 (Or.inl rfl) rfl hname rfl rfl (by decide +kernel) rfl rfl (Nat.le_of_ble_eq_true rfl) d_M_init_33 (fun H4 locs4 ub4 hwb4 n4 => ?_)
  obtain ⟨lm, hlm0, hMI⟩ : ∃ lm', lm' 0 = a ∧ MI G lm' 4 u ub4 := ⟨_, (va_up_ne _ _ (by decide)).trans hlm0, hMI.step hMI.sub nb4 (by rw [hlm0]; exact n4)⟩
  refine lv_aload_n hx hb d_M_init_36 rfl (lv_at hl 0 rfl) ?_
  refine lv_bipush (v := 16) hx hb d_M_init_37 (by decide) ?_
  refine k_newa 2 (atype := .boolean) (ty := .boolean) (N' := 16) (a0 := (16, .inl (fun _ => 0))) hx hb ht gw_895 rfl hwb4 rfl (fun cA => by rw [vp_cell_i]; rfl) (by decide) (by decide) (by decide) (by first | decide | (dsimp only; omega)) (by first | decide | (dsimp only; omega)) d_M_init_39 (fun q5 H5 hq5 hwa5 => ?_)
  obtain ⟨ua5, hu5⟩ : ∃ v : WT, v = (ub4.1 ++ [q5], va_up ub4.2 q5 (.inl (G.2.1 2, 16, .inl (fun _ => 0)))) := ⟨_, rfl⟩
  rw [← hu5] at hwa5
  have nb5 : NB ub4 ua5 q5 (cM G (fun _ => 0) q0 m0 5) := by rw [hu5]; exact ⟨hq5, rfl, va_up_self _ _ _, fun x hx => va_up_ne _ _ hx⟩
  have hA5 : a ∈ ua5.1 := by rw [← hlm0]; exact nb5.mem hMI.1
  have hE5 : ua5.2 a = .inr (8, mF0 lm 4) := by rw [← hlm0]; exact (nb5.at hMI.1).trans hMI.2.1
  refine x_putF hx hb ht i_M t_M t_M_ok n_M hown hwa5 hA5 hE5 (v := .ref q5) (ty := .array .boolean) (fs' := mF0 (va_up lm 5 q5) 5) rfl 4 (by decide) gw_801 (Or.inl rfl) rfl hname rfl rfl (by decide +kernel) rfl rfl (Nat.le_of_ble_eq_true rfl) d_M_init_41 (fun H5 locs5 ub5 hwb5 n5 => ?_)
  obtain ⟨lm, hlm0, hMI⟩ : ∃ lm', lm' 0 = a ∧ MI G lm' 5 u ub5 := ⟨_, (va_up_ne _ _ (by decide)).trans hlm0, hMI.step hMI.sub nb5 (by rw [hlm0]; exact n5)⟩
  refine lv_aload_n hx hb d_M_init_44 rfl (lv_at hl 0 rfl) ?_
  refine lv_bipush (v := 16) hx hb d_M_init_45 (by decide) ?_
  refine k_newa 2 (atype := .boolean) (ty := .boolean) (N' := 16) (a0 := (16, .inl (fun _ => 0))) hx hb ht gw_895 rfl hwb5 rfl (fun cA => by rw [vp_cell_i]; rfl) (by decide) (by decide) (by decide) (by first | decide | (dsimp only; omega)) (by first | decide | (dsimp only; omega)) d_M_init_47 (fun q6 H6 hq6 hwa6 => ?_)
  obtain ⟨ua6, hu6⟩ : ∃ v : WT, v = (ub5.1 ++ [q6], va_up ub5.2 q6 (.inl (G.2.1 2, 16, .inl (fun _ => 0)))) := ⟨_, rfl⟩
  rw [← hu6] at hwa6
  have nb6 : NB ub5 ua6 q6 (cM G (fun _ => 0) q0 m0 6) := by rw [hu6]; exact ⟨hq6, rfl, va_up_self _ _ _, fun x hx => va_up_ne _ _ hx⟩
  have hA6 : a ∈ ua6.1 := by rw [← hlm0]; exact nb6.mem hMI.1
  have hE6 : ua6.2 a = .inr (8, mF0 lm 5) := by rw [← hlm0]; exact (nb6.at hMI.1).trans hMI.2.1
  refine x_putF hx hb ht i_M t_M t_M_ok n_M hown hwa6 hA6 hE6 (v := .ref q6) (ty := .array .boolean) (fs' := mF0 (va_up lm 6 q6) 6) rfl 5 (by decide) gw_802 (Or.inl rfl) rfl hname rfl rfl (by decide +kernel) rfl rfl (Nat.le_of_ble_eq_true rfl) d_M_init_49 (fun H6 locs6 ub6 hwb6 n6 => ?_)
  obtain ⟨lm, hlm0, hMI⟩ : ∃ lm', lm' 0 = a ∧ MI G lm' 6 u ub6 := ⟨_, (va_up_ne _ _ (by decide)).trans hlm0, hMI.step hMI.sub nb6 (by rw [hlm0]; exact n6)⟩
  refine lv_aload_n hx hb d_M_init_52 rfl (lv_at hl 0 rfl) ?_
  refine lv_bipush (v := 16) hx hb d_M_init_53 (by decide) ?_
  refine k_newa 1 (atype := .int) (ty := .int) (N' := 16) (a0 := (16, .inl (fun _ => 0))) hx hb ht gw_894 rfl hwb6 rfl (fun cA => by rw [vp_cell_i]; rfl) (by decide) (by decide) (by decide) (by first | decide | (dsimp only; omega)) (by first | decide | (dsimp only; omega)) d_M_init_55 (fun q7 H7 hq7 hwa7 => ?_)
  obtain ⟨ua7, hu7⟩ : ∃ v : WT, v = (ub6.1 ++ [q7], va_up ub6.2 q7 (.inl (G.2.1 1, 16, .inl (fun _ => 0)))) := ⟨_, rfl⟩
  rw [← hu7] at hwa7
  have nb7 : NB ub6 ua7 q7 (cM G (fun _ => 0) q0 m0 7) := by rw [hu7]; exact ⟨hq7, rfl, va_up_self _ _ _, fun x hx => va_up_ne _ _ hx⟩
  have hA7 : a ∈ ua7.1 := by rw [← hlm0]; exact nb7.mem hMI.1
  have hE7 : ua7.2 a = .inr (8, mF0 lm 6) := by rw [← hlm0]; exact (nb7.at hMI.1).trans hMI.2.1
  refine x_putF hx hb ht i_M t_M t_M_ok n_M hown hwa7 hA7 hE7 (v := .ref q7) (ty := .array .int) (fs' := mF0 (va_up lm 7 q7) 7) rfl 6 (by decide) gw_803 (Or.inl rfl) rfl hname rfl rfl (by decide +kernel) rfl rfl (Nat.le_of_ble_eq_true rfl) d_M_init_57 (fun H7 locs7 ub7 hwb7 n7 => ?_)
  obtain ⟨lm, hlm0, hMI⟩ : ∃ lm', lm' 0 = a ∧ MI G lm' 7 u ub7 := ⟨_, (va_up_ne _ _ (by decide)).trans hlm0, hMI.step hMI.sub nb7 (by rw [hlm0]; exact n7)⟩
  refine lv_aload_n hx hb d_M_init_60 rfl (lv_at hl 0 rfl) ?_
  refine lv_bipush (v := 16) hx hb d_M_init_61 (by decide) ?_
  refine k_newa 0 (atype := .long) (ty := .long) (N' := 16) (a0 := (16, lgs (fun _ => 0))) hx hb ht gw_96 rfl hwb7 rfl (fun cA => by rw [vp_cell_l]; rfl) (by decide) (by decide) (by decide) (by first | decide | (dsimp only; omega)) (by first | decide | (dsimp only; omega)) d_M_init_63 (fun q8 H8 hq8 hwa8 => ?_)
  obtain ⟨ua8, hu8⟩ : ∃ v : WT, v = (ub7.1 ++ [q8], va_up ub7.2 q8 (.inl (G.2.1 0, 16, lgs (fun _ => 0)))) := ⟨_, rfl⟩
  rw [← hu8] at hwa8
  have nb8 : NB ub7 ua8 q8 (cM G (fun _ => 0) q0 m0 8) := by rw [hu8]; exact ⟨hq8, rfl, va_up_self _ _ _, fun x hx => va_up_ne _ _ hx⟩
  have hA8 : a ∈ ua8.1 := by rw [← hlm0]; exact nb8.mem hMI.1
  have hE8 : ua8.2 a = .inr (8, mF0 lm 7) := by rw [← hlm0]; exact (nb8.at hMI.1).trans hMI.2.1
  refine x_putF hx hb ht i_M t_M t_M_ok n_M hown hwa8 hA8 hE8 (v := .ref q8) (ty := .array .long) (fs' := mF0 (va_up lm 8 q8) 8) rfl 7 (by decide) gw_804 (Or.inl rfl) rfl hname rfl rfl (by decide +kernel) rfl rfl (Nat.le_of_ble_eq_true rfl) d_M_init_65 (fun H8 locs8 ub8 hwb8 n8 => ?_)
  obtain ⟨lm, hlm0, hMI⟩ : ∃ lm', lm' 0 = a ∧ MI G lm' 8 u ub8 := ⟨_, (va_up_ne _ _ (by decide)).trans hlm0, hMI.step hMI.sub nb8 (by rw [hlm0]; exact n8)⟩
  refine lv_aload_n hx hb d_M_init_68 rfl (lv_at hl 0 rfl) ?_
  refine lv_bipush (v := 16) hx hb d_M_init_69 (by decide) ?_
  refine k_newa 0 (atype := .long) (ty := .long) (N' := 16) (a0 := (16, lgs (fun _ => 0))) hx hb ht gw_96 rfl hwb8 rfl (fun cA => by rw [vp_cell_l]; rfl) (by decide) (by decide) (by decide) (by first | decide | (dsimp only; omega)) (by first | decide | (dsimp only; omega)) d_M_init_71 (fun q9 H9 hq9 hwa9 => ?_)
  obtain ⟨ua9, hu9⟩ : ∃ v : WT, v = (ub8.1 ++ [q9], va_up ub8.2 q9 (.inl (G.2.1 0, 16, lgs (fun _ => 0)))) := ⟨_, rfl⟩
  rw [← hu9] at hwa9
  have nb9 : NB ub8 ua9 q9 (cM G (fun _ => 0) q0 m0 9) := by rw [hu9]; exact ⟨hq9, rfl, va_up_self _ _ _, fun x hx => va_up_ne _ _ hx⟩
  have hA9 : a ∈ ua9.1 := by rw [← hlm0]; exact nb9.mem hMI.1
  have hE9 : ua9.2 a = .inr (8, mF0 lm 8) := by rw [← hlm0]; exact (nb9.at hMI.1).trans hMI.2.1
  refine x_putF hx hb ht i_M t_M t_M_ok n_M hown hwa9 hA9 hE9 (v := .ref q9) (ty := .array .long) (fs' := mF0 (va_up lm 9 q9) 9) rfl 8 (by decide) gw_805 (Or.inl rfl) rfl hname rfl rfl (by decide +kernel) rfl rfl (Nat.le_of_ble_eq_true rfl) d_M_init_73 (fun H9 locs9 ub9 hwb9 n9 => ?_)
  obtain ⟨lm, hlm0, hMI⟩ : ∃ lm', lm' 0 = a ∧ MI G lm' 9 u ub9 := ⟨_, (va_up_ne _ _ (by decide)).trans hlm0, hMI.step hMI.sub nb9 (by rw [hlm0]; exact n9)⟩
  refine lv_aload_n hx hb d_M_init_76 rfl (lv_at hl 0 rfl) ?_
  refine lv_bipush (v := 16) hx hb d_M_init_77 (by decide) ?_
  refine k_newa 1 (atype := .int) (ty := .int) (N' := 16) (a0 := (16, .inl (fun _ => 0))) hx hb ht gw_894 rfl hwb9 rfl (fun cA => by rw [vp_cell_i]; rfl) (by decide) (by decide) (by decide) (by first | decide | (dsimp only; omega)) (by first | decide | (dsimp only; omega)) d_M_init_79 (fun q10 H10 hq10 hwa10 => ?_)
  obtain ⟨ua10, hu10⟩ : ∃ v : WT, v = (ub9.1 ++ [q10], va_up ub9.2 q10 (.inl (G.2.1 1, 16, .inl (fun _ => 0)))) := ⟨_, rfl⟩
  rw [← hu10] at hwa10
  have nb10 : NB ub9 ua10 q10 (cM G (fun _ => 0) q0 m0 10) := by rw [hu10]; exact ⟨hq10, rfl, va_up_self _ _ _, fun x hx => va_up_ne _ _ hx⟩
  have hA10 : a ∈ ua10.1 := by rw [← hlm0]; exact nb10.mem hMI.1
  have hE10 : ua10.2 a = .inr (8, mF0 lm 9) := by rw [← hlm0]; exact (nb10.at hMI.1).trans hMI.2.1
  refine x_putF hx hb ht i_M t_M t_M_ok n_M hown hwa10 hA10 hE10 (v := .ref q10) (ty := .array .int) (fs' := mF0 (va_up lm 10 q10) 10) rfl 9 (by decide) gw_806 (Or.inl rfl) rfl hname rfl rfl (by decide +kernel) rfl rfl (Nat.le_of_ble_eq_true rfl) d_M_init_81 (fun H10 locs10 ub10 hwb10 n10 => ?_)
  obtain ⟨lm, hlm0, hMI⟩ : ∃ lm', lm' 0 = a ∧ MI G lm' 10 u ub10 := ⟨_, (va_up_ne _ _ (by decide)).trans hlm0, hMI.step hMI.sub nb10 (by rw [hlm0]; exact n10)⟩
  refine lv_aload_n hx hb d_M_init_84 rfl (lv_at hl 0 rfl) ?_
  refine lv_bipush (v := 16) hx hb d_M_init_85 (by decide) ?_
  refine k_newa 1 (atype := .int) (ty := .int) (N' := 16) (a0 := (16, .inl (fun _ => 0))) hx hb ht gw_894 rfl hwb10 rfl (fun cA => by rw [vp_cell_i]; rfl) (by decide) (by decide) (by decide) (by first | decide | (dsimp only; omega)) (by first | decide | (dsimp only; omega)) d_M_init_87 (fun q11 H11 hq11 hwa11 => ?_)
  obtain ⟨ua11, hu11⟩ : ∃ v : WT, v = (ub10.1 ++ [q11], va_up ub10.2 q11 (.inl (G.2.1 1, 16, .inl (fun _ => 0)))) := ⟨_, rfl⟩
  rw [← hu11] at hwa11
  have nb11 : NB ub10 ua11 q11 (cM G (fun _ => 0) q0 m0 11) := by rw [hu11]; exact ⟨hq11, rfl, va_up_self _ _ _, fun x hx => va_up_ne _ _ hx⟩
  have hA11 : a ∈ ua11.1 := by rw [← hlm0]; exact nb11.mem hMI.1
  have hE11 : ua11.2 a = .inr (8, mF0 lm 10) := by rw [← hlm0]; exact (nb11.at hMI.1).trans hMI.2.1
  refine x_putF hx hb ht i_M t_M t_M_ok n_M hown hwa11 hA11 hE11 (v := .ref q11) (ty := .array .int) (fs' := mF0 (va_up lm 11 q11) 11) rfl 10 (by decide) gw_807 (Or.inl rfl) rfl hname rfl rfl (by decide +kernel) rfl rfl (Nat.le_of_ble_eq_true rfl) d_M_init_89 (fun H11 locs11 ub11 hwb11 n11 => ?_)
  obtain ⟨lm, hlm0, hMI⟩ : ∃ lm', lm' 0 = a ∧ MI G lm' 11 u ub11 := ⟨_, (va_up_ne _ _ (by decide)).trans hlm0, hMI.step hMI.sub nb11 (by rw [hlm0]; exact n11)⟩
  refine lv_aload_n hx hb d_M_init_92 rfl (lv_at hl 0 rfl) ?_
  refine lv_bipush (v := 16) hx hb d_M_init_93 (by decide) ?_
  refine k_newa 1 (atype := .int) (ty := .int) (N' := 16) (a0 := (16, .inl (fun _ => 0))) hx hb ht gw_894 rfl hwb11 rfl (fun cA => by rw [vp_cell_i]; rfl) (by decide) (by decide) (by decide) (by first | decide | (dsimp only; omega)) (by first | decide | (dsimp only; omega)) d_M_init_95 (fun q12 H12 hq12 hwa12 => ?_)
  obtain ⟨ua12, hu12⟩ : ∃ v : WT, v = (ub11.1 ++ [q12], va_up ub11.2 q12 (.inl (G.2.1 1, 16, .inl (fun _ => 0)))) := ⟨_, rfl⟩
  rw [← hu12] at hwa12
  have nb12 : NB ub11 ua12 q12 (cM G (fun _ => 0) q0 m0 12) := by rw [hu12]; exact ⟨hq12, rfl, va_up_self _ _ _, fun x hx => va_up_ne _ _ hx⟩
  have hA12 : a ∈ ua12.1 := by rw [← hlm0]; exact nb12.mem hMI.1
  have hE12 : ua12.2 a = .inr (8, mF0 lm 11) := by rw [← hlm0]; exact (nb12.at hMI.1).trans hMI.2.1
  refine x_putF hx hb ht i_M t_M t_M_ok n_M hown hwa12 hA12 hE12 (v := .ref q12) (ty := .array .int) (fs' := mF0 (va_up lm 12 q12) 12) rfl 11 (by decide) gw_808 (Or.inl rfl) rfl hname rfl rfl (by decide +kernel) rfl rfl (Nat.le_of_ble_eq_true rfl) d_M_init_97 (fun H12 locs12 ub12 hwb12 n12 => ?_)
  obtain ⟨lm, hlm0, hMI⟩ : ∃ lm', lm' 0 = a ∧ MI G lm' 12 u ub12 := ⟨_, (va_up_ne _ _ (by decide)).trans hlm0, hMI.step hMI.sub nb12 (by rw [hlm0]; exact n12)⟩
  refine lv_aload_n hx hb d_M_init_100 rfl (lv_at hl 0 rfl) ?_
  refine lv_bipush (v := 16) hx hb d_M_init_101 (by decide) ?_
  refine k_newa 2 (atype := .boolean) (ty := .boolean) (N' := 16) (a0 := (16, .inl (fun _ => 0))) hx hb ht gw_895 rfl hwb12 rfl (fun cA => by rw [vp_cell_i]; rfl) (by decide) (by decide) (by decide) (by first | decide | (dsimp only; omega)) (by first | decide | (dsimp only; omega)) d_M_init_103 (fun q13 H13 hq13 hwa13 => ?_)
  obtain ⟨ua13, hu13⟩ : ∃ v : WT, v = (ub12.1 ++ [q13], va_up ub12.2 q13 (.inl (G.2.1 2, 16, .inl (fun _ => 0)))) := ⟨_, rfl⟩
  rw [← hu13] at hwa13
  have nb13 : NB ub12 ua13 q13 (cM G (fun _ => 0) q0 m0 13) := by rw [hu13]; exact ⟨hq13, rfl, va_up_self _ _ _, fun x hx => va_up_ne _ _ hx⟩
  have hA13 : a ∈ ua13.1 := by rw [← hlm0]; exact nb13.mem hMI.1
  have hE13 : ua13.2 a = .inr (8, mF0 lm 12) := by rw [← hlm0]; exact (nb13.at hMI.1).trans hMI.2.1
  refine x_putF hx hb ht i_M t_M t_M_ok n_M hown hwa13 hA13 hE13 (v := .ref q13) (ty := .array .boolean) (fs' := mF0 (va_up lm 13 q13) 13) rfl 12 (by decide) gw_809 (Or.inl rfl) rfl hname rfl rfl (by decide +kernel) rfl rfl (Nat.le_of_ble_eq_true rfl) d_M_init_105 (fun H13 locs13 ub13 hwb13 n13 => ?_)
  obtain ⟨lm, hlm0, hMI⟩ : ∃ lm', lm' 0 = a ∧ MI G lm' 13 u ub13 := ⟨_, (va_up_ne _ _ (by decide)).trans hlm0, hMI.step hMI.sub nb13 (by rw [hlm0]; exact n13)⟩
  refine lv_aload_n hx hb d_M_init_108 rfl (lv_at hl 0 rfl) ?_
  refine lv_bipush (v := 16) hx hb d_M_init_109 (by decide) ?_
  refine k_newa 1 (atype := .int) (ty := .int) (N' := 16) (a0 := (16, .inl (fun _ => 0))) hx hb ht gw_894 rfl hwb13 rfl (fun cA => by rw [vp_cell_i]; rfl) (by decide) (by decide) (by decide) (by first | decide | (dsimp only; omega)) (by first | decide | (dsimp only; omega)) d_M_init_111 (fun q14 H14 hq14 hwa14 => ?_)
  obtain ⟨ua14, hu14⟩ : ∃ v : WT, v = (ub13.1 ++ [q14], va_up ub13.2 q14 (.inl (G.2.1 1, 16, .inl (fun _ => 0)))) := ⟨_, rfl⟩
  rw [← hu14] at hwa14
  have nb14 : NB ub13 ua14 q14 (cM G (fun _ => 0) q0 m0 14) := by rw [hu14]; exact ⟨hq14, rfl, va_up_self _ _ _, fun x hx => va_up_ne _ _ hx⟩
  have hA14 : a ∈ ua14.1 := by rw [← hlm0]; exact nb14.mem hMI.1
  have hE14 : ua14.2 a = .inr (8, mF0 lm 13) := by rw [← hlm0]; exact (nb14.at hMI.1).trans hMI.2.1
  refine x_putF hx hb ht i_M t_M t_M_ok n_M hown hwa14 hA14 hE14 (v := .ref q14) (ty := .array .int) (fs' := mF0 (va_up lm 14 q14) 14) rfl 13 (by decide) gw_810 (Or.inl rfl) rfl hname rfl rfl (by decide +kernel) rfl rfl (Nat.le_of_ble_eq_true rfl) d_M_init_113 (fun H14 locs14 ub14 hwb14 n14 => ?_)
  obtain ⟨lm, hlm0, hMI⟩ : ∃ lm', lm' 0 = a ∧ MI G lm' 14 u ub14 := ⟨_, (va_up_ne _ _ (by decide)).trans hlm0, hMI.step hMI.sub nb14 (by rw [hlm0]; exact n14)⟩
  refine lv_aload_n hx hb d_M_init_116 rfl (lv_at hl 0 rfl) ?_
  refine lv_bipush (v := 16) hx hb d_M_init_117 (by decide) ?_
  refine k_newa 1 (atype := .int) (ty := .int) (N' := 16) (a0 := (16, .inl (fun _ => 0))) hx hb ht gw_894 rfl hwb14 rfl (fun cA => by rw [vp_cell_i]; rfl) (by decide) (by decide) (by decide) (by first | decide | (dsimp only; omega)) (by first | decide | (dsimp only; omega)) d_M_init_119 (fun q15 H15 hq15 hwa15 => ?_)
  obtain ⟨ua15, hu15⟩ : ∃ v : WT, v = (ub14.1 ++ [q15], va_up ub14.2 q15 (.inl (G.2.1 1, 16, .inl (fun _ => 0)))) := ⟨_, rfl⟩
  rw [← hu15] at hwa15
  have nb15 : NB ub14 ua15 q15 (cM G (fun _ => 0) q0 m0 15) := by rw [hu15]; exact ⟨hq15, rfl, va_up_self _ _ _, fun x hx => va_up_ne _ _ hx⟩
  have hA15 : a ∈ ua15.1 := by rw [← hlm0]; exact nb15.mem hMI.1
  have hE15 : ua15.2 a = .inr (8, mF0 lm 14) := by rw [← hlm0]; exact (nb15.at hMI.1).trans hMI.2.1
  refine x_putF hx hb ht i_M t_M t_M_ok n_M hown hwa15 hA15 hE15 (v := .ref q15) (ty := .array .int) (fs' := mF0 (va_up lm 15 q15) 15) rfl 14 (by decide) gw_811 (Or.inl rfl) rfl hname rfl rfl (by decide +kernel) rfl rfl (Nat.le_of_ble_eq_true rfl) d_M_init_121 (fun H15 locs15 ub15 hwb15 n15 => ?_)
  obtain ⟨lm, hlm0, hMI⟩ : ∃ lm', lm' 0 = a ∧ MI G lm' 15 u ub15 := ⟨_, (va_up_ne _ _ (by decide)).trans hlm0, hMI.step hMI.sub nb15 (by rw [hlm0]; exact n15)⟩
  refine lv_aload_n hx hb d_M_init_124 rfl (lv_at hl 0 rfl) ?_
  refine lv_bipush (v := 64) hx hb d_M_init_125 (by decide) ?_
  refine k_newa 1 (atype := .int) (ty := .int) (N' := 64) (a0 := (64, .inl (fun _ => 0))) hx hb ht gw_894 rfl hwb15 rfl (fun cA => by rw [vp_cell_i]; rfl) (by decide) (by decide) (by decide) (by first | decide | (dsimp only; omega)) (by first | decide | (dsimp only; omega)) d_M_init_127 (fun q16 H16 hq16 hwa16 => ?_)
  obtain ⟨ua16, hu16⟩ : ∃ v : WT, v = (ub15.1 ++ [q16], va_up ub15.2 q16 (.inl (G.2.1 1, 64, .inl (fun _ => 0)))) := ⟨_, rfl⟩
  rw [← hu16] at hwa16
  have nb16 : NB ub15 ua16 q16 (cM G (fun _ => 0) q0 m0 16) := by rw [hu16]; exact ⟨hq16, rfl, va_up_self _ _ _, fun x hx => va_up_ne _ _ hx⟩
  have hA16 : a ∈ ua16.1 := by rw [← hlm0]; exact nb16.mem hMI.1
  have hE16 : ua16.2 a = .inr (8, mF0 lm 15) := by rw [← hlm0]; exact (nb16.at hMI.1).trans hMI.2.1
  refine x_putF hx hb ht i_M t_M t_M_ok n_M hown hwa16 hA16 hE16 (v := .ref q16) (ty := .array .int) (fs' := mF0 (va_up lm 16 q16) 16) rfl 15 (by decide) gw_812 (Or.inl rfl) rfl hname rfl rfl (by decide +kernel) rfl rfl (Nat.le_of_ble_eq_true rfl) d_M_init_129 (fun H16 locs16 ub16 hwb16 n16 => ?_)
  obtain ⟨lm, hlm0, hMI⟩ : ∃ lm', lm' 0 = a ∧ MI G lm' 16 u ub16 := ⟨_, (va_up_ne _ _ (by decide)).trans hlm0, hMI.step hMI.sub nb16 (by rw [hlm0]; exact n16)⟩
  refine lv_aload_n hx hb d_M_init_132 rfl (lv_at hl 0 rfl) ?_
  refine lv_bipush (v := 64) hx hb d_M_init_133 (by decide) ?_
  refine k_newa 1 (atype := .int) (ty := .int) (N' := 64) (a0 := (64, .inl (fun _ => 0))) hx hb ht gw_894 rfl hwb16 rfl (fun cA => by rw [vp_cell_i]; rfl) (by decide) (by decide) (by decide) (by first | decide | (dsimp only; omega)) (by first | decide | (dsimp only; omega)) d_M_init_135 (fun q17 H17 hq17 hwa17 => ?_)
  obtain ⟨ua17, hu17⟩ : ∃ v : WT, v = (ub16.1 ++ [q17], va_up ub16.2 q17 (.inl (G.2.1 1, 64, .inl (fun _ => 0)))) := ⟨_, rfl⟩
  rw [← hu17] at hwa17
  have nb17 : NB ub16 ua17 q17 (cM G (fun _ => 0) q0 m0 17) := by rw [hu17]; exact ⟨hq17, rfl, va_up_self _ _ _, fun x hx => va_up_ne _ _ hx⟩
  have hA17 : a ∈ ua17.1 := by rw [← hlm0]; exact nb17.mem hMI.1
  have hE17 : ua17.2 a = .inr (8, mF0 lm 16) := by rw [← hlm0]; exact (nb17.at hMI.1).trans hMI.2.1
  refine x_putF hx hb ht i_M t_M t_M_ok n_M hown hwa17 hA17 hE17 (v := .ref q17) (ty := .array .int) (fs' := mF0 (va_up lm 17 q17) 17) rfl 16 (by decide) gw_813 (Or.inl rfl) rfl hname rfl rfl (by decide +kernel) rfl rfl (Nat.le_of_ble_eq_true rfl) d_M_init_137 (fun H17 locs17 ub17 hwb17 n17 => ?_)
  obtain ⟨lm, hlm0, hMI⟩ : ∃ lm', lm' 0 = a ∧ MI G lm' 17 u ub17 := ⟨_, (va_up_ne _ _ (by decide)).trans hlm0, hMI.step hMI.sub nb17 (by rw [hlm0]; exact n17)⟩
  refine lv_aload_n hx hb d_M_init_140 rfl (lv_at hl 0 rfl) ?_
  refine lv_bipush (v := 16) hx hb d_M_init_141 (by decide) ?_
  refine k_newa 0 (atype := .long) (ty := .long) (N' := 16) (a0 := (16, lgs (fun _ => 0))) hx hb ht gw_96 rfl hwb17 rfl (fun cA => by rw [vp_cell_l]; rfl) (by decide) (by decide) (by decide) (by first | decide | (dsimp only; omega)) (by first | decide | (dsimp only; omega)) d_M_init_143 (fun q18 H18 hq18 hwa18 => ?_)
  obtain ⟨ua18, hu18⟩ : ∃ v : WT, v = (ub17.1 ++ [q18], va_up ub17.2 q18 (.inl (G.2.1 0, 16, lgs (fun _ => 0)))) := ⟨_, rfl⟩
  rw [← hu18] at hwa18
  have nb18 : NB ub17 ua18 q18 (cM G (fun _ => 0) q0 m0 18) := by rw [hu18]; exact ⟨hq18, rfl, va_up_self _ _ _, fun x hx => va_up_ne _ _ hx⟩
  have hA18 : a ∈ ua18.1 := by rw [← hlm0]; exact nb18.mem hMI.1
  have hE18 : ua18.2 a = .inr (8, mF0 lm 17) := by rw [← hlm0]; exact (nb18.at hMI.1).trans hMI.2.1
  refine x_putF hx hb ht i_M t_M t_M_ok n_M hown hwa18 hA18 hE18 (v := .ref q18) (ty := .array .long) (fs' := mF0 (va_up lm 18 q18) 18) rfl 17 (by decide) gw_814 (Or.inl rfl) rfl hname rfl rfl (by decide +kernel) rfl rfl (Nat.le_of_ble_eq_true rfl) d_M_init_145 (fun H18 locs18 ub18 hwb18 n18 => ?_)
  obtain ⟨lm, hlm0, hMI⟩ : ∃ lm', lm' 0 = a ∧ MI G lm' 18 u ub18 := ⟨_, (va_up_ne _ _ (by decide)).trans hlm0, hMI.step hMI.sub nb18 (by rw [hlm0]; exact n18)⟩
  refine lv_aload_n hx hb d_M_init_148 rfl (lv_at hl 0 rfl) ?_
  refine lv_bipush (v := 16) hx hb d_M_init_149 (by decide) ?_
  refine k_newa 2 (atype := .boolean) (ty := .boolean) (N' := 16) (a0 := (16, .inl (fun _ => 0))) hx hb ht gw_895 rfl hwb18 rfl (fun cA => by rw [vp_cell_i]; rfl) (by decide) (by decide) (by decide) (by first | decide | (dsimp only; omega)) (by first | decide | (dsimp only; omega)) d_M_init_151 (fun q19 H19 hq19 hwa19 => ?_)
  obtain ⟨ua19, hu19⟩ : ∃ v : WT, v = (ub18.1 ++ [q19], va_up ub18.2 q19 (.inl (G.2.1 2, 16, .inl (fun _ => 0)))) := ⟨_, rfl⟩
  rw [← hu19] at hwa19
  have nb19 : NB ub18 ua19 q19 (cM G (fun _ => 0) q0 m0 19) := by rw [hu19]; exact ⟨hq19, rfl, va_up_self _ _ _, fun x hx => va_up_ne _ _ hx⟩
  have hA19 : a ∈ ua19.1 := by rw [← hlm0]; exact nb19.mem hMI.1
  have hE19 : ua19.2 a = .inr (8, mF0 lm 18) := by rw [← hlm0]; exact (nb19.at hMI.1).trans hMI.2.1
  refine x_putF hx hb ht i_M t_M t_M_ok n_M hown hwa19 hA19 hE19 (v := .ref q19) (ty := .array .boolean) (fs' := mF0 (va_up lm 19 q19) 19) rfl 18 (by decide) gw_815 (Or.inl rfl) rfl hname rfl rfl (by decide +kernel) rfl rfl (Nat.le_of_ble_eq_true rfl) d_M_init_153 (fun H19 locs19 ub19 hwb19 n19 => ?_)
  obtain ⟨lm, hlm0, hMI⟩ : ∃ lm', lm' 0 = a ∧ MI G lm' 19 u ub19 := ⟨_, (va_up_ne _ _ (by decide)).trans hlm0, hMI.step hMI.sub nb19 (by rw [hlm0]; exact n19)⟩
  refine lv_aload_n hx hb d_M_init_156 rfl (lv_at hl 0 rfl) ?_
  refine lv_bipush (v := 44) hx hb d_M_init_157 (by decide) ?_
  refine k_newa 0 (atype := .long) (ty := .long) (N' := 44) (a0 := (44, lgs (fun _ => 0))) hx hb ht gw_96 rfl hwb19 rfl (fun cA => by rw [vp_cell_l]; rfl) (by decide) (by decide) (by decide) (by first | decide | (dsimp only; omega)) (by first | decide | (dsimp only; omega)) d_M_init_159 (fun q20 H20 hq20 hwa20 => ?_)
  obtain ⟨ua20, hu20⟩ : ∃ v : WT, v = (ub19.1 ++ [q20], va_up ub19.2 q20 (.inl (G.2.1 0, 44, lgs (fun _ => 0)))) := ⟨_, rfl⟩
  rw [← hu20] at hwa20
  have nb20 : NB ub19 ua20 q20 (cM G (fun _ => 0) q0 m0 20) := by rw [hu20]; exact ⟨hq20, rfl, va_up_self _ _ _, fun x hx => va_up_ne _ _ hx⟩
  have hA20 : a ∈ ua20.1 := by rw [← hlm0]; exact nb20.mem hMI.1
  have hE20 : ua20.2 a = .inr (8, mF0 lm 19) := by rw [← hlm0]; exact (nb20.at hMI.1).trans hMI.2.1
  refine x_putF hx hb ht i_M t_M t_M_ok n_M hown hwa20 hA20 hE20 (v := .ref q20) (ty := .array .long) (fs' := mF0 (va_up lm 20 q20) 20) rfl 19 (by decide) gw_816 (Or.inl rfl) rfl hname rfl rfl (by decide +kernel) rfl rfl (Nat.le_of_ble_eq_true rfl) d_M_init_161 (fun H20 locs20 ub20 hwb20 n20 => ?_)
  obtain ⟨lm, hlm0, hMI⟩ : ∃ lm', lm' 0 = a ∧ MI G lm' 20 u ub20 := ⟨_, (va_up_ne _ _ (by decide)).trans hlm0, hMI.step hMI.sub nb20 (by rw [hlm0]; exact n20)⟩
  refine lv_aload_n hx hb d_M_init_164 rfl (lv_at hl 0 rfl) ?_
  refine lv_bipush (v := 44) hx hb d_M_init_165 (by decide) ?_
  refine k_newa 0 (atype := .long) (ty := .long) (N' := 44) (a0 := (44, lgs (fun _ => 0))) hx hb ht gw_96 rfl hwb20 rfl (fun cA => by rw [vp_cell_l]; rfl) (by decide) (by decide) (by decide) (by first | decide | (dsimp only; omega)) (by first | decide | (dsimp only; omega)) d_M_init_167 (fun q21 H21 hq21 hwa21 => ?_)
  obtain ⟨ua21, hu21⟩ : ∃ v : WT, v = (ub20.1 ++ [q21], va_up ub20.2 q21 (.inl (G.2.1 0, 44, lgs (fun _ => 0)))) := ⟨_, rfl⟩
  rw [← hu21] at hwa21
  have nb21 : NB ub20 ua21 q21 (cM G (fun _ => 0) q0 m0 21) := by rw [hu21]; exact ⟨hq21, rfl, va_up_self _ _ _, fun x hx => va_up_ne _ _ hx⟩
  have hA21 : a ∈ ua21.1 := by rw [← hlm0]; exact nb21.mem hMI.1
  have hE21 : ua21.2 a = .inr (8, mF0 lm 20) := by rw [← hlm0]; exact (nb21.at hMI.1).trans hMI.2.1
  refine x_putF hx hb ht i_M t_M t_M_ok n_M hown hwa21 hA21 hE21 (v := .ref q21) (ty := .array .long) (fs' := mF0 (va_up lm 21 q21) 21) rfl 20 (by decide) gw_817 (Or.inl rfl) rfl hname rfl rfl (by decide +kernel) rfl rfl (Nat.le_of_ble_eq_true rfl) d_M_init_169 (fun H21 locs21 ub21 hwb21 n21 => ?_)
  obtain ⟨lm, hlm0, hMI⟩ : ∃ lm', lm' 0 = a ∧ MI G lm' 21 u ub21 := ⟨_, (va_up_ne _ _ (by decide)).trans hlm0, hMI.step hMI.sub nb21 (by rw [hlm0]; exact n21)⟩
  exact kt_v hx hb hr hlocks hwb21 d_M_init_172 (by exact ⟨lm, hlm0, hMI.done, (fun k h1 h2 => hMI.2.2.2.2.1 k h1 (by omega)), fun c h1 h2 => hMI.2.2.2.2.2 c h1 (by rw [hlm0]; exact h2)⟩) (by first | decide | (dsimp only; omega)) (by first | decide | (dsimp only; omega))
