/-! 18.option: contracts of an option's own methods -/
set_option maxHeartbeats 4000000 in
set_option maxRecDepth 100000 in
theorem c_Op_priceAt (l : Launch) (G : GT) (A : Nat → Prop) (lc : Nat → Nat) (s : QS) (z : ZS) (u : WT) (hR : rQ G lc s z u) (o : Nat) (ho : o < q_n s) (h3 : q_so s o = 3) (m9 : Int32) : Kt l y_Op_priceAt b_Op_priceAt 2 (some .long) 0 0 0 0 0 0 0 0 G A u [.ref (lc (8 + o)), .int m9] (KQ G A (Rl (fun r u' => r = oP s o m9 ∧ u' = u))) (NX) := by
  refine k_of (by decide) (Nat.le_of_ble_eq_true rfl) (fun p e st m below meth c ls hx hb hr hlocks hml htab hname hown ht hw hl => ?_)
  have hl : lv_has ls 2 [(0, .ref (lc (8 + o))), (1, .int m9)] := hl
  obtain ⟨n0, hn0⟩ : ∃ n0, q_n s = n0 := ⟨_, rfl⟩
  have hw : Sk G A lc s z n0 u u st st.heap [] := ⟨hw, hR, fQ.rf, hn0⟩
  have hp0 := (opt_p hR.1 ho h3).1
  have hp1 := (opt_p hR.1 ho h3).2
  have hok := hR.1
  have hkk : ∀ {k x : Nat}, q_pt s o k = some x → x < n0 := fun hx => by rw [← hn0]; exact opt_k hok (by first | exact ho | (rw [hn0]; exact ho)) hx
  rw [hn0] at ho hp0 hp1
  refine lv_aload_n hx hb d_Op_priceAt_0 rfl (lv_at hl 0 rfl) ?_
  refine kg_O (j := o) 10 (by decide) (by decide) hx hb ht hown hw ho h3 gw_400 rfl (by rw [ndX_O h3]; rfl) d_Op_priceAt_1 ?_
  refine kg_N (j := ((q_pt s o 0).getD 0)) 3 (by decide) hx hb ht hown hw hp0 gw_277 (Or.inl rfl) rfl d_Op_priceAt_4 ?_
  refine lv_iload_n hx hb d_Op_priceAt_7 rfl (lv_at hl 1 rfl) ?_
  refine lv_i2l hx hb d_Op_priceAt_8 rfl ?_
  refine lv_aload_n hx hb d_Op_priceAt_9 rfl (lv_at hl 0 rfl) ?_
  refine kg_O (j := o) 11 (by decide) (by decide) hx hb ht hown hw ho h3 gw_402 rfl (by rw [ndX_O h3]; rfl) d_Op_priceAt_10 ?_
  refine kg_N (j := ((q_pt s o 1).getD 0)) 3 (by decide) hx hb ht hown hw hp1 gw_277 (Or.inl rfl) rfl d_Op_priceAt_13 ?_
  refine lv_lmul hx hb d_Op_priceAt_16 ?_
  refine lv_ladd hx hb d_Op_priceAt_17 ?_
  exact kt_l hx hb hr hlocks hw.1 d_Op_priceAt_18 (by exact ⟨rfl, rfl⟩) (by first | decide | (dsimp only; omega)) (by first | decide | (dsimp only; omega))
set_option maxHeartbeats 4000000 in
set_option maxRecDepth 100000 in
theorem c_Op_isOut (l : Launch) (G : GT) (A : Nat → Prop) (lc : Nat → Nat) (s : QS) (z : ZS) (u : WT) (hR : rQ G lc s z u) (o : Nat) (ho : o < q_n s) (h3 : q_so s o = 3) (x : Int64) : Kt l y_Op_isOut b_Op_isOut 3 (some .boolean) 0 0 0 0 0 0 0 0 G A u [.ref (lc (8 + o)), .long x] (KQ G A (Ri (fun r u' => r = bI (oOut s o x) ∧ u' = u))) (NX) := by
  refine k_of (by decide) (Nat.le_of_ble_eq_true rfl) (fun p e st m below meth c ls hx hb hr hlocks hml htab hname hown ht hw hl => ?_)
  have hl : lv_has ls 3 [(0, .ref (lc (8 + o))), (1, .long x)] := hl
  obtain ⟨n0, hn0⟩ : ∃ n0, q_n s = n0 := ⟨_, rfl⟩
  have hw : Sk G A lc s z n0 u u st st.heap [] := ⟨hw, hR, fQ.rf, hn0⟩
  have hp0 := (opt_p hR.1 ho h3).1
  have hp1 := (opt_p hR.1 ho h3).2
  have hok := hR.1
  have hkk : ∀ {k x : Nat}, q_pt s o k = some x → x < n0 := fun hx => by rw [← hn0]; exact opt_k hok (by first | exact ho | (rw [hn0]; exact ho)) hx
  rw [hn0] at ho hp0 hp1
  refine lv_aload_n hx hb d_Op_isOut_0 rfl (lv_at hl 0 rfl) ?_
  refine kg_O (j := o) 16 (by decide) (by decide) hx hb ht hown hw ho h3 gw_411 rfl (by rw [ndX_O h3]; rfl) d_Op_isOut_1 ?_
  rcases hq1 : q_pt s o 3 with _ | k9
  · refine lv_ifnullN (tgt := 23) hx hb d_Op_isOut_4 (by decide) ?_
    refine lv_iconst (v := 0) hx hb d_Op_isOut_23 (by decide) ?_
    exact kt_z hx hb hr hlocks hw.1 d_Op_isOut_24 (by exact ⟨by simp only [oOut, hq1]; rfl, rfl⟩) (Or.inl rfl) (by first | decide | (dsimp only; omega)) (by first | decide | (dsimp only; omega))
  · refine lv_ifnull hx hb d_Op_isOut_4 ?_
    refine lv_lload_n hx hb d_Op_isOut_7 rfl (lv_at hl 1 rfl) ?_
    refine lv_aload_n hx hb d_Op_isOut_8 rfl (lv_at hl 0 rfl) ?_
    refine kg_O (j := o) 16 (by decide) (by decide) hx hb ht hown hw ho h3 gw_411 rfl (by rw [ndX_O h3]; rfl) d_Op_isOut_9 ?_
    rw [hq1]
    refine kg_N (j := k9) 3 (by decide) hx hb ht hown hw (hkk hq1) gw_277 (Or.inl rfl) rfl d_Op_isOut_12 ?_
    refine W.lcmp hx hb d_Op_isOut_15 ?_
    refine lv_if_lt (tgt := 23) hx hb d_Op_isOut_16 (by decide) (fun c2 => ?_) (fun c2 => ?_)
    · refine lv_iconst (v := 0) hx hb d_Op_isOut_23 (by decide) ?_
      exact kt_z hx hb hr hlocks hw.1 d_Op_isOut_24 (by exact ⟨by simp only [oOut, hq1]; rw [(lg_cmp_lt _ _)] at c2; simp [c2]; rfl, rfl⟩) (Or.inl rfl) (by first | decide | (dsimp only; omega)) (by first | decide | (dsimp only; omega))
    · refine lv_iconst (v := 1) hx hb d_Op_isOut_19 (by decide) ?_
      refine lv_goto (tgt := 24) hx hb d_Op_isOut_20 (by decide) ?_
      exact kt_z hx hb hr hlocks hw.1 d_Op_isOut_24 (by exact ⟨by simp only [oOut, hq1]; rw [(lg_cmp_lt _ _)] at c2; simp [c2]; rfl, rfl⟩) (Or.inr rfl) (by first | decide | (dsimp only; omega)) (by first | decide | (dsimp only; omega))
set_option maxHeartbeats 4000000 in
set_option maxRecDepth 100000 in
theorem c_Op_payoffInside (l : Launch) (G : GT) (A : Nat → Prop) (lc : Nat → Nat) (s : QS) (z : ZS) (u : WT) (hR : rQ G lc s z u) (o : Nat) (ho : o < q_n s) (h3 : q_so s o = 3) (x : Int64) : Kt l y_Op_payoffInside b_Op_payoffInside 3 (some .long) 1 40 0 0 0 0 0 0 G A u [.ref (lc (8 + o)), .long x] (KQ G A (Rl (fun r u' => r = oPI s o x ∧ u' = u))) (NX) := by
  refine k_of (by decide) (Nat.le_of_ble_eq_true rfl) (fun p e st m below meth c ls hx hb hr hlocks hml htab hname hown ht hw hl => ?_)
  have hl : lv_has ls 3 [(0, .ref (lc (8 + o))), (1, .long x)] := hl
  obtain ⟨n0, hn0⟩ : ∃ n0, q_n s = n0 := ⟨_, rfl⟩
  have hw : Sk G A lc s z n0 u u st st.heap [] := ⟨hw, hR, fQ.rf, hn0⟩
  have hp0 := (opt_p hR.1 ho h3).1
  have hp1 := (opt_p hR.1 ho h3).2
  have hok := hR.1
  have hkk : ∀ {k x : Nat}, q_pt s o k = some x → x < n0 := fun hx => by rw [← hn0]; exact opt_k hok (by first | exact ho | (rw [hn0]; exact ho)) hx
  rw [hn0] at ho hp0 hp1
  refine lv_aload_n hx hb d_Op_payoffInside_0 rfl (lv_at hl 0 rfl) ?_
  refine kg_O (j := o) 12 (by decide) (by decide) hx hb ht hown hw ho h3 gw_404 rfl (by rw [ndX_O h3]; rfl) d_Op_payoffInside_1 ?_
  by_cases hk0 : q_kd s o = 0
  · refine lv_tableIn (tgt := 32) hx hb d_Op_payoffInside_4 (by rw [hk0]; decide) (by rw [hk0]; decide) (by rw [hk0]; rfl) (by decide) ?_
    refine lv_lload_n hx hb d_Op_payoffInside_32 rfl (lv_at hl 1 rfl) ?_
    refine lv_aload_n hx hb d_Op_payoffInside_33 rfl (lv_at hl 0 rfl) ?_
    refine kg_O (j := o) 13 (by decide) (by decide) hx hb ht hown hw ho h3 gw_405 rfl (by rw [ndX_O h3]; rfl) d_Op_payoffInside_34 ?_
    refine lv_lsub hx hb d_Op_payoffInside_37 ?_
    refine lv_lconst (v := 0) hx hb d_Op_payoffInside_38 (by decide) ?_
    refine va_mmax_long hx hb (hml.trans hl.1.symm) hown (ht _ gw_655) (ht _ gw_588) (ht _ gw_59) (ht _ gw_589) (by first | decide | (dsimp only; omega)) (Nat.le_of_ble_eq_true rfl) (by first | decide | (dsimp only; omega)) (by first | decide | (dsimp only; omega)) d_Op_payoffInside_39 ?_
    exact kt_l hx hb hr hlocks hw.1 d_Op_payoffInside_42 (by exact ⟨by unfold oPI; rw [if_pos hk0]; rfl, rfl⟩) (by first | decide | (dsimp only; omega)) (by first | decide | (dsimp only; omega))
  by_cases hk1 : q_kd s o = 1
  · refine lv_tableIn (tgt := 43) hx hb d_Op_payoffInside_4 (by rw [hk1]; decide) (by rw [hk1]; decide) (by rw [hk1]; rfl) (by decide) ?_
    refine lv_aload_n hx hb d_Op_payoffInside_43 rfl (lv_at hl 0 rfl) ?_
    refine kg_O (j := o) 13 (by decide) (by decide) hx hb ht hown hw ho h3 gw_405 rfl (by rw [ndX_O h3]; rfl) d_Op_payoffInside_44 ?_
    refine lv_lload_n hx hb d_Op_payoffInside_47 rfl (lv_at hl 1 rfl) ?_
    refine lv_lsub hx hb d_Op_payoffInside_48 ?_
    refine lv_lconst (v := 0) hx hb d_Op_payoffInside_49 (by decide) ?_
    refine va_mmax_long hx hb (hml.trans hl.1.symm) hown (ht _ gw_655) (ht _ gw_588) (ht _ gw_59) (ht _ gw_589) (by first | decide | (dsimp only; omega)) (Nat.le_of_ble_eq_true rfl) (by first | decide | (dsimp only; omega)) (by first | decide | (dsimp only; omega)) d_Op_payoffInside_50 ?_
    exact kt_l hx hb hr hlocks hw.1 d_Op_payoffInside_53 (by exact ⟨by unfold oPI; rw [if_neg hk0, if_pos hk1]; rfl, rfl⟩) (by first | decide | (dsimp only; omega)) (by first | decide | (dsimp only; omega))
  by_cases hk2 : q_kd s o = 2
  · refine lv_tableIn (tgt := 54) hx hb d_Op_payoffInside_4 (by rw [hk2]; decide) (by rw [hk2]; decide) (by rw [hk2]; rfl) (by decide) ?_
    refine lv_lload_n hx hb d_Op_payoffInside_54 rfl (lv_at hl 1 rfl) ?_
    refine lv_aload_n hx hb d_Op_payoffInside_55 rfl (lv_at hl 0 rfl) ?_
    refine kg_O (j := o) 13 (by decide) (by decide) hx hb ht hown hw ho h3 gw_405 rfl (by rw [ndX_O h3]; rfl) d_Op_payoffInside_56 ?_
    refine W.lcmp hx hb d_Op_payoffInside_59 ?_
    refine lv_if_lt (tgt := 69) hx hb d_Op_payoffInside_60 (by decide) (fun c1 => ?_) (fun c1 => ?_)
    · refine lv_lconst (v := 0) hx hb d_Op_payoffInside_69 (by decide) ?_
      exact kt_l hx hb hr hlocks hw.1 d_Op_payoffInside_70 (by exact ⟨by unfold oPI; rw [if_neg hk0, if_neg hk1, if_pos hk2, if_pos ((lg_cmp_lt _ _).mp c1)], rfl⟩) (by first | decide | (dsimp only; omega)) (by first | decide | (dsimp only; omega))
    · refine lv_ldc2 (v := 102400) hx hb hown (ht _ gw_656) d_Op_payoffInside_63 ?_
      refine lv_goto (tgt := 70) hx hb d_Op_payoffInside_66 (by decide) ?_
      exact kt_l hx hb hr hlocks hw.1 d_Op_payoffInside_70 (by exact ⟨by unfold oPI; rw [if_neg hk0, if_neg hk1, if_pos hk2, if_neg (fun h => c1 ((lg_cmp_lt _ _).mpr h))], rfl⟩) (by first | decide | (dsimp only; omega)) (by first | decide | (dsimp only; omega))
  · refine lv_tableOut (tgt := 71) hx hb d_Op_payoffInside_4 (sw_out3 hk0 hk1 hk2) (by decide) ?_
    refine lv_lload_n hx hb d_Op_payoffInside_71 rfl (lv_at hl 1 rfl) ?_
    refine lv_aload_n hx hb d_Op_payoffInside_72 rfl (lv_at hl 0 rfl) ?_
    refine kg_O (j := o) 13 (by decide) (by decide) hx hb ht hown hw ho h3 gw_405 rfl (by rw [ndX_O h3]; rfl) d_Op_payoffInside_73 ?_
    refine lv_lsub hx hb d_Op_payoffInside_76 ?_
    exact kt_l hx hb hr hlocks hw.1 d_Op_payoffInside_77 (by exact ⟨by unfold oPI; rw [if_neg hk0, if_neg hk1, if_neg hk2], rfl⟩) (by first | decide | (dsimp only; omega)) (by first | decide | (dsimp only; omega))
set_option maxHeartbeats 4000000 in
set_option maxRecDepth 100000 in
theorem c_Op_payoff (l : Launch) (G : GT) (A : Nat → Prop) (lc : Nat → Nat) (s : QS) (z : ZS) (u : WT) (hR : rQ G lc s z u) (o : Nat) (ho : o < q_n s) (h3 : q_so s o = 3) (x : Int64) : Kt l y_Op_payoff b_Op_payoff 3 (some .long) 2 62 0 0 0 0 0 0 G A u [.ref (lc (8 + o)), .long x] (KQ G A (Rl (fun r u' => r = oPay s o x ∧ u' = u))) (NX) := by
  refine k_of (by decide) (Nat.le_of_ble_eq_true rfl) (fun p e st m below meth c ls hx hb hr hlocks hml htab hname hown ht hw hl => ?_)
  have hl : lv_has ls 3 [(0, .ref (lc (8 + o))), (1, .long x)] := hl
  obtain ⟨n0, hn0⟩ : ∃ n0, q_n s = n0 := ⟨_, rfl⟩
  have hw : Sk G A lc s z n0 u u st st.heap [] := ⟨hw, hR, fQ.rf, hn0⟩
  have hp0 := (opt_p hR.1 ho h3).1
  have hp1 := (opt_p hR.1 ho h3).2
  have hok := hR.1
  have hkk : ∀ {k x : Nat}, q_pt s o k = some x → x < n0 := fun hx => by rw [← hn0]; exact opt_k hok (by first | exact ho | (rw [hn0]; exact ho)) hx
  rw [hn0] at ho hp0 hp1
  refine lv_aload_n hx hb d_Op_payoff_0 rfl (lv_at hl 0 rfl) ?_
  refine lv_lload_n hx hb d_Op_payoff_1 rfl (lv_at hl 1 rfl) ?_
  refine kc_i (kr_V 1 (C := "QuoteGraph$Option") (As := [.long x]) (rest := []) (c_Op_isOut l G A lc s z u hR o (by rw [hn0]; exact ho) h3 x) hx hb hml hown ht hw.1 gw_647 gw_648 gw_649 gw_57 gw_650 ⟨⟨by decide, by decide⟩, by decide +kernel⟩ ⟨by first | decide | (dsimp only; omega), by first | decide | (dsimp only; omega)⟩ (by have h := kr_N hw ho; rw [h3] at h; exact h) rfl hl.1 rfl (lv_room (Nat.le_of_ble_eq_true rfl)) d_Op_payoff_2 ⟨by first | decide | (dsimp only; omega), by first | decide | (dsimp only; omega)⟩) hw.1 (fun _ _ _ _ _ _ h => h.elim) (fun r1 u1 H1 locs1 hp1 hw1 => ?_)
  obtain ⟨er1, hq1⟩ := hp1
  replace hq1 := hq1.symm; subst hq1
  subst er1
  have hw : Sk G A lc s z n0 u u st H1 locs1 := ⟨hw1, hw.2⟩
  refine lv_if_eq (tgt := 12) hx hb d_Op_payoff_5 (by decide) (fun c2 => ?_) (fun c2 => ?_)
  · refine lv_aload_n hx hb d_Op_payoff_12 rfl (lv_at hl 0 rfl) ?_
    refine lv_lload_n hx hb d_Op_payoff_13 rfl (lv_at hl 1 rfl) ?_
    refine kc_l (kr_V 1 (C := "QuoteGraph$Option") (As := [.long x]) (rest := []) (c_Op_payoffInside l G A lc s z u hR o (by rw [hn0]; exact ho) h3 x) hx hb hml hown ht hw.1 gw_651 gw_652 gw_653 gw_57 gw_654 ⟨⟨by decide, by decide⟩, by decide +kernel⟩ ⟨by first | decide | (dsimp only; omega), by first | decide | (dsimp only; omega)⟩ (by have h := kr_N hw ho; rw [h3] at h; exact h) rfl hl.1 rfl (lv_room (Nat.le_of_ble_eq_true rfl)) d_Op_payoff_14 ⟨by first | decide | (dsimp only; omega), by first | decide | (dsimp only; omega)⟩) hw.1 (fun _ _ _ _ _ _ h => h.elim) (fun r3 u3 H3 locs3 hp3 hw3 => ?_)
    obtain ⟨er3, hq3⟩ := hp3
    replace hq3 := hq3.symm; subst hq3
    subst er3
    have hw : Sk G A lc s z n0 u u st H3 locs3 := ⟨hw3, hw.2⟩
    exact kt_l hx hb hr hlocks hw.1 d_Op_payoff_17 (by exact ⟨by unfold oPay; rw [if_neg (by rw [(bI_eq _).mp c2]; decide)], rfl⟩) (by first | decide | (dsimp only; omega)) (by first | decide | (dsimp only; omega))
  · refine lv_lconst (v := 0) hx hb d_Op_payoff_8 (by decide) ?_
    refine lv_goto (tgt := 17) hx hb d_Op_payoff_9 (by decide) ?_
    exact kt_l hx hb hr hlocks hw.1 d_Op_payoff_17 (by exact ⟨by unfold oPay; rw [if_pos ((bI_ne _).mp c2)], rfl⟩) (by first | decide | (dsimp only; omega)) (by first | decide | (dsimp only; omega))
set_option maxHeartbeats 4000000 in
set_option maxRecDepth 100000 in
theorem c_Op_heldAt (l : Launch) (G : GT) (A : Nat → Prop) (lc : Nat → Nat) (s : QS) (z : ZS) (u : WT) (hR : rQ G lc s z u) (o : Nat) (ho : o < q_n s) (h3 : q_so s o = 3) (x v : Int64) : Kt l y_Op_heldAt b_Op_heldAt 5 (some .long) 2 62 0 0 0 0 0 0 G A u [.ref (lc (8 + o)), .long x, .long v] (KQ G A (Rl (fun r u' => r = oHeld s o x v ∧ u' = u))) (NX) := by
  refine k_of (by decide) (Nat.le_of_ble_eq_true rfl) (fun p e st m below meth c ls hx hb hr hlocks hml htab hname hown ht hw hl => ?_)
  have hl : lv_has ls 5 [(0, .ref (lc (8 + o))), (1, .long x), (3, .long v)] := hl
  obtain ⟨n0, hn0⟩ : ∃ n0, q_n s = n0 := ⟨_, rfl⟩
  have hw : Sk G A lc s z n0 u u st st.heap [] := ⟨hw, hR, fQ.rf, hn0⟩
  have hp0 := (opt_p hR.1 ho h3).1
  have hp1 := (opt_p hR.1 ho h3).2
  have hok := hR.1
  have hkk : ∀ {k x : Nat}, q_pt s o k = some x → x < n0 := fun hx => by rw [← hn0]; exact opt_k hok (by first | exact ho | (rw [hn0]; exact ho)) hx
  rw [hn0] at ho hp0 hp1
  refine lv_aload_n hx hb d_Op_heldAt_0 rfl (lv_at hl 0 rfl) ?_
  refine lv_lload_n hx hb d_Op_heldAt_1 rfl (lv_at hl 1 rfl) ?_
  refine kc_i (kr_V 1 (C := "QuoteGraph$Option") (As := [.long x]) (rest := []) (c_Op_isOut l G A lc s z u hR o (by rw [hn0]; exact ho) h3 x) hx hb hml hown ht hw.1 gw_647 gw_648 gw_649 gw_57 gw_650 ⟨⟨by decide, by decide⟩, by decide +kernel⟩ ⟨by first | decide | (dsimp only; omega), by first | decide | (dsimp only; omega)⟩ (by have h := kr_N hw ho; rw [h3] at h; exact h) rfl hl.1 rfl (lv_room (Nat.le_of_ble_eq_true rfl)) d_Op_heldAt_2 ⟨by first | decide | (dsimp only; omega), by first | decide | (dsimp only; omega)⟩) hw.1 (fun _ _ _ _ _ _ h => h.elim) (fun r1 u1 H1 locs1 hp1 hw1 => ?_)
  obtain ⟨er1, hq1⟩ := hp1
  replace hq1 := hq1.symm; subst hq1
  subst er1
  have hw : Sk G A lc s z n0 u u st H1 locs1 := ⟨hw1, hw.2⟩
  refine lv_if_eq (tgt := 10) hx hb d_Op_heldAt_5 (by decide) (fun c2 => ?_) (fun c2 => ?_)
  · refine lv_aload_n hx hb d_Op_heldAt_10 rfl (lv_at hl 0 rfl) ?_
    refine kg_O (j := o) 18 (by decide) (by decide) hx hb ht hown hw ho h3 gw_419 rfl (by rw [ndX_O h3]; rfl) d_Op_heldAt_11 ?_
    refine lv_if_eq (tgt := 29) hx hb d_Op_heldAt_14 (by decide) (fun c3 => ?_) (fun c3 => ?_)
    · refine lv_lload_n hx hb d_Op_heldAt_29 rfl (lv_at hl 2 rfl) ?_
      exact kt_l hx hb hr hlocks hw.1 d_Op_heldAt_30 (by exact ⟨by unfold oHeld; rw [if_neg (by rw [(bI_eq _).mp c2]; decide), if_neg (by rw [(bI_eq _).mp c3]; decide)], rfl⟩) (by first | decide | (dsimp only; omega)) (by first | decide | (dsimp only; omega))
    · refine lv_lload_n hx hb d_Op_heldAt_17 rfl (lv_at hl 2 rfl) ?_
      refine lv_aload_n hx hb d_Op_heldAt_18 rfl (lv_at hl 0 rfl) ?_
      refine lv_lload_n hx hb d_Op_heldAt_19 rfl (lv_at hl 1 rfl) ?_
      refine kc_l (kr_V 1 (C := "QuoteGraph$Option") (As := [.long x]) (rest := [.long v]) (c_Op_payoffInside l G A lc s z u hR o (by rw [hn0]; exact ho) h3 x) hx hb hml hown ht hw.1 gw_651 gw_652 gw_653 gw_57 gw_654 ⟨⟨by decide, by decide⟩, by decide +kernel⟩ ⟨by first | decide | (dsimp only; omega), by first | decide | (dsimp only; omega)⟩ (by have h := kr_N hw ho; rw [h3] at h; exact h) rfl hl.1 rfl (lv_room (Nat.le_of_ble_eq_true rfl)) d_Op_heldAt_20 ⟨by first | decide | (dsimp only; omega), by first | decide | (dsimp only; omega)⟩) hw.1 (fun _ _ _ _ _ _ h => h.elim) (fun r4 u4 H4 locs4 hp4 hw4 => ?_)
      obtain ⟨er4, hq4⟩ := hp4
      replace hq4 := hq4.symm; subst hq4
      subst er4
      have hw : Sk G A lc s z n0 u u st H4 locs4 := ⟨hw4, hw.2⟩
      refine va_mmax_long hx hb (hml.trans hl.1.symm) hown (ht _ gw_655) (ht _ gw_588) (ht _ gw_59) (ht _ gw_589) (by first | decide | (dsimp only; omega)) (Nat.le_of_ble_eq_true rfl) (by first | decide | (dsimp only; omega)) (by first | decide | (dsimp only; omega)) d_Op_heldAt_23 ?_
      refine lv_goto (tgt := 30) hx hb d_Op_heldAt_26 (by decide) ?_
      exact kt_l hx hb hr hlocks hw.1 d_Op_heldAt_30 (by exact ⟨by show mxL v (oPI s o x) = oHeld s o x v; unfold oHeld; rw [if_neg (by rw [(bI_eq _).mp c2]; decide), if_pos ((bI_ne _).mp c3)], rfl⟩) (by first | decide | (dsimp only; omega)) (by first | decide | (dsimp only; omega))
  · refine lv_lconst (v := 0) hx hb d_Op_heldAt_8 (by decide) ?_
    exact kt_l hx hb hr hlocks hw.1 d_Op_heldAt_9 (by exact ⟨by unfold oHeld; rw [if_pos ((bI_ne _).mp c2)], rfl⟩) (by first | decide | (dsimp only; omega)) (by first | decide | (dsimp only; omega))
set_option maxHeartbeats 4000000 in
set_option maxRecDepth 100000 in
theorem c_Op_discount (l : Launch) (hl9 : l.stackTraces = false) (G : GT) (A : Nat → Prop) (lc : Nat → Nat) (s : QS) (z : ZS) (u : WT) (hR : rQ G lc s z u) (o : Nat) (ho : o < q_n s) (h3 : q_so s o = 3) : Kt l y_Op_discount b_Op_discount 3 (some .long) 6 100 1 6 0 0 1 6 G A u [.ref (lc (8 + o))] (KQ G A (Rl (fun r u' => r = 1024 - oTak s o ∧ ¬ oTak s o < 0 ∧ oTak s o ≤ 1024 ∧ u' = u))) (fun E u' => E = "java/lang/ArithmeticException" ∧ (oTak s o < 0 ∨ 1024 < oTak s o) ∧ u' = u) := by
  refine k_of (by decide) (Nat.le_of_ble_eq_true rfl) (fun p e st m below meth c ls hx hb hr hlocks hml htab hname hown ht hw hl => ?_)
  have hl : lv_has ls 3 [(0, .ref (lc (8 + o)))] := hl
  obtain ⟨n0, hn0⟩ : ∃ n0, q_n s = n0 := ⟨_, rfl⟩
  have hw : Sk G A lc s z n0 u u st st.heap [] := ⟨hw, hR, fQ.rf, hn0⟩
  have hp0 := (opt_p hR.1 ho h3).1
  have hp1 := (opt_p hR.1 ho h3).2
  have hok := hR.1
  have hkk : ∀ {k x : Nat}, q_pt s o k = some x → x < n0 := fun hx => by rw [← hn0]; exact opt_k hok (by first | exact ho | (rw [hn0]; exact ho)) hx
  rw [hn0] at ho hp0 hp1
  refine lv_aload_n hx hb d_Op_discount_0 rfl (lv_at hl 0 rfl) ?_
  refine kg_O (j := o) 15 (by decide) (by decide) hx hb ht hown hw ho h3 gw_410 rfl (by rw [ndX_O h3]; rfl) d_Op_discount_1 ?_
  rcases hq1 : q_pt s o 2 with _ | k9
  · refine lv_ifnonnullN hx hb d_Op_discount_4 ?_
    refine lv_lconst (v := 0) hx hb d_Op_discount_7 (by decide) ?_
    refine lv_goto (tgt := 21) hx hb d_Op_discount_8 (by decide) ?_
    refine lv_lstore_n (lv' := [(1, .long (0 : Int64)), (0, .ref (lc (8 + o)))]) hx hb d_Op_discount_21 rfl hl (by decide) rfl (fun ls hl => ?_)
    have et : oTak s o = (0 : Int64) := by unfold oTak; rw [hq1]
    rw [← et] at hl
    refine lv_lload_n hx hb d_Op_discount_22 rfl (lv_at hl 0 rfl) ?_
    refine lv_lconst (v := 0) hx hb d_Op_discount_23 (by decide) ?_
    refine W.lcmp hx hb d_Op_discount_24 ?_
    refine lv_if_lt (tgt := 36) hx hb d_Op_discount_25 (by decide) (fun c2 => ?_) (fun c2 => ?_)
    · exact kt_throw (own := R_Op) (cls := "java/lang/ArithmeticException") (ik := 58) (is := 75) (ic := 62) 12 hl9 hx hb htab hlocks hml hl.1 ht hown hw.1 (by decide) gw_624 gw_58 rfl at_Op_62 d_Op_discount_36 d_Op_discount_39 d_Op_discount_40 d_Op_discount_42 d_Op_discount_45 (by first | decide | (dsimp only; omega)) (Nat.le_of_ble_eq_true rfl) (by first | decide | (dsimp only; omega)) (by first | decide | (dsimp only; omega)) (by exact ⟨rfl, Or.inl ((lg_cmp_lt _ _).mp c2), rfl⟩) (by first | decide | (dsimp only; omega)) (by first | decide | (dsimp only; omega))
    · refine lv_lload_n hx hb d_Op_discount_28 rfl (lv_at hl 0 rfl) ?_
      refine lv_ldc2 (v := 1024) hx hb hown (ht _ gw_631) d_Op_discount_29 ?_
      refine W.lcmp hx hb d_Op_discount_32 ?_
      refine lv_if_le (tgt := 46) hx hb d_Op_discount_33 (by decide) (fun c3 => ?_) (fun c3 => ?_)
      · refine lv_ldc2 (v := 1024) hx hb hown (ht _ gw_631) d_Op_discount_46 ?_
        refine lv_lload_n hx hb d_Op_discount_49 rfl (lv_at hl 0 rfl) ?_
        refine lv_lsub hx hb d_Op_discount_50 ?_
        exact kt_l hx hb hr hlocks hw.1 d_Op_discount_51 (by exact ⟨rfl, fun h => c2 ((lg_cmp_lt _ _).mpr h), (lg_cmp_le _ _).mp c3, rfl⟩) (by first | decide | (dsimp only; omega)) (by first | decide | (dsimp only; omega))
      · exact kt_throw (own := R_Op) (cls := "java/lang/ArithmeticException") (ik := 58) (is := 75) (ic := 62) 12 hl9 hx hb htab hlocks hml hl.1 ht hown hw.1 (by decide) gw_624 gw_58 rfl at_Op_62 d_Op_discount_36 d_Op_discount_39 d_Op_discount_40 d_Op_discount_42 d_Op_discount_45 (by first | decide | (dsimp only; omega)) (Nat.le_of_ble_eq_true rfl) (by first | decide | (dsimp only; omega)) (by first | decide | (dsimp only; omega)) (by exact ⟨rfl, Or.inr (by rw [lg_cmp_le] at c3; simp only [Int64.le_iff_toInt_le, Int64.lt_iff_toInt_lt] at *; omega), rfl⟩) (by first | decide | (dsimp only; omega)) (by first | decide | (dsimp only; omega))
  · refine lv_ifnonnull (tgt := 11) hx hb d_Op_discount_4 (by decide) ?_
    refine lv_aload_n hx hb d_Op_discount_11 rfl (lv_at hl 0 rfl) ?_
    refine kg_O (j := o) 15 (by decide) (by decide) hx hb ht hown hw ho h3 gw_410 rfl (by rw [ndX_O h3]; rfl) d_Op_discount_12 ?_
    rw [hq1]
    refine kg_N (j := k9) 3 (by decide) hx hb ht hown hw (hkk hq1) gw_277 (Or.inl rfl) rfl d_Op_discount_15 ?_
    refine lv_bipush (v := 10) hx hb d_Op_discount_18 (by decide) ?_
    refine lv_lshr hx hb d_Op_discount_20 rfl ?_
    refine lv_lstore_n (lv' := [(1, .long ((q_am s k9) >>> ((10 : Int32).toInt64 &&& 63))), (0, .ref (lc (8 + o)))]) hx hb d_Op_discount_21 rfl hl (by decide) rfl (fun ls hl => ?_)
    have et : oTak s o = q_am s k9 >>> ((10 : Int32).toInt64 &&& 63) := by unfold oTak; rw [hq1]
    rw [← et] at hl
    refine lv_lload_n hx hb d_Op_discount_22 rfl (lv_at hl 0 rfl) ?_
    refine lv_lconst (v := 0) hx hb d_Op_discount_23 (by decide) ?_
    refine W.lcmp hx hb d_Op_discount_24 ?_
    refine lv_if_lt (tgt := 36) hx hb d_Op_discount_25 (by decide) (fun c4 => ?_) (fun c4 => ?_)
    · exact kt_throw (own := R_Op) (cls := "java/lang/ArithmeticException") (ik := 58) (is := 75) (ic := 62) 12 hl9 hx hb htab hlocks hml hl.1 ht hown hw.1 (by decide) gw_624 gw_58 rfl at_Op_62 d_Op_discount_36 d_Op_discount_39 d_Op_discount_40 d_Op_discount_42 d_Op_discount_45 (by first | decide | (dsimp only; omega)) (Nat.le_of_ble_eq_true rfl) (by first | decide | (dsimp only; omega)) (by first | decide | (dsimp only; omega)) (by exact ⟨rfl, Or.inl ((lg_cmp_lt _ _).mp c4), rfl⟩) (by first | decide | (dsimp only; omega)) (by first | decide | (dsimp only; omega))
    · refine lv_lload_n hx hb d_Op_discount_28 rfl (lv_at hl 0 rfl) ?_
      refine lv_ldc2 (v := 1024) hx hb hown (ht _ gw_631) d_Op_discount_29 ?_
      refine W.lcmp hx hb d_Op_discount_32 ?_
      refine lv_if_le (tgt := 46) hx hb d_Op_discount_33 (by decide) (fun c5 => ?_) (fun c5 => ?_)
      · refine lv_ldc2 (v := 1024) hx hb hown (ht _ gw_631) d_Op_discount_46 ?_
        refine lv_lload_n hx hb d_Op_discount_49 rfl (lv_at hl 0 rfl) ?_
        refine lv_lsub hx hb d_Op_discount_50 ?_
        exact kt_l hx hb hr hlocks hw.1 d_Op_discount_51 (by exact ⟨rfl, fun h => c4 ((lg_cmp_lt _ _).mpr h), (lg_cmp_le _ _).mp c5, rfl⟩) (by first | decide | (dsimp only; omega)) (by first | decide | (dsimp only; omega))
      · exact kt_throw (own := R_Op) (cls := "java/lang/ArithmeticException") (ik := 58) (is := 75) (ic := 62) 12 hl9 hx hb htab hlocks hml hl.1 ht hown hw.1 (by decide) gw_624 gw_58 rfl at_Op_62 d_Op_discount_36 d_Op_discount_39 d_Op_discount_40 d_Op_discount_42 d_Op_discount_45 (by first | decide | (dsimp only; omega)) (Nat.le_of_ble_eq_true rfl) (by first | decide | (dsimp only; omega)) (by first | decide | (dsimp only; omega)) (by exact ⟨rfl, Or.inr (by rw [lg_cmp_le] at c5; simp only [Int64.le_iff_toInt_le, Int64.lt_iff_toInt_lt] at *; omega), rfl⟩) (by first | decide | (dsimp only; omega)) (by first | decide | (dsimp only; omega))
