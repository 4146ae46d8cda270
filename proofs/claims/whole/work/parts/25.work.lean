/-! 25.work: contracts of workOut -/
set_option maxHeartbeats 4000000 in
set_option maxRecDepth 100000 in
theorem c_Qt_workOut (l : Launch) (G : GT) (A : Nat → Prop) (lc : Nat → Nat) (s : QS) (z : ZS) (u : WT) (hR : rQ G lc s z u) (j : Nat) (hj : j < q_n s) (h0 : q_so s j = 0) : Kt l y_Qt_workOut b_Qt_workOut 1 (some .long) 0 0 0 0 0 0 1 6 G A u [.ref (lc (8 + j))] (KQ G A (Rl (fun r u' => wkV s j = (0, r) ∧ ∃ z', zK z z' ∧ rQ G lc s z' u' ∧ fQ lc (q_n s) u u'))) (fun E u' => (wkV s j).1 ≠ 0 ∧ E = exN (wkV s j).1 ∧ ∃ z', zK z z' ∧ rQ G lc s z' u' ∧ fQ lc (q_n s) u u') := by
  refine k_of (by decide) (Nat.le_of_ble_eq_true rfl) (fun p e st m below meth c ls hx hb hr hlocks hml htab hname hown ht hw hl => ?_)
  have hl : lv_has ls 1 [(0, .ref (lc (8 + j)))] := hl
  obtain ⟨n0, hn0⟩ : ∃ n0, q_n s = n0 := ⟨_, rfl⟩
  have hw : Sk G A lc s z n0 u u st st.heap [] := ⟨hw, hR, fQ.rf, hn0⟩
  rw [hn0] at hj
  refine lv_aload_n hx hb d_Qt_workOut_0 rfl (lv_at hl 0 rfl) ?_
  refine kg_N (j := j) 3 (by decide) hx hb ht hown hw hj gw_272 (Or.inr gw_273) rfl d_Qt_workOut_1 ?_
  exact kt_l hx hb hr hlocks hw.1 d_Qt_workOut_4 (by exact ⟨by unfold wkV; rw [if_pos h0], ⟨z, zK.rf, hw.2.1, by rw [hn0]; exact hw.2.2.1⟩⟩) (by first | decide | (dsimp only; omega)) (by first | decide | (dsimp only; omega))
set_option maxHeartbeats 4000000 in
set_option maxRecDepth 100000 in
theorem c_Bl_workOut (l : Launch) (hl9 : l.stackTraces = false) (G : GT) (A : Nat → Prop) (lc : Nat → Nat) (s : QS) (z : ZS) (u : WT) (hR : rQ G lc s z u) (j : Nat) (hj : j < q_n s) (h1 : q_so s j = 1) : Kt l y_Bl_workOut b_Bl_workOut 3 (some .long) 8 143 1 6 0 0 1 6 G A u [.ref (lc (8 + j))] (KQ G A (Rl (fun r u' => wkV s j = (0, r) ∧ ∃ z', zK z z' ∧ rQ G lc s z' u' ∧ fQ lc (q_n s) u u'))) (fun E u' => (wkV s j).1 ≠ 0 ∧ E = exN (wkV s j).1 ∧ ∃ z', zK z z' ∧ rQ G lc s z' u' ∧ fQ lc (q_n s) u u') := by
  refine k_of (by decide) (Nat.le_of_ble_eq_true rfl) (fun p e st m below meth c ls hx hb hr hlocks hml htab hname hown ht hw hl => ?_)
  have hl : lv_has ls 3 [(0, .ref (lc (8 + j)))] := hl
  obtain ⟨n0, hn0⟩ : ∃ n0, q_n s = n0 := ⟨_, rfl⟩
  have hw : Sk G A lc s z n0 u u st st.heap [] := ⟨hw, hR, fQ.rf, hn0⟩
  have hnp : 2 ≤ np s j := by unfold np; rw [if_neg (by omega)]; omega
  have hc0 : cp s j 0 < n0 := by rw [← hn0]; exact cp_lt hR.1 hj (by omega)
  have hc1 : cp s j 1 < n0 := by rw [← hn0]; exact cp_lt hR.1 hj (by omega)
  rw [hn0] at hj
  refine lv_aload_n hx hb d_Bl_workOut_0 rfl (lv_at hl 0 rfl) ?_
  refine kg_B (j := j) 10 (by decide) (by decide) hx hb ht hown hw hj h1 gw_340 rfl (by rw [ndX_B h1]; rfl) d_Bl_workOut_1 ?_
  refine lv_aload_n hx hb d_Bl_workOut_4 rfl (lv_at hl 0 rfl) ?_
  refine kg_N (j := j) 1 (by decide) hx hb ht hown hw hj gw_263 (Or.inr gw_264) rfl d_Bl_workOut_5 ?_
  refine lv_iconst (v := 0) hx hb d_Bl_workOut_8 (by decide) ?_
  refine ka_parts (j := j) (k := 0) rfl hj (by omega) hx hb hw d_Bl_workOut_9 ?_
  refine kg_N (j := (cp s j 0)) 3 (by decide) hx hb ht hown hw hc0 gw_275 (Or.inl rfl) rfl d_Bl_workOut_10 ?_
  refine lv_lmul hx hb d_Bl_workOut_13 ?_
  refine lv_aload_n hx hb d_Bl_workOut_14 rfl (lv_at hl 0 rfl) ?_
  refine kg_B (j := j) 11 (by decide) (by decide) hx hb ht hown hw hj h1 gw_341 rfl (by rw [ndX_B h1]; rfl) d_Bl_workOut_15 ?_
  refine lv_aload_n hx hb d_Bl_workOut_18 rfl (lv_at hl 0 rfl) ?_
  refine kg_N (j := j) 1 (by decide) hx hb ht hown hw hj gw_263 (Or.inr gw_264) rfl d_Bl_workOut_19 ?_
  refine lv_iconst (v := 1) hx hb d_Bl_workOut_22 (by decide) ?_
  refine ka_parts (j := j) (k := 1) rfl hj (by omega) hx hb hw d_Bl_workOut_23 ?_
  refine kg_N (j := (cp s j 1)) 3 (by decide) hx hb ht hown hw hc1 gw_275 (Or.inl rfl) rfl d_Bl_workOut_24 ?_
  refine lv_lmul hx hb d_Bl_workOut_27 ?_
  refine lv_ladd hx hb d_Bl_workOut_28 ?_
  refine lv_lstore_n (lv' := [(1, .long (((q_wa s j) * (q_am s (cp s j 0))) + ((q_wb s j) * (q_am s (cp s j 1))))), (0, .ref (lc (8 + j)))]) hx hb d_Bl_workOut_29 rfl hl (by decide) rfl (fun ls hl => ?_)
  refine lv_lload_n hx hb d_Bl_workOut_30 rfl (lv_at hl 0 rfl) ?_
  refine lv_iconst (v := 3) hx hb d_Bl_workOut_31 (by decide) ?_
  refine kc_l (kr_SN 2 (host := "QuoteGraph") (As := [.long (((q_wa s j) * (q_am s (cp s j 0))) + ((q_wb s j) * (q_am s (cp s j 1)))), .int (3 : Int32)]) (rest := []) (c_Q_rounded l hl9 G A u _ _) hx hb hml hown ht hw.1 (ew_of 560 _ (by decide +kernel) rfl) gw_561 gw_42 gw_562 ⟨⟨by decide, by decide⟩, by decide +kernel⟩ ⟨by first | decide | (dsimp only; omega), by first | decide | (dsimp only; omega)⟩ rfl hl.1 rfl (lv_room (Nat.le_of_ble_eq_true rfl)) d_Bl_workOut_32 ⟨by first | decide | (dsimp only; omega), by first | decide | (dsimp only; omega)⟩) hw.1 (fun E ce q9 u1 H1 locs1 hp hw1 hce hcv hcl => ?_) (fun r1 u1 H1 locs1 hp1 hw1 => ?_)
  · obtain ⟨rfl, hbg, hq9⟩ := hp
    replace hq9 := hq9.symm; subst hq9
    have e9 : wkV s j = (2, 0) := by unfold wkV; rw [if_neg (by omega), if_pos h1, if_pos hbg]
    exact kt_out htab hlocks hw1 hce hcv hcl ⟨by rw [e9]; decide, by rw [e9]; rfl, ⟨z, zK.rf, hw.2.1, by rw [hn0]; exact hw.2.2.1⟩⟩ (by decide) (by decide)
  obtain ⟨er1, hbg, hq1⟩ := hp1
  replace hq1 := hq1.symm; subst hq1
  have hw : Sk G A lc s z n0 u u st H1 locs1 := ⟨hw1, hw.2⟩
  subst er1
  exact kt_l hx hb hr hlocks hw.1 d_Bl_workOut_35 (by exact ⟨by unfold wkV; rw [if_neg (by omega), if_pos h1, if_neg (by rw [show bigL (rndL (q_wa s j * q_am s (cp s j 0) + q_wb s j * q_am s (cp s j 1)) 3) = false from hbg]; decide)], ⟨z, zK.rf, hw.2.1, by rw [hn0]; exact hw.2.2.1⟩⟩) (by first | decide | (dsimp only; omega)) (by first | decide | (dsimp only; omega))
set_option maxHeartbeats 4000000 in
set_option maxRecDepth 100000 in
theorem c_Gr_workOut (l : Launch) (G : GT) (A : Nat → Prop) (lc : Nat → Nat) (s : QS) (z : ZS) (u : WT) (hR : rQ G lc s z u) (j : Nat) (hj : j < q_n s) (h2 : q_so s j = 2) : Kt l y_Gr_workOut b_Gr_workOut 1 (some .long) 1 40 0 0 0 0 1 6 G A u [.ref (lc (8 + j))] (KQ G A (Rl (fun r u' => wkV s j = (0, r) ∧ ∃ z', zK z z' ∧ rQ G lc s z' u' ∧ fQ lc (q_n s) u u'))) (fun E u' => (wkV s j).1 ≠ 0 ∧ E = exN (wkV s j).1 ∧ ∃ z', zK z z' ∧ rQ G lc s z' u' ∧ fQ lc (q_n s) u u') := by
  refine k_of (by decide) (Nat.le_of_ble_eq_true rfl) (fun p e st m below meth c ls hx hb hr hlocks hml htab hname hown ht hw hl => ?_)
  have hl : lv_has ls 1 [(0, .ref (lc (8 + j)))] := hl
  obtain ⟨n0, hn0⟩ : ∃ n0, q_n s = n0 := ⟨_, rfl⟩
  have hw : Sk G A lc s z n0 u u st st.heap [] := ⟨hw, hR, fQ.rf, hn0⟩
  have hnp : 2 ≤ np s j := by unfold np; rw [if_neg (by omega)]; omega
  have hc0 : cp s j 0 < n0 := by rw [← hn0]; exact cp_lt hR.1 hj (by omega)
  have hc1 : cp s j 1 < n0 := by rw [← hn0]; exact cp_lt hR.1 hj (by omega)
  rw [hn0] at hj
  refine lv_aload_n hx hb d_Gr_workOut_0 rfl (lv_at hl 0 rfl) ?_
  refine kg_N (j := j) 1 (by decide) hx hb ht hown hw hj gw_261 (Or.inr gw_262) rfl d_Gr_workOut_1 ?_
  refine lv_iconst (v := 0) hx hb d_Gr_workOut_4 (by decide) ?_
  refine ka_parts (j := j) (k := 0) rfl hj (by omega) hx hb hw d_Gr_workOut_5 ?_
  refine kg_N (j := (cp s j 0)) 3 (by decide) hx hb ht hown hw hc0 gw_274 (Or.inl rfl) rfl d_Gr_workOut_6 ?_
  refine lv_aload_n hx hb d_Gr_workOut_9 rfl (lv_at hl 0 rfl) ?_
  refine kg_N (j := j) 1 (by decide) hx hb ht hown hw hj gw_261 (Or.inr gw_262) rfl d_Gr_workOut_10 ?_
  refine lv_iconst (v := 1) hx hb d_Gr_workOut_13 (by decide) ?_
  refine ka_parts (j := j) (k := 1) rfl hj (by omega) hx hb hw d_Gr_workOut_14 ?_
  refine kg_N (j := (cp s j 1)) 3 (by decide) hx hb ht hown hw hc1 gw_274 (Or.inl rfl) rfl d_Gr_workOut_15 ?_
  refine va_mmax_long hx hb (hml.trans hl.1.symm) hown (ht _ gw_587) (ht _ gw_588) (ht _ gw_59) (ht _ gw_589) (by first | decide | (dsimp only; omega)) (Nat.le_of_ble_eq_true rfl) (by first | decide | (dsimp only; omega)) (by first | decide | (dsimp only; omega)) d_Gr_workOut_18 ?_
  exact kt_l hx hb hr hlocks hw.1 d_Gr_workOut_21 (by exact ⟨by unfold wkV; rw [if_neg (by omega), if_neg (by omega), if_pos h2]; rfl, ⟨z, zK.rf, hw.2.1, by rw [hn0]; exact hw.2.2.1⟩⟩) (by first | decide | (dsimp only; omega)) (by first | decide | (dsimp only; omega))
set_option maxHeartbeats 4000000 in
set_option maxRecDepth 100000 in
theorem c_Op_workOut (l : Launch) (hl9 : l.stackTraces = false) (G : GT) (A : Nat → Prop) (lc : Nat → Nat) (s : QS) (z : ZS) (u : WT) (hR : rQ G lc s z u) (j : Nat) (hj : j < q_n s) (h3 : q_so s j = 3) (hI : invO s j) : Kt l y_Op_workOut b_Op_workOut 1 (some .long) 10 203 1 6 0 0 1 6 G A u [.ref (lc (8 + j))] (KQ G A (Rl (fun r u' => wkV s j = (0, r) ∧ ∃ z', zK z z' ∧ rQ G lc s z' u' ∧ fQ lc (q_n s) u u'))) (fun E u' => (wkV s j).1 ≠ 0 ∧ E = exN (wkV s j).1 ∧ ∃ z', zK z z' ∧ rQ G lc s z' u' ∧ fQ lc (q_n s) u u') := by
  refine k_of (by decide) (Nat.le_of_ble_eq_true rfl) (fun p e st m below meth c ls hx hb hr hlocks hml htab hname hown ht hw hl => ?_)
  have hl : lv_has ls 1 [(0, .ref (lc (8 + j)))] := hl
  obtain ⟨n0, hn0⟩ : ∃ n0, q_n s = n0 := ⟨_, rfl⟩
  have hw : Sk G A lc s z n0 u u st st.heap [] := ⟨hw, hR, fQ.rf, hn0⟩
  have hs0 := (opt_p hR.1 hj h3).1
  have hs1 := (opt_p hR.1 hj h3).2
  have hen : q_en s j = 0 ∨ q_en s j = 1 ∨ q_en s j = 2 := by have := (hR.1.2 j hj).2.2.2.2.2; omega
  have ew : wkV s j = oWork s j := by unfold wkV; rw [if_neg (by omega), if_neg (by omega), if_neg (by omega)]
  obtain ⟨hI1, hI2, hI3, hI4, hI5, hI6⟩ := hI
  rw [hn0] at hj hs0 hs1
  rw [ew]
  rcases hen with hen | hen | hen
  · refine lv_aload_n hx hb d_Op_workOut_0 rfl (lv_at hl 0 rfl) ?_
    refine kg_O (j := j) 19 (by decide) (by decide) hx hb ht hown hw hj h3 gw_420 rfl (by rw [ndX_O h3]; rfl) d_Op_workOut_1 ?_
    rw [hen]
    refine lv_aload_n hx hb d_Op_workOut_4 rfl (lv_at hl 0 rfl) ?_
    refine kc_v (kr_U 1 (x := ⟨"QuoteGraph$Engine", "checkSuits", "(LQuoteGraph$Option;)V"⟩) (owner := "QuoteGraph$Engine") (C := "QuoteGraph$Lattice") (As := [.ref (lc (8 + j))]) (rest := []) (c_La_checkSuits l G A u _ _) hx hb hml hown ht hw.1 gw_593 gw_595 (va_Decl.abs (hw.1.1.2.2.2.2.1 _ (ew_of 594 _ (by decide +kernel) rfl))) gw_596 gw_597 gw_44 gw_598 ⟨⟨by decide, by decide⟩, by decide +kernel⟩ ⟨by first | decide | (dsimp only; omega), by first | decide | (dsimp only; omega)⟩ (kr_La hw) rfl hl.1 rfl (lv_room (Nat.le_of_ble_eq_true rfl)) d_Op_workOut_5 ⟨by first | decide | (dsimp only; omega), by first | decide | (dsimp only; omega)⟩) hw.1 (fun _ _ _ _ _ _ h => h.elim) (fun u1 H1 locs1 hp1 hw1 => ?_)
    have hq1 := hp1
    replace hq1 := hq1.symm; subst hq1
    have hw : Sk G A lc s z n0 u u st H1 locs1 := ⟨hw1, hw.2⟩
    refine lv_aload_n hx hb d_Op_workOut_8 rfl (lv_at hl 0 rfl) ?_
    refine kg_O (j := j) 11 (by decide) (by decide) hx hb ht hown hw hj h3 gw_402 rfl (by rw [ndX_O h3]; rfl) d_Op_workOut_9 ?_
    refine kg_N (j := ((q_pt s j 1).getD 0)) 3 (by decide) hx hb ht hown hw hs1 gw_277 (Or.inl rfl) rfl d_Op_workOut_12 ?_
    refine lv_lconst (v := 0) hx hb d_Op_workOut_15 (by decide) ?_
    refine W.lcmp hx hb d_Op_workOut_16 ?_
    refine lv_if_gt (tgt := 30) hx hb d_Op_workOut_17 (by decide) (fun c2 => ?_) (fun c2 => ?_)
    · have hmv : 0 < oM s j := (lg_cmp_gt _ _).mp c2
      refine lv_aload_n hx hb d_Op_workOut_30 rfl (lv_at hl 0 rfl) ?_
      refine kg_O (j := j) 19 (by decide) (by decide) hx hb ht hown hw hj h3 gw_420 rfl (by rw [ndX_O h3]; rfl) d_Op_workOut_31 ?_
      rw [hen]
      refine lv_aload_n hx hb d_Op_workOut_34 rfl (lv_at hl 0 rfl) ?_
      refine lv_aload_n hx hb d_Op_workOut_35 rfl (lv_at hl 0 rfl) ?_
      refine kc_l (kr_V 0 (C := "QuoteGraph$Option") (As := []) (rest := [.ref (lc (8 + j)), .ref (lc 5)]) (c_Op_discount l hl9 G A lc s z u hR j (by rw [hn0]; exact hj) h3) hx hb hml hown ht hw.1 gw_627 gw_629 gw_14 gw_57 gw_630 ⟨⟨by decide, by decide⟩, by decide +kernel⟩ ⟨by first | decide | (dsimp only; omega), by first | decide | (dsimp only; omega)⟩ (by have h := kr_N hw hj; rw [h3] at h; exact h) rfl hl.1 rfl (lv_room (Nat.le_of_ble_eq_true rfl)) d_Op_workOut_36 ⟨by first | decide | (dsimp only; omega), by first | decide | (dsimp only; omega)⟩) hw.1 (fun E ce q9 u1 H1 locs1 hp hw1 hce hcv hcl => ?_) (fun r3 u3 H3 locs3 hp3 hw3 => ?_)
      · obtain ⟨rfl, htk, hq9⟩ := hp
        replace hq9 := hq9.symm; subst hq9
        have e9 : oWork s j = (2, 0) := by unfold oWork; rw [if_neg (by rw [hen]; omega), if_neg (by rw [hen]; omega), if_neg (fun h => h hmv), if_pos htk]
        exact kt_out htab hlocks hw1 hce hcv hcl ⟨by rw [e9]; decide, by rw [e9]; rfl, ⟨z, zK.rf, hw.2.1, by rw [hn0]; exact hw.2.2.1⟩⟩ (by decide) (by decide)
      obtain ⟨er3, ht1, ht2, hq3⟩ := hp3
      replace hq3 := hq3.symm; subst hq3
      have hw : Sk G A lc s z n0 u u st H3 locs3 := ⟨hw3, hw.2⟩
      subst er3
      refine kc_l (kr_U 2 (x := ⟨"QuoteGraph$Engine", "price", "(LQuoteGraph$Option;J)J"⟩) (owner := "QuoteGraph$Engine") (C := "QuoteGraph$Lattice") (As := [.ref (lc (8 + j)), .long (1024 - oTak s j)]) (rest := []) (c_La_price l hl9 G A lc s z u hR j (by rw [hn0]; exact hj) h3 _ (spN s j) hI1 hI2 hI3) hx hb hml hown ht hw.1 gw_633 gw_635 (va_Decl.abs (hw.1.1.2.2.2.2.1 _ (ew_of 634 _ (by decide +kernel) rfl))) gw_636 gw_637 gw_44 gw_638 ⟨⟨by decide, by decide⟩, by decide +kernel⟩ ⟨by first | decide | (dsimp only; omega), by first | decide | (dsimp only; omega)⟩ (kr_La hw) rfl hl.1 rfl (lv_room (Nat.le_of_ble_eq_true rfl)) d_Op_workOut_39 ⟨by first | decide | (dsimp only; omega), by first | decide | (dsimp only; omega)⟩) hw.1 (fun E ce q9 u1 H1 locs1 hp hw1 hce hcv hcl => ?_) (fun r4 u4 H4 locs4 hp4 hw4 => ?_)
      · obtain ⟨rfl, hv9, ⟨g9, hr9⟩, hf9⟩ := hp
        have e8 : oPrice s j (1024 - oTak s j) = none := by unfold oPrice; rw [if_pos hen, latV_ext s j _ _ _ (z_lr z)]; exact hv9
        have e9 : oWork s j = (2, 0) := by unfold oWork; rw [if_neg (by rw [hen]; omega), if_neg (by rw [hen]; omega), if_neg (fun h => h hmv), if_neg (fun h => h.elim ht1 (fun h => by simp only [Int64.le_iff_toInt_le, Int64.lt_iff_toInt_lt] at *; omega))]; rw [e8]
        exact kt_out htab hlocks hw1 hce hcv hcl ⟨by rw [e9]; decide, by rw [e9]; rfl, ⟨zS_lr z g9, ⟨rfl, rfl, rfl⟩, hr9, hf9⟩⟩ (by decide) (by decide)
      obtain ⟨hv9, ⟨g9, hr9⟩, hf9⟩ := hp4
      have e8 : oPrice s j (1024 - oTak s j) = some r4 := by unfold oPrice; rw [if_pos hen, latV_ext s j _ _ _ (z_lr z)]; exact hv9
      exact kt_l hx hb hr hlocks hw4 d_Op_workOut_42 (by exact ⟨by unfold oWork; rw [if_neg (by rw [hen]; omega), if_neg (by rw [hen]; omega), if_neg (fun h => h hmv), if_neg (fun h => h.elim ht1 (fun h => by simp only [Int64.le_iff_toInt_le, Int64.lt_iff_toInt_lt] at *; omega))]; rw [e8], ⟨zS_lr z g9, ⟨rfl, rfl, rfl⟩, hr9, hf9⟩⟩) (by first | decide | (dsimp only; omega)) (by first | decide | (dsimp only; omega))
    · exact kt_throw (own := R_Op) (cls := "java/lang/ArithmeticException") (ik := 58) (is := 60) (ic := 62) 11 hl9 hx hb htab hlocks hml hl.1 ht hown hw.1 (by decide) gw_624 gw_58 rfl at_Op_62 d_Op_workOut_20 d_Op_workOut_23 d_Op_workOut_24 d_Op_workOut_26 d_Op_workOut_29 (by first | decide | (dsimp only; omega)) (Nat.le_of_ble_eq_true rfl) (by first | decide | (dsimp only; omega)) (by first | decide | (dsimp only; omega)) (by have e9 : oWork s j = (2, 0) := (by unfold oWork; rw [if_neg (by rw [hen]; omega), if_neg (by rw [hen]; omega), if_pos (show ¬ 0 < oM s j from fun h => c2 ((lg_cmp_gt _ _).mpr h))]); exact ⟨by rw [e9]; decide, by rw [e9]; rfl, ⟨z, zK.rf, hw.2.1, by rw [hn0]; exact hw.2.2.1⟩⟩) (by first | decide | (dsimp only; omega)) (by first | decide | (dsimp only; omega))
  · refine lv_aload_n hx hb d_Op_workOut_0 rfl (lv_at hl 0 rfl) ?_
    refine kg_O (j := j) 19 (by decide) (by decide) hx hb ht hown hw hj h3 gw_420 rfl (by rw [ndX_O h3]; rfl) d_Op_workOut_1 ?_
    rw [hen]
    refine lv_aload_n hx hb d_Op_workOut_4 rfl (lv_at hl 0 rfl) ?_
    refine kc_v (kr_U 1 (x := ⟨"QuoteGraph$Engine", "checkSuits", "(LQuoteGraph$Option;)V"⟩) (owner := "QuoteGraph$Engine") (C := "QuoteGraph$Paths") (As := [.ref (lc (8 + j))]) (rest := []) (c_Pa_checkSuits l hl9 G A lc s z u hR j (by rw [hn0]; exact hj) h3) hx hb hml hown ht hw.1 gw_593 gw_595 (va_Decl.abs (hw.1.1.2.2.2.2.1 _ (ew_of 594 _ (by decide +kernel) rfl))) gw_605 gw_606 gw_45 gw_607 ⟨⟨by decide, by decide⟩, by decide +kernel⟩ ⟨by first | decide | (dsimp only; omega), by first | decide | (dsimp only; omega)⟩ (kr_Pa hw) rfl hl.1 rfl (lv_room (Nat.le_of_ble_eq_true rfl)) d_Op_workOut_5 ⟨by first | decide | (dsimp only; omega), by first | decide | (dsimp only; omega)⟩) hw.1 (fun E ce q9 u1 H1 locs1 hp hw1 hce hcv hcl => ?_) (fun u5 H5 locs5 hp5 hw5 => ?_)
    · obtain ⟨rfl, hus, hq9⟩ := hp
      replace hq9 := hq9.symm; subst hq9
      have e9 : oWork s j = (3, 0) := by unfold oWork; rw [if_pos ⟨hen, hus⟩]
      exact kt_out htab hlocks hw1 hce hcv hcl ⟨by rw [e9]; decide, by rw [e9]; rfl, ⟨z, zK.rf, hw.2.1, by rw [hn0]; exact hw.2.2.1⟩⟩ (by decide) (by decide)
    obtain ⟨hus, hq5⟩ := hp5
    replace hq5 := hq5.symm; subst hq5
    have hw : Sk G A lc s z n0 u u st H5 locs5 := ⟨hw5, hw.2⟩
    refine lv_aload_n hx hb d_Op_workOut_8 rfl (lv_at hl 0 rfl) ?_
    refine kg_O (j := j) 11 (by decide) (by decide) hx hb ht hown hw hj h3 gw_402 rfl (by rw [ndX_O h3]; rfl) d_Op_workOut_9 ?_
    refine kg_N (j := ((q_pt s j 1).getD 0)) 3 (by decide) hx hb ht hown hw hs1 gw_277 (Or.inl rfl) rfl d_Op_workOut_12 ?_
    refine lv_lconst (v := 0) hx hb d_Op_workOut_15 (by decide) ?_
    refine W.lcmp hx hb d_Op_workOut_16 ?_
    refine lv_if_gt (tgt := 30) hx hb d_Op_workOut_17 (by decide) (fun c6 => ?_) (fun c6 => ?_)
    · have hmv : 0 < oM s j := (lg_cmp_gt _ _).mp c6
      refine lv_aload_n hx hb d_Op_workOut_30 rfl (lv_at hl 0 rfl) ?_
      refine kg_O (j := j) 19 (by decide) (by decide) hx hb ht hown hw hj h3 gw_420 rfl (by rw [ndX_O h3]; rfl) d_Op_workOut_31 ?_
      rw [hen]
      refine lv_aload_n hx hb d_Op_workOut_34 rfl (lv_at hl 0 rfl) ?_
      refine lv_aload_n hx hb d_Op_workOut_35 rfl (lv_at hl 0 rfl) ?_
      refine kc_l (kr_V 0 (C := "QuoteGraph$Option") (As := []) (rest := [.ref (lc (8 + j)), .ref (lc 6)]) (c_Op_discount l hl9 G A lc s z u hR j (by rw [hn0]; exact hj) h3) hx hb hml hown ht hw.1 gw_627 gw_629 gw_14 gw_57 gw_630 ⟨⟨by decide, by decide⟩, by decide +kernel⟩ ⟨by first | decide | (dsimp only; omega), by first | decide | (dsimp only; omega)⟩ (by have h := kr_N hw hj; rw [h3] at h; exact h) rfl hl.1 rfl (lv_room (Nat.le_of_ble_eq_true rfl)) d_Op_workOut_36 ⟨by first | decide | (dsimp only; omega), by first | decide | (dsimp only; omega)⟩) hw.1 (fun E ce q9 u1 H1 locs1 hp hw1 hce hcv hcl => ?_) (fun r7 u7 H7 locs7 hp7 hw7 => ?_)
      · obtain ⟨rfl, htk, hq9⟩ := hp
        replace hq9 := hq9.symm; subst hq9
        have e9 : oWork s j = (2, 0) := by unfold oWork; rw [if_neg (by rw [hus]; simp), if_neg (by rw [hen]; omega), if_neg (fun h => h hmv), if_pos htk]
        exact kt_out htab hlocks hw1 hce hcv hcl ⟨by rw [e9]; decide, by rw [e9]; rfl, ⟨z, zK.rf, hw.2.1, by rw [hn0]; exact hw.2.2.1⟩⟩ (by decide) (by decide)
      obtain ⟨er7, ht1, ht2, hq7⟩ := hp7
      replace hq7 := hq7.symm; subst hq7
      have hw : Sk G A lc s z n0 u u st H7 locs7 := ⟨hw7, hw.2⟩
      subst er7
      refine kc_l (kr_U 2 (x := ⟨"QuoteGraph$Engine", "price", "(LQuoteGraph$Option;J)J"⟩) (owner := "QuoteGraph$Engine") (C := "QuoteGraph$Paths") (As := [.ref (lc (8 + j)), .long (1024 - oTak s j)]) (rest := []) (c_Pa_price l hl9 G A lc s z u hR j (by rw [hn0]; exact hj) h3 _ (szN s j) (spN s j) hI4 (hI5 hen) hI1 hI3) hx hb hml hown ht hw.1 gw_633 gw_635 (va_Decl.abs (hw.1.1.2.2.2.2.1 _ (ew_of 634 _ (by decide +kernel) rfl))) gw_679 gw_680 gw_45 gw_681 ⟨⟨by decide, by decide⟩, by decide +kernel⟩ ⟨by first | decide | (dsimp only; omega), by first | decide | (dsimp only; omega)⟩ (kr_Pa hw) rfl hl.1 rfl (lv_room (Nat.le_of_ble_eq_true rfl)) d_Op_workOut_39 ⟨by first | decide | (dsimp only; omega), by first | decide | (dsimp only; omega)⟩) hw.1 (fun E ce q9 u1 H1 locs1 hp hw1 hce hcv hcl => ?_) (fun r8 u8 H8 locs8 hp8 hw8 => ?_)
      · obtain ⟨rfl, hv9, ⟨g9, hr9⟩, hf9⟩ := hp
        have e8 : oPrice s j (1024 - oTak s j) = none := by unfold oPrice; rw [if_neg (by omega), if_pos hen]; exact hv9
        have e9 : oWork s j = (2, 0) := by unfold oWork; rw [if_neg (by rw [hus]; simp), if_neg (by rw [hen]; omega), if_neg (fun h => h hmv), if_neg (fun h => h.elim ht1 (fun h => by simp only [Int64.le_iff_toInt_le, Int64.lt_iff_toInt_lt] at *; omega))]; rw [e8]
        exact kt_out htab hlocks hw1 hce hcv hcl ⟨by rw [e9]; decide, by rw [e9]; rfl, ⟨zS_dw z g9, ⟨rfl, rfl, rfl⟩, hr9, hf9⟩⟩ (by decide) (by decide)
      obtain ⟨hv9, ⟨g9, hr9⟩, hf9⟩ := hp8
      have e8 : oPrice s j (1024 - oTak s j) = some r8 := by unfold oPrice; rw [if_neg (by omega), if_pos hen]; exact hv9
      exact kt_l hx hb hr hlocks hw8 d_Op_workOut_42 (by exact ⟨by unfold oWork; rw [if_neg (by rw [hus]; simp), if_neg (by rw [hen]; omega), if_neg (fun h => h hmv), if_neg (fun h => h.elim ht1 (fun h => by simp only [Int64.le_iff_toInt_le, Int64.lt_iff_toInt_lt] at *; omega))]; rw [e8], ⟨zS_dw z g9, ⟨rfl, rfl, rfl⟩, hr9, hf9⟩⟩) (by first | decide | (dsimp only; omega)) (by first | decide | (dsimp only; omega))
    · exact kt_throw (own := R_Op) (cls := "java/lang/ArithmeticException") (ik := 58) (is := 60) (ic := 62) 11 hl9 hx hb htab hlocks hml hl.1 ht hown hw.1 (by decide) gw_624 gw_58 rfl at_Op_62 d_Op_workOut_20 d_Op_workOut_23 d_Op_workOut_24 d_Op_workOut_26 d_Op_workOut_29 (by first | decide | (dsimp only; omega)) (Nat.le_of_ble_eq_true rfl) (by first | decide | (dsimp only; omega)) (by first | decide | (dsimp only; omega)) (by have e9 : oWork s j = (2, 0) := (by unfold oWork; rw [if_neg (by rw [hus]; simp), if_neg (by rw [hen]; omega), if_pos (show ¬ 0 < oM s j from fun h => c6 ((lg_cmp_gt _ _).mpr h))]); exact ⟨by rw [e9]; decide, by rw [e9]; rfl, ⟨z, zK.rf, hw.2.1, by rw [hn0]; exact hw.2.2.1⟩⟩) (by first | decide | (dsimp only; omega)) (by first | decide | (dsimp only; omega))
  · refine lv_aload_n hx hb d_Op_workOut_0 rfl (lv_at hl 0 rfl) ?_
    refine kg_O (j := j) 19 (by decide) (by decide) hx hb ht hown hw hj h3 gw_420 rfl (by rw [ndX_O h3]; rfl) d_Op_workOut_1 ?_
    rw [hen]
    refine lv_aload_n hx hb d_Op_workOut_4 rfl (lv_at hl 0 rfl) ?_
    refine kc_v (kr_U 1 (x := ⟨"QuoteGraph$Engine", "checkSuits", "(LQuoteGraph$Option;)V"⟩) (owner := "QuoteGraph$Engine") (C := "QuoteGraph$Net") (As := [.ref (lc (8 + j))]) (rest := []) (c_Ne_checkSuits l hl9 G A lc s z u hR j (by rw [hn0]; exact hj) h3) hx hb hml hown ht hw.1 gw_593 gw_595 (va_Decl.abs (hw.1.1.2.2.2.2.1 _ (ew_of 594 _ (by decide +kernel) rfl))) gw_599 gw_600 gw_46 gw_601 ⟨⟨by decide, by decide⟩, by decide +kernel⟩ ⟨by first | decide | (dsimp only; omega), by first | decide | (dsimp only; omega)⟩ (kr_Ne hw) rfl hl.1 rfl (lv_room (Nat.le_of_ble_eq_true rfl)) d_Op_workOut_5 ⟨by first | decide | (dsimp only; omega), by first | decide | (dsimp only; omega)⟩) hw.1 (fun E ce q9 u1 H1 locs1 hp hw1 hce hcv hcl => ?_) (fun u9 H9 locs9 hp9 hw9 => ?_)
    · obtain ⟨rfl, hch, hq9⟩ := hp
      replace hq9 := hq9.symm; subst hq9
      have e9 : oWork s j = (2, 0) := by unfold oWork; rw [if_neg (by rw [hen]; omega), if_pos ⟨hen, hch⟩]
      exact kt_out htab hlocks hw1 hce hcv hcl ⟨by rw [e9]; decide, by rw [e9]; rfl, ⟨z, zK.rf, hw.2.1, by rw [hn0]; exact hw.2.2.1⟩⟩ (by decide) (by decide)
    obtain ⟨hch, hq9⟩ := hp9
    replace hq9 := hq9.symm; subst hq9
    have hw : Sk G A lc s z n0 u u st H9 locs9 := ⟨hw9, hw.2⟩
    refine lv_aload_n hx hb d_Op_workOut_8 rfl (lv_at hl 0 rfl) ?_
    refine kg_O (j := j) 11 (by decide) (by decide) hx hb ht hown hw hj h3 gw_402 rfl (by rw [ndX_O h3]; rfl) d_Op_workOut_9 ?_
    refine kg_N (j := ((q_pt s j 1).getD 0)) 3 (by decide) hx hb ht hown hw hs1 gw_277 (Or.inl rfl) rfl d_Op_workOut_12 ?_
    refine lv_lconst (v := 0) hx hb d_Op_workOut_15 (by decide) ?_
    refine W.lcmp hx hb d_Op_workOut_16 ?_
    refine lv_if_gt (tgt := 30) hx hb d_Op_workOut_17 (by decide) (fun c10 => ?_) (fun c10 => ?_)
    · have hmv : 0 < oM s j := (lg_cmp_gt _ _).mp c10
      refine lv_aload_n hx hb d_Op_workOut_30 rfl (lv_at hl 0 rfl) ?_
      refine kg_O (j := j) 19 (by decide) (by decide) hx hb ht hown hw hj h3 gw_420 rfl (by rw [ndX_O h3]; rfl) d_Op_workOut_31 ?_
      rw [hen]
      refine lv_aload_n hx hb d_Op_workOut_34 rfl (lv_at hl 0 rfl) ?_
      refine lv_aload_n hx hb d_Op_workOut_35 rfl (lv_at hl 0 rfl) ?_
      refine kc_l (kr_V 0 (C := "QuoteGraph$Option") (As := []) (rest := [.ref (lc (8 + j)), .ref (lc 7)]) (c_Op_discount l hl9 G A lc s z u hR j (by rw [hn0]; exact hj) h3) hx hb hml hown ht hw.1 gw_627 gw_629 gw_14 gw_57 gw_630 ⟨⟨by decide, by decide⟩, by decide +kernel⟩ ⟨by first | decide | (dsimp only; omega), by first | decide | (dsimp only; omega)⟩ (by have h := kr_N hw hj; rw [h3] at h; exact h) rfl hl.1 rfl (lv_room (Nat.le_of_ble_eq_true rfl)) d_Op_workOut_36 ⟨by first | decide | (dsimp only; omega), by first | decide | (dsimp only; omega)⟩) hw.1 (fun E ce q9 u1 H1 locs1 hp hw1 hce hcv hcl => ?_) (fun r11 u11 H11 locs11 hp11 hw11 => ?_)
      · obtain ⟨rfl, htk, hq9⟩ := hp
        replace hq9 := hq9.symm; subst hq9
        have e9 : oWork s j = (2, 0) := by unfold oWork; rw [if_neg (by rw [hen]; omega), if_neg (fun h => h.2 hch), if_neg (fun h => h hmv), if_pos htk]
        exact kt_out htab hlocks hw1 hce hcv hcl ⟨by rw [e9]; decide, by rw [e9]; rfl, ⟨z, zK.rf, hw.2.1, by rw [hn0]; exact hw.2.2.1⟩⟩ (by decide) (by decide)
      obtain ⟨er11, ht1, ht2, hq11⟩ := hp11
      replace hq11 := hq11.symm; subst hq11
      have hw : Sk G A lc s z n0 u u st H11 locs11 := ⟨hw11, hw.2⟩
      subst er11
      refine kc_l (kr_U 2 (x := ⟨"QuoteGraph$Engine", "price", "(LQuoteGraph$Option;J)J"⟩) (owner := "QuoteGraph$Engine") (C := "QuoteGraph$Net") (As := [.ref (lc (8 + j)), .long (1024 - oTak s j)]) (rest := []) (c_Ne_price l hl9 G A lc s z u hR j (by rw [hn0]; exact hj) h3 _ (szN s j) (spN s j) hI4 (hI6 hen).1 (hI6 hen).2 hI1 hI3) hx hb hml hown ht hw.1 gw_633 gw_635 (va_Decl.abs (hw.1.1.2.2.2.2.1 _ (ew_of 634 _ (by decide +kernel) rfl))) gw_666 gw_667 gw_46 gw_668 ⟨⟨by decide, by decide⟩, by decide +kernel⟩ ⟨by first | decide | (dsimp only; omega), by first | decide | (dsimp only; omega)⟩ (kr_Ne hw) rfl hl.1 rfl (lv_room (Nat.le_of_ble_eq_true rfl)) d_Op_workOut_39 ⟨by first | decide | (dsimp only; omega), by first | decide | (dsimp only; omega)⟩) hw.1 (fun E ce q9 u1 H1 locs1 hp hw1 hce hcv hcl => ?_) (fun r12 u12 H12 locs12 hp12 hw12 => ?_)
      · obtain ⟨rfl, hv9, ⟨g9, hr9⟩, hf9⟩ := hp
        have e8 : oPrice s j (1024 - oTak s j) = none := by unfold oPrice; rw [if_neg (by omega), if_neg (by omega), netV_ext s j _ _ _ (hI6 hen).1 _ (z_nr z)]; exact hv9
        have e9 : oWork s j = (2, 0) := by unfold oWork; rw [if_neg (by rw [hen]; omega), if_neg (fun h => h.2 hch), if_neg (fun h => h hmv), if_neg (fun h => h.elim ht1 (fun h => by simp only [Int64.le_iff_toInt_le, Int64.lt_iff_toInt_lt] at *; omega))]; rw [e8]
        exact kt_out htab hlocks hw1 hce hcv hcl ⟨by rw [e9]; decide, by rw [e9]; rfl, ⟨zS_nr z g9, ⟨rfl, rfl, rfl⟩, hr9, hf9⟩⟩ (by decide) (by decide)
      obtain ⟨hv9, ⟨g9, hr9⟩, hf9⟩ := hp12
      have e8 : oPrice s j (1024 - oTak s j) = some r12 := by unfold oPrice; rw [if_neg (by omega), if_neg (by omega), netV_ext s j _ _ _ (hI6 hen).1 _ (z_nr z)]; exact hv9
      exact kt_l hx hb hr hlocks hw12 d_Op_workOut_42 (by exact ⟨by unfold oWork; rw [if_neg (by rw [hen]; omega), if_neg (fun h => h.2 hch), if_neg (fun h => h hmv), if_neg (fun h => h.elim ht1 (fun h => by simp only [Int64.le_iff_toInt_le, Int64.lt_iff_toInt_lt] at *; omega))]; rw [e8], ⟨zS_nr z g9, ⟨rfl, rfl, rfl⟩, hr9, hf9⟩⟩) (by first | decide | (dsimp only; omega)) (by first | decide | (dsimp only; omega))
    · exact kt_throw (own := R_Op) (cls := "java/lang/ArithmeticException") (ik := 58) (is := 60) (ic := 62) 11 hl9 hx hb htab hlocks hml hl.1 ht hown hw.1 (by decide) gw_624 gw_58 rfl at_Op_62 d_Op_workOut_20 d_Op_workOut_23 d_Op_workOut_24 d_Op_workOut_26 d_Op_workOut_29 (by first | decide | (dsimp only; omega)) (Nat.le_of_ble_eq_true rfl) (by first | decide | (dsimp only; omega)) (by first | decide | (dsimp only; omega)) (by have e9 : oWork s j = (2, 0) := (by unfold oWork; rw [if_neg (by rw [hen]; omega), if_neg (fun h => h.2 hch), if_pos (show ¬ 0 < oM s j from fun h => c10 ((lg_cmp_gt _ _).mpr h))]); exact ⟨by rw [e9]; decide, by rw [e9]; rfl, ⟨z, zK.rf, hw.2.1, by rw [hn0]; exact hw.2.2.1⟩⟩) (by first | decide | (dsimp only; omega)) (by first | decide | (dsimp only; omega))
