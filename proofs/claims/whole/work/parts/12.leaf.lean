/-! 12.leaf: contracts of small methods of the class -/
set_option maxHeartbeats 4000000 in
set_option maxRecDepth 100000 in
theorem c_Q_notTooLarge (l : Launch) (hl9 : l.stackTraces = false) (G : GT) (A : Nat → Prop) (u : WT) (x : Int64) : Kt l y_Q_notTooLarge b_Q_notTooLarge 2 (some .long) 6 100 1 6 0 0 1 6 G A u [.long x] (KQ G A (Rl (fun r u' => r = x ∧ bigL x = false ∧ u' = u))) (fun E u' => E = "java/lang/ArithmeticException" ∧ bigL x = true ∧ u' = u) := by
  refine k_of (by decide) (Nat.le_of_ble_eq_true rfl) (fun p e st m below meth c ls hx hb hr hlocks hml htab hname hown ht hw hl => ?_)
  have hl : lv_has ls 2 [(0, .long x)] := hl
  refine lv_lload_n hx hb d_Q_notTooLarge_0 rfl (lv_at hl 0 rfl) ?_
  refine lv_ldc2 (v := 1024000000) hx hb hown (ht _ gw_567) d_Q_notTooLarge_1 ?_
  refine W.lcmp hx hb d_Q_notTooLarge_4 ?_
  refine lv_if_gt (tgt := 16) hx hb d_Q_notTooLarge_5 (by decide) (fun c1 => ?_) (fun c1 => ?_)
  · exact kt_throwW (own := R_Q) (cls := "java/lang/ArithmeticException") (ik := 246) (is := 280) (ic := 267) 8 hl9 hx hb htab hlocks hml hl.1 ht hown hw (by decide) gw_548 gw_58 rfl at_Q_267 d_Q_notTooLarge_16 d_Q_notTooLarge_19 d_Q_notTooLarge_20 d_Q_notTooLarge_23 d_Q_notTooLarge_26 (by first | decide | (dsimp only; omega)) (Nat.le_of_ble_eq_true rfl) (by first | decide | (dsimp only; omega)) (by first | decide | (dsimp only; omega)) (by exact ⟨rfl, by simp only [bigL, Bool.or_eq_true, decide_eq_true_eq]; exact Or.inl ((lg_cmp_gt _ _).mp c1), rfl⟩) (by first | decide | (dsimp only; omega)) (by first | decide | (dsimp only; omega))
  · refine lv_lload_n hx hb d_Q_notTooLarge_8 rfl (lv_at hl 0 rfl) ?_
    refine lv_ldc2 (v := (-1024000000)) hx hb hown (ht _ gw_568) d_Q_notTooLarge_9 ?_
    refine W.lcmp hx hb d_Q_notTooLarge_12 ?_
    refine lv_if_ge (tgt := 27) hx hb d_Q_notTooLarge_13 (by decide) (fun c2 => ?_) (fun c2 => ?_)
    · refine lv_lload_n hx hb d_Q_notTooLarge_27 rfl (lv_at hl 0 rfl) ?_
      exact kt_l hx hb hr hlocks hw d_Q_notTooLarge_28 (by exact ⟨rfl, by simp only [bigL, Bool.or_eq_false_iff, decide_eq_false_iff_not]; exact ⟨fun h => c1 ((lg_cmp_gt _ _).mpr h), fun h => (by rw [← i_nlt] at c2; exact c2 ((lg_cmp_lt _ _).mpr h))⟩, rfl⟩) (by first | decide | (dsimp only; omega)) (by first | decide | (dsimp only; omega))
    · exact kt_throwW (own := R_Q) (cls := "java/lang/ArithmeticException") (ik := 246) (is := 280) (ic := 267) 8 hl9 hx hb htab hlocks hml hl.1 ht hown hw (by decide) gw_548 gw_58 rfl at_Q_267 d_Q_notTooLarge_16 d_Q_notTooLarge_19 d_Q_notTooLarge_20 d_Q_notTooLarge_23 d_Q_notTooLarge_26 (by first | decide | (dsimp only; omega)) (Nat.le_of_ble_eq_true rfl) (by first | decide | (dsimp only; omega)) (by first | decide | (dsimp only; omega)) (by exact ⟨rfl, by simp only [bigL, Bool.or_eq_true, decide_eq_true_eq]; exact Or.inr ((lg_cmp_lt _ _).mp (i_nle.mp c2)), rfl⟩) (by first | decide | (dsimp only; omega)) (by first | decide | (dsimp only; omega))
set_option maxHeartbeats 4000000 in
set_option maxRecDepth 100000 in
theorem c_Q_rounded (l : Launch) (hl9 : l.stackTraces = false) (G : GT) (A : Nat → Prop) (u : WT) (x : Int64) (k : Int32) : Kt l y_Q_rounded b_Q_rounded 3 (some .long) 7 121 1 6 0 0 1 6 G A u [.long x, .int k] (KQ G A (Rl (fun r u' => r = rndL x k ∧ bigL (rndL x k) = false ∧ u' = u))) (fun E u' => E = "java/lang/ArithmeticException" ∧ bigL (rndL x k) = true ∧ u' = u) := by
  refine k_of (by decide) (Nat.le_of_ble_eq_true rfl) (fun p e st m below meth c ls hx hb hr hlocks hml htab hname hown ht hw hl => ?_)
  have hl : lv_has ls 3 [(0, .long x), (2, .int k)] := hl
  refine lv_ldc2 (v := 2) hx hb hown (ht _ gw_563) d_Q_rounded_0 ?_
  refine lv_lload_n hx hb d_Q_rounded_3 rfl (lv_at hl 0 rfl) ?_
  refine lv_lmul hx hb d_Q_rounded_4 ?_
  refine lv_lconst (v := 1) hx hb d_Q_rounded_5 (by decide) ?_
  refine lv_iload_n hx hb d_Q_rounded_6 rfl (lv_at hl 1 rfl) ?_
  refine lv_lshl hx hb d_Q_rounded_7 rfl ?_
  refine lv_ladd hx hb d_Q_rounded_8 ?_
  refine lv_iload_n hx hb d_Q_rounded_9 rfl (lv_at hl 1 rfl) ?_
  refine lv_iconst (v := 1) hx hb d_Q_rounded_10 (by decide) ?_
  refine lv_iadd hx hb d_Q_rounded_11 ?_
  refine lv_lshr hx hb d_Q_rounded_12 rfl ?_
  refine kc_l (kr_S 1 (As := [.long ((((2 : Int64) * x) + ((1 : Int64) <<< (k.toInt64 &&& 63))) >>> ((k + (1 : Int32)).toInt64 &&& 63))]) (rest := []) (c_Q_notTooLarge l hl9 G A u _) hx hb hml hown ht hw gw_564 gw_565 gw_42 gw_566 ⟨⟨by decide, by decide⟩, by decide +kernel⟩ ⟨by first | decide | (dsimp only; omega), by first | decide | (dsimp only; omega)⟩ rfl hl.1 rfl (lv_room (Nat.le_of_ble_eq_true rfl)) d_Q_rounded_13 ⟨by first | decide | (dsimp only; omega), by first | decide | (dsimp only; omega)⟩) hw (fun E ce q9 u1 H1 locs1 hp hw1 hce hcv hcl => ?_) (fun r1 u1 H1 locs1 hp1 hw1 => ?_)
  · obtain ⟨rfl, hp, rfl⟩ := hp
    exact kt_out htab hlocks hw1 hce hcv hcl ⟨rfl, hp, rfl⟩ (by decide) (by decide)
  obtain ⟨er1, hb9, hq1⟩ := hp1
  replace hq1 := hq1.symm; subst hq1
  subst er1
  exact kt_l hx hb hr hlocks hw1 d_Q_rounded_16 (by exact ⟨rfl, hb9, rfl⟩) (by first | decide | (dsimp only; omega)) (by first | decide | (dsimp only; omega))
set_option maxHeartbeats 4000000 in
set_option maxRecDepth 100000 in
theorem c_Q_checkRange (l : Launch) (hl9 : l.stackTraces = false) (G : GT) (A : Nat → Prop) (u : WT) (x a b : Int32) : Kt l y_Q_checkRange b_Q_checkRange 3 none 6 100 1 6 0 0 1 6 G A u [.int x, .int a, .int b] (KQ G A (Rv (fun u' => ¬ x < a ∧ x ≤ b ∧ u' = u))) (fun E u' => E = "java/lang/IllegalArgumentException" ∧ (x < a ∨ b < x) ∧ u' = u) := by
  refine k_of (by decide) (Nat.le_of_ble_eq_true rfl) (fun p e st m below meth c ls hx hb hr hlocks hml htab hname hown ht hw hl => ?_)
  have hl : lv_has ls 3 [(0, .int x), (1, .int a), (2, .int b)] := hl
  refine lv_iload_n hx hb d_Q_checkRange_0 rfl (lv_at hl 0 rfl) ?_
  refine lv_iload_n hx hb d_Q_checkRange_1 rfl (lv_at hl 1 rfl) ?_
  refine lv_icmp_lt (tgt := 10) hx hb d_Q_checkRange_2 (by decide) (fun c1 => ?_) (fun c1 => ?_)
  · exact kt_throw (own := R_Q) (cls := "java/lang/IllegalArgumentException") (ik := 143) (is := 203) (ic := 147) 3 hl9 hx hb htab hlocks hml hl.1 ht hown hw (by decide) gw_159 gw_51 rfl at_Q_147 d_Q_checkRange_10 d_Q_checkRange_13 d_Q_checkRange_14 d_Q_checkRange_16 d_Q_checkRange_19 (by first | decide | (dsimp only; omega)) (Nat.le_of_ble_eq_true rfl) (by first | decide | (dsimp only; omega)) (by first | decide | (dsimp only; omega)) (by exact ⟨rfl, Or.inl c1, rfl⟩) (by first | decide | (dsimp only; omega)) (by first | decide | (dsimp only; omega))
  · refine lv_iload_n hx hb d_Q_checkRange_5 rfl (lv_at hl 0 rfl) ?_
    refine lv_iload_n hx hb d_Q_checkRange_6 rfl (lv_at hl 2 rfl) ?_
    refine lv_icmp_le (tgt := 20) hx hb d_Q_checkRange_7 (by decide) (fun c2 => ?_) (fun c2 => ?_)
    · exact kt_v hx hb hr hlocks hw d_Q_checkRange_20 (by exact ⟨c1, c2, rfl⟩) (by first | decide | (dsimp only; omega)) (by first | decide | (dsimp only; omega))
    · exact kt_throw (own := R_Q) (cls := "java/lang/IllegalArgumentException") (ik := 143) (is := 203) (ic := 147) 3 hl9 hx hb htab hlocks hml hl.1 ht hown hw (by decide) gw_159 gw_51 rfl at_Q_147 d_Q_checkRange_10 d_Q_checkRange_13 d_Q_checkRange_14 d_Q_checkRange_16 d_Q_checkRange_19 (by first | decide | (dsimp only; omega)) (Nat.le_of_ble_eq_true rfl) (by first | decide | (dsimp only; omega)) (by first | decide | (dsimp only; omega)) (by exact ⟨rfl, Or.inr (i_nle.mp c2), rfl⟩) (by first | decide | (dsimp only; omega)) (by first | decide | (dsimp only; omega))
set_option maxHeartbeats 4000000 in
set_option maxRecDepth 100000 in
theorem c_Q_isThere (l : Launch) (G : GT) (A : Nat → Prop) (lc : Nat → Nat) (s : QS) (z : ZS) (u : WT) (hR : rQ G lc s z u) (k : Int32) : Kt l y_Q_isThere b_Q_isThere 2 (some .boolean) 0 0 0 0 0 0 0 0 G A u [.ref (lc 0), .int k] (KQ G A (Ri (fun r u' => r = bI (isN (q_n s) k) ∧ u' = u))) (NX) := by
  refine k_of (by decide) (Nat.le_of_ble_eq_true rfl) (fun p e st m below meth c ls hx hb hr hlocks hml htab hname hown ht hw hl => ?_)
  have hl : lv_has ls 2 [(0, .ref (lc 0)), (1, .int k)] := hl
  obtain ⟨n0, hn0⟩ : ∃ n0, q_n s = n0 := ⟨_, rfl⟩
  have hw : Sk G A lc s z n0 u u st st.heap [] := ⟨hw, hR, fQ.rf, hn0⟩
  refine lv_iload_n hx hb d_Q_isThere_0 rfl (lv_at hl 1 rfl) ?_
  refine lv_if_lt (tgt := 16) hx hb d_Q_isThere_1 (by decide) (fun c1 => ?_) (fun c1 => ?_)
  · refine lv_iconst (v := 0) hx hb d_Q_isThere_16 (by decide) ?_
    exact kt_z hx hb hr hlocks hw.1 d_Q_isThere_17 (by exact ⟨by simp [isN, c1]; rfl, rfl⟩) (Or.inl rfl) (by first | decide | (dsimp only; omega)) (by first | decide | (dsimp only; omega))
  · refine lv_iload_n hx hb d_Q_isThere_4 rfl (lv_at hl 1 rfl) ?_
    refine lv_aload_n hx hb d_Q_isThere_5 rfl (lv_at hl 0 rfl) ?_
    refine kg_Q 2 (by decide) hx hb ht hown hw gw_123 rfl rfl d_Q_isThere_6 ?_
    refine lv_icmp_ge (tgt := 16) hx hb d_Q_isThere_9 (by decide) (fun c2 => ?_) (fun c2 => ?_)
    · refine lv_iconst (v := 0) hx hb d_Q_isThere_16 (by decide) ?_
      exact kt_z hx hb hr hlocks hw.1 d_Q_isThere_17 (by rw [hn0]; exact ⟨by simp [isN, i_nlt.mpr c2]; rfl, rfl⟩) (Or.inl rfl) (by first | decide | (dsimp only; omega)) (by first | decide | (dsimp only; omega))
    · refine lv_iconst (v := 1) hx hb d_Q_isThere_12 (by decide) ?_
      refine lv_goto (tgt := 17) hx hb d_Q_isThere_13 (by decide) ?_
      exact kt_z hx hb hr hlocks hw.1 d_Q_isThere_17 (by rw [hn0]; exact ⟨by rw [i_nle] at c2; simp [isN, c1, c2]; rfl, rfl⟩) (Or.inr rfl) (by first | decide | (dsimp only; omega)) (by first | decide | (dsimp only; omega))
set_option maxHeartbeats 4000000 in
set_option maxRecDepth 100000 in
theorem c_Q_checkRoom (l : Launch) (hl9 : l.stackTraces = false) (G : GT) (A : Nat → Prop) (lc : Nat → Nat) (s : QS) (z : ZS) (u : WT) (hR : rQ G lc s z u) : Kt l y_Q_checkRoom b_Q_checkRoom 1 none 6 100 1 6 0 0 1 6 G A u [.ref (lc 0)] (KQ G A (Rv (fun u' => q_n s < 16 ∧ u' = u))) (fun E u' => E = "java/lang/IllegalStateException" ∧ 16 ≤ q_n s ∧ u' = u) := by
  refine k_of (by decide) (Nat.le_of_ble_eq_true rfl) (fun p e st m below meth c ls hx hb hr hlocks hml htab hname hown ht hw hl => ?_)
  have hl : lv_has ls 1 [(0, .ref (lc 0))] := hl
  obtain ⟨n0, hn0⟩ : ∃ n0, q_n s = n0 := ⟨_, rfl⟩
  have hw : Sk G A lc s z n0 u u st st.heap [] := ⟨hw, hR, fQ.rf, hn0⟩
  have h16 : n0 ≤ 16 := by rw [← hn0]; exact hR.1.1
  refine lv_aload_n hx hb d_Q_checkRoom_0 rfl (lv_at hl 0 rfl) ?_
  refine kg_Q 2 (by decide) hx hb ht hown hw gw_123 rfl rfl d_Q_checkRoom_1 ?_
  refine lv_bipush (v := 16) hx hb d_Q_checkRoom_4 (by decide) ?_
  refine lv_icmp_lt (tgt := 19) hx hb d_Q_checkRoom_6 (by decide) (fun c1 => ?_) (fun c1 => ?_)
  · exact kt_v hx hb hr hlocks hw.1 d_Q_checkRoom_19 (by rw [hn0]; exact ⟨(nI_ltI (b := 16) (by omega) (by decide)).mp c1, rfl⟩) (by first | decide | (dsimp only; omega)) (by first | decide | (dsimp only; omega))
  · exact kt_throw (own := R_Q) (cls := "java/lang/IllegalStateException") (ik := 153) (is := 198) (ic := 157) 1 hl9 hx hb htab hlocks hml hl.1 ht hown hw.1 (by decide) gw_232 gw_52 rfl at_Q_157 d_Q_checkRoom_9 d_Q_checkRoom_12 d_Q_checkRoom_13 d_Q_checkRoom_15 d_Q_checkRoom_18 (by first | decide | (dsimp only; omega)) (Nat.le_of_ble_eq_true rfl) (by first | decide | (dsimp only; omega)) (by first | decide | (dsimp only; omega)) (by rw [hn0]; exact ⟨rfl, Nat.le_of_not_lt (fun h => c1 (nI_lt (b := 16) h (by decide))), rfl⟩) (by first | decide | (dsimp only; omega)) (by first | decide | (dsimp only; omega))
set_option maxHeartbeats 4000000 in
set_option maxRecDepth 100000 in
theorem c_Nd_bit (l : Launch) (G : GT) (A : Nat → Prop) (lc : Nat → Nat) (s : QS) (z : ZS) (u : WT) (hR : rQ G lc s z u) (j : Nat) (hj : j < q_n s) : Kt l y_Nd_bit b_Nd_bit 1 (some .int) 0 0 0 0 0 0 0 0 G A u [.ref (lc (8 + j))] (KQ G A (Ri (fun r u' => r = bitI j ∧ u' = u))) (NX) := by
  refine k_of (by decide) (Nat.le_of_ble_eq_true rfl) (fun p e st m below meth c ls hx hb hr hlocks hml htab hname hown ht hw hl => ?_)
  have hl : lv_has ls 1 [(0, .ref (lc (8 + j)))] := hl
  obtain ⟨n0, hn0⟩ : ∃ n0, q_n s = n0 := ⟨_, rfl⟩
  have hw : Sk G A lc s z n0 u u st st.heap [] := ⟨hw, hR, fQ.rf, hn0⟩
  rw [hn0] at hj
  refine lv_iconst (v := 1) hx hb d_Nd_bit_0 (by decide) ?_
  refine lv_aload_n hx hb d_Nd_bit_1 rfl (lv_at hl 0 rfl) ?_
  refine kg_N (j := j) 0 (by decide) hx hb ht hown hw hj gw_258 (Or.inl rfl) rfl d_Nd_bit_2 ?_
  refine lv_ishl hx hb d_Nd_bit_5 ?_
  exact kt_i hx hb hr hlocks hw.1 d_Nd_bit_6 (by exact ⟨rfl, rfl⟩) (by first | decide | (dsimp only; omega)) (by first | decide | (dsimp only; omega))
set_option maxHeartbeats 4000000 in
set_option maxRecDepth 100000 in
theorem c_Q_nodeAt (l : Launch) (hl9 : l.stackTraces = false) (G : GT) (A : Nat → Prop) (lc : Nat → Nat) (s : QS) (z : ZS) (u : WT) (hR : rQ G lc s z u) (k : Int32) : Kt l y_Q_nodeAt b_Q_nodeAt 2 (some (.object "QuoteGraph$Node")) 6 100 1 6 0 0 1 6 G A u [.ref (lc 0), .int k] (KQ G A (Ra (fun r u' => ∃ j, j < q_n s ∧ k = nI j ∧ r = lc (8 + j) ∧ u' = u))) (fun E u' => E = "java/lang/IllegalArgumentException" ∧ isN (q_n s) k = false ∧ u' = u) := by
  refine k_of (by decide) (Nat.le_of_ble_eq_true rfl) (fun p e st m below meth c ls hx hb hr hlocks hml htab hname hown ht hw hl => ?_)
  have hl : lv_has ls 2 [(0, .ref (lc 0)), (1, .int k)] := hl
  obtain ⟨n0, hn0⟩ : ∃ n0, q_n s = n0 := ⟨_, rfl⟩
  have hw : Sk G A lc s z n0 u u st st.heap [] := ⟨hw, hR, fQ.rf, hn0⟩
  refine lv_aload_n hx hb d_Q_nodeAt_0 rfl (lv_at hl 0 rfl) ?_
  refine lv_iload_n hx hb d_Q_nodeAt_1 rfl (lv_at hl 1 rfl) ?_
  refine kc_i (kr_V 1 (C := "QuoteGraph") (As := [.int k]) (rest := []) (c_Q_isThere l G A lc s z u hR k) hx hb hml hown ht hw.1 gw_328 gw_330 gw_4 gw_42 gw_331 ⟨⟨by decide, by decide⟩, by decide +kernel⟩ ⟨by first | decide | (dsimp only; omega), by first | decide | (dsimp only; omega)⟩ (kr_Q hw) rfl hl.1 rfl (lv_room (Nat.le_of_ble_eq_true rfl)) d_Q_nodeAt_2 ⟨by first | decide | (dsimp only; omega), by first | decide | (dsimp only; omega)⟩) hw.1 (fun _ _ _ _ _ _ h => h.elim) (fun r1 u1 H1 locs1 hp1 hw1 => ?_)
  obtain ⟨er1, hq1⟩ := hp1
  replace hq1 := hq1.symm; subst hq1
  subst er1
  have hw : Sk G A lc s z n0 u u st H1 locs1 := ⟨hw1, hw.2⟩
  refine lv_if_eq (tgt := 15) hx hb d_Q_nodeAt_5 (by decide) (fun c2 => ?_) (fun c2 => ?_)
  · exact kt_throw (own := R_Q) (cls := "java/lang/IllegalArgumentException") (ik := 143) (is := 215) (ic := 147) 2 hl9 hx hb htab hlocks hml hl.1 ht hown hw.1 (by decide) gw_159 gw_51 rfl at_Q_147 d_Q_nodeAt_15 d_Q_nodeAt_18 d_Q_nodeAt_19 d_Q_nodeAt_21 d_Q_nodeAt_24 (by first | decide | (dsimp only; omega)) (Nat.le_of_ble_eq_true rfl) (by first | decide | (dsimp only; omega)) (by first | decide | (dsimp only; omega)) (by exact ⟨rfl, (bI_eq _).mp c2, rfl⟩) (by first | decide | (dsimp only; omega)) (by first | decide | (dsimp only; omega))
  · obtain ⟨j, hj, rfl⟩ := isN_t ((bI_ne _).mp c2) hR.1.1
    rw [hn0] at hj
    refine lv_aload_n hx hb d_Q_nodeAt_8 rfl (lv_at hl 0 rfl) ?_
    refine kg_Q 0 (by decide) hx hb ht hown hw gw_121 rfl rfl d_Q_nodeAt_9 ?_
    refine lv_iload_n hx hb d_Q_nodeAt_12 rfl (lv_at hl 1 rfl) ?_
    refine ka_nodes (k := j) rfl hj hx hb hw d_Q_nodeAt_13 ?_
    exact kt_a hx hb hr hlocks hw.1 d_Q_nodeAt_14 (by exact ⟨j, by rw [hn0]; exact hj, rfl, rfl, rfl⟩) (by first | decide | (dsimp only; omega)) (by first | decide | (dsimp only; omega))
