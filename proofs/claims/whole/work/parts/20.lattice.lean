/-! 20.lattice: contracts of the lattice -/
theorem i_rng1 (a : Int32) : a - 1 - a = -1 := by grind
theorem i_rng2 (a b : Int32) : a - 1 - b + (-1) = a - 1 - (b + 1) := by grind
set_option maxHeartbeats 4000000 in
set_option maxRecDepth 100000 in
theorem c_La_checkSuits (l : Launch) (G : GT) (A : Nat → Prop) (u : WT) (a b : Nat) : Kt l y_La_checkSuits b_La_checkSuits 2 none 0 0 0 0 0 0 0 0 G A u [.ref a, .ref b] (KQ G A (Rv (fun u' => u' = u))) (NX) := by
  refine k_of (by decide) (Nat.le_of_ble_eq_true rfl) (fun p e st m below meth c ls hx hb hr hlocks hml htab hname hown ht hw hl => ?_)
  have hl : lv_has ls 2 [(0, .ref a), (1, .ref b)] := hl
  exact kt_v hx hb hr hlocks hw d_La_checkSuits_0 (by exact rfl) (by first | decide | (dsimp only; omega)) (by first | decide | (dsimp only; omega))
set_option maxHeartbeats 4000000 in
set_option maxRecDepth 100000 in
theorem c_La_stepBack (l : Launch) (hl9 : l.stackTraces = false) (G : GT) (A : Nat → Prop) (lc : Nat → Nat) (s : QS) (z : ZS) (u : WT) (hR : rQ G lc s z u) (o : Nat) (ho : o < q_n s) (h3 : q_so s o = 3) (D : Int64) (T : Nat) (hT : T < 20) : Kt l y_La_stepBack b_La_stepBack 11 none 8 143 1 6 0 0 1 6 G A u [.ref (lc 5), .ref (lc (8 + o)), .long D, .int (nI T)] (KQ G A (Rv (fun u' => ∃ g, lsb s o D (nI T) (z_lr z) (T + 1) = some g ∧ rQ G lc s (zS_lr z g) u' ∧ fQ lc (q_n s) u u'))) (fun E u' => E = "java/lang/ArithmeticException" ∧ lsb s o D (nI T) (z_lr z) (T + 1) = none ∧ (∃ g, rQ G lc s (zS_lr z g) u') ∧ fQ lc (q_n s) u u') := by
  refine k_of (by decide) (Nat.le_of_ble_eq_true rfl) (fun p e st m below meth c ls hx hb hr hlocks hml htab hname hown ht hw hl => ?_)
  have hl : lv_has ls 11 [(0, .ref (lc 5)), (1, .ref (lc (8 + o))), (2, .long D), (4, .int (nI T))] := hl
  obtain ⟨n0, hn0⟩ : ∃ n0, q_n s = n0 := ⟨_, rfl⟩
  have hw : Sk G A lc s z n0 u u st st.heap [] := ⟨hw, hR, fQ.rf, hn0⟩
  have hp0 := (opt_p hR.1 ho h3).1
  have hp1 := (opt_p hR.1 ho h3).2
  rw [hn0] at ho hp0 hp1
  refine lv_aload_n hx hb d_La_stepBack_0 rfl (lv_at hl 1 rfl) ?_
  refine kg_O (j := o) 17 (by decide) (by decide) hx hb ht hown hw ho h3 gw_414 rfl (by rw [ndX_O h3]; rfl) d_La_stepBack_1 ?_
  refine lv_istore (lv' := [(5, .int (q_ch s o)), (0, .ref (lc 5)), (1, .ref (lc (8 + o))), (2, .long D), (4, .int (nI T))]) hx hb d_La_stepBack_4 hl (by decide) rfl (fun ls hl => ?_)
  refine lv_iconst (v := 0) hx hb d_La_stepBack_6 (by decide) ?_
  refine lv_istore (lv' := [(6, .int (0 : Int32)), (5, .int (q_ch s o)), (0, .ref (lc 5)), (1, .ref (lc (8 + o))), (2, .long D), (4, .int (nI T))]) hx hb d_La_stepBack_7 hl (by decide) rfl (fun ls hl => ?_)
  refine k_cntH (T + 1) (fun k ls H locs => lv_has ls 11 [(0, .ref (lc 5)), (1, .ref (lc (8 + o))), (2, .long D), (4, .int (nI T)), (5, .int (q_ch s o)), (6, .int (nI k))] ∧ ∃ g u9, lsb s o D (nI T) (z_lr z) k = some g ∧ Sk G A lc s (zS_lr z g) n0 u u9 st H locs) (k0 := 0) (Nat.zero_le _) (⟨lv_sub hl [2, 3, 4, 5, 1, 0] rfl, _, u, rfl, hw⟩) (fun ls H locs hJ => ?_) (fun k ls H locs hk hJ ih => ?_)
  · obtain ⟨hl, hw⟩ := hJ
    obtain ⟨g, u9, hg, hw⟩ := hw
    refine lv_iload hx hb d_La_stepBack_9 (lv_at hl 5 rfl) ?_
    refine lv_iload hx hb d_La_stepBack_11 (lv_at hl 3 rfl) ?_
    refine lv_icmp_gt (tgt := 87) hx hb d_La_stepBack_13 (by decide) (fun c1 => ?_) (fun c1 => ?_)
    · exact kt_v hx hb hr hlocks hw.1 d_La_stepBack_87 (by exact ⟨g, hg, hw.2.1, by rw [hn0]; exact hw.2.2.1⟩) (by first | decide | (dsimp only; omega)) (by first | decide | (dsimp only; omega))
    · exact absurd (nI_lt (by omega) (by omega)) c1
  · obtain ⟨hl, hw⟩ := hJ
    obtain ⟨g, u9, hg, hw⟩ := hw
    refine lv_iload hx hb d_La_stepBack_9 (lv_at hl 5 rfl) ?_
    refine lv_iload hx hb d_La_stepBack_11 (lv_at hl 3 rfl) ?_
    refine lv_icmp_gt (tgt := 87) hx hb d_La_stepBack_13 (by decide) (fun c1 => ?_) (fun c1 => ?_)
    · exact absurd c1 (nI_nlt (by omega) (by omega))
    · refine lv_iload hx hb d_La_stepBack_16 (lv_at hl 4 rfl) ?_
      refine lv_i2l hx hb d_La_stepBack_18 rfl ?_
      refine lv_aload_n hx hb d_La_stepBack_19 rfl (lv_at hl 0 rfl) ?_
      refine kg_La 2 (by decide) hx hb ht hown hw gw_84 rfl rfl d_La_stepBack_20 ?_
      refine lv_iload hx hb d_La_stepBack_23 (lv_at hl 5 rfl) ?_
      refine lv_iconst (v := 1) hx hb d_La_stepBack_25 (by decide) ?_
      refine lv_iadd hx hb d_La_stepBack_26 ?_
      refine ka_lr (k := (k + 1)) (nI_1 k) (by omega) hx hb hw d_La_stepBack_27 ?_
      refine lv_lmul hx hb d_La_stepBack_28 ?_
      refine lv_bipush (v := 16) hx hb d_La_stepBack_29 (by decide) ?_
      refine lv_iload hx hb d_La_stepBack_31 (lv_at hl 4 rfl) ?_
      refine lv_isub hx hb d_La_stepBack_33 ?_
      refine lv_i2l hx hb d_La_stepBack_34 rfl ?_
      refine lv_aload_n hx hb d_La_stepBack_35 rfl (lv_at hl 0 rfl) ?_
      refine kg_La 2 (by decide) hx hb ht hown hw gw_84 rfl rfl d_La_stepBack_36 ?_
      refine lv_iload hx hb d_La_stepBack_39 (lv_at hl 5 rfl) ?_
      refine ka_lr (k := k) rfl (by omega) hx hb hw d_La_stepBack_41 ?_
      refine lv_lmul hx hb d_La_stepBack_42 ?_
      refine lv_ladd hx hb d_La_stepBack_43 ?_
      refine lv_lstore (lv' := [(7, .long ((((q_ch s o).toInt64) * (g (k + 1))) + ((((16 : Int32) - (q_ch s o)).toInt64) * (g k)))), (0, .ref (lc 5)), (1, .ref (lc (8 + o))), (2, .long D), (4, .int (nI T)), (5, .int (q_ch s o)), (6, .int (nI k))]) hx hb d_La_stepBack_44 hl (by decide) rfl (fun ls hl => ?_)
      refine lv_lload_n hx hb d_La_stepBack_46 rfl (lv_at hl 3 rfl) ?_
      refine lv_lload hx hb d_La_stepBack_47 (lv_at hl 0 rfl) ?_
      refine lv_lmul hx hb d_La_stepBack_49 ?_
      refine lv_bipush (v := 14) hx hb d_La_stepBack_50 (by decide) ?_
      refine kc_l (kr_SN 2 (host := "QuoteGraph") (As := [.long (D * ((((q_ch s o).toInt64) * (g (k + 1))) + ((((16 : Int32) - (q_ch s o)).toInt64) * (g k)))), .int (14 : Int32)]) (rest := []) (c_Q_rounded l hl9 G A u9 _ _) hx hb hml hown ht hw.1 (ew_of 661 _ (by decide +kernel) rfl) gw_561 gw_42 gw_562 ⟨⟨by decide, by decide⟩, by decide +kernel⟩ ⟨by first | decide | (dsimp only; omega), by first | decide | (dsimp only; omega)⟩ rfl hl.1 rfl (lv_room (Nat.le_of_ble_eq_true rfl)) d_La_stepBack_52 ⟨by first | decide | (dsimp only; omega), by first | decide | (dsimp only; omega)⟩) hw.1 (fun E ce q9 u1 H1 locs1 hp hw1 hce hcv hcl => ?_) (fun r1 u1 H1 locs1 hp1 hw1 => ?_)
      · obtain ⟨rfl, hbg, hq9⟩ := hp
        replace hq9 := hq9.symm; subst hq9
        have e9 : lsb s o D (nI T) (z_lr z) (k + 1) = none := by show (match lsb s o D (nI T) (z_lr z) k with | none => none | some g => _) = none; rw [hg]; exact if_pos hbg
        have e8 := lsb_none e9 (T - k)
        rw [show k + 1 + (T - k) = T + 1 by omega] at e8
        exact kt_out htab hlocks hw1 hce hcv hcl ⟨rfl, e8, ⟨g, hw.2.1⟩, by rw [hn0]; exact hw.2.2.1⟩ (by decide) (by decide)
      obtain ⟨er1, hbg, hq1⟩ := hp1
      replace hq1 := hq1.symm; subst hq1
      have hw : Sk G A lc s (zS_lr z g) n0 u u9 st H1 locs1 := ⟨hw1, hw.2⟩
      subst er1
      refine lv_lstore (lv' := [(9, .long (lstp s o D (g (k + 1)) (g k))), (7, .long ((((q_ch s o).toInt64) * (g (k + 1))) + ((((16 : Int32) - (q_ch s o)).toInt64) * (g k)))), (0, .ref (lc 5)), (1, .ref (lc (8 + o))), (2, .long D), (4, .int (nI T)), (5, .int (q_ch s o)), (6, .int (nI k))]) hx hb d_La_stepBack_55 hl (by decide) rfl (fun ls hl => ?_)
      refine lv_aload_n hx hb d_La_stepBack_57 rfl (lv_at hl 2 rfl) ?_
      refine kg_La 2 (by decide) hx hb ht hown hw gw_84 rfl rfl d_La_stepBack_58 ?_
      refine lv_iload hx hb d_La_stepBack_61 (lv_at hl 7 rfl) ?_
      refine lv_aload_n hx hb d_La_stepBack_63 rfl (lv_at hl 3 rfl) ?_
      refine lv_aload_n hx hb d_La_stepBack_64 rfl (lv_at hl 3 rfl) ?_
      refine lv_iconst (v := 2) hx hb d_La_stepBack_65 (by decide) ?_
      refine lv_iload hx hb d_La_stepBack_66 (lv_at hl 7 rfl) ?_
      refine lv_imul hx hb d_La_stepBack_68 ?_
      refine lv_iload hx hb d_La_stepBack_69 (lv_at hl 5 rfl) ?_
      refine lv_isub hx hb d_La_stepBack_71 ?_
      refine kc_l (kr_V 1 (C := "QuoteGraph$Option") (As := [.int (((2 : Int32) * (nI k)) - (nI T))]) (rest := [.ref (lc (8 + o)), .int (nI k), .ref (lc 3)]) (c_Op_priceAt l G A lc s _ u9 hw.2.1 o (by rw [hn0]; exact ho) h3 _) hx hb hml hown ht hw.1 gw_639 gw_640 gw_641 gw_57 gw_642 ⟨⟨by decide, by decide⟩, by decide +kernel⟩ ⟨by first | decide | (dsimp only; omega), by first | decide | (dsimp only; omega)⟩ (by have h := kr_N hw ho; rw [h3] at h; exact h) rfl hl.1 rfl (lv_room (Nat.le_of_ble_eq_true rfl)) d_La_stepBack_72 ⟨by first | decide | (dsimp only; omega), by first | decide | (dsimp only; omega)⟩) hw.1 (fun _ _ _ _ _ _ h => h.elim) (fun r2 u2 H2 locs2 hp2 hw2 => ?_)
      obtain ⟨er2, hq2⟩ := hp2
      replace hq2 := hq2.symm; subst hq2
      subst er2
      have hw : Sk G A lc s (zS_lr z g) n0 u u9 st H2 locs2 := ⟨hw2, hw.2⟩
      refine lv_lload hx hb d_La_stepBack_75 (lv_at hl 0 rfl) ?_
      refine kc_l (kr_V 2 (C := "QuoteGraph$Option") (As := [.long (oP s o (2 * nI k - nI T)), .long (lstp s o D (g (k + 1)) (g k))]) (rest := [.int (nI k), .ref (lc 3)]) (c_Op_heldAt l G A lc s _ u9 hw.2.1 o (by rw [hn0]; exact ho) h3 _ _) hx hb hml hown ht hw.1 gw_662 gw_663 gw_664 gw_57 gw_665 ⟨⟨by decide, by decide⟩, by decide +kernel⟩ ⟨by first | decide | (dsimp only; omega), by first | decide | (dsimp only; omega)⟩ (by have h := kr_N hw ho; rw [h3] at h; exact h) rfl hl.1 rfl (lv_room (Nat.le_of_ble_eq_true rfl)) d_La_stepBack_77 ⟨by first | decide | (dsimp only; omega), by first | decide | (dsimp only; omega)⟩) hw.1 (fun _ _ _ _ _ _ h => h.elim) (fun r3 u3 H3 locs3 hp3 hw3 => ?_)
      obtain ⟨er3, hq3⟩ := hp3
      replace hq3 := hq3.symm; subst hq3
      subst er3
      have hw : Sk G A lc s (zS_lr z g) n0 u u9 st H3 locs3 := ⟨hw3, hw.2⟩
      refine kp_lr (k := k) (x := (oHeld s o (oP s o (2 * nI k - nI T)) (lstp s o D (g (k + 1)) (g k)))) rfl (by omega) hx hb hw d_La_stepBack_80 (fun H4 locs4 u4 hw => ?_)
      obtain ⟨i5, ei5⟩ : ∃ y : Int32, y = (nI k) + 1 := ⟨_, rfl⟩
      refine lv_iinc (v := i5) (lv' := [(6, .int i5), (9, .long (lstp s o D (g (k + 1)) (g k))), (7, .long ((((q_ch s o).toInt64) * (g (k + 1))) + ((((16 : Int32) - (q_ch s o)).toInt64) * (g k)))), (0, .ref (lc 5)), (1, .ref (lc (8 + o))), (2, .long D), (4, .int (nI T)), (5, .int (q_ch s o))]) hx hb d_La_stepBack_81 hl (k := 7) rfl (by rw [ei5]; rfl) (by decide) rfl (fun ls hl => ?_)
      rw [nI_1] at ei5; subst ei5
      refine lv_goto (tgt := 9) hx hb d_La_stepBack_84 (by decide) ?_
      have hg2 : lsb s o D (nI T) (z_lr z) (k + 1) = some (vp_updL g k (oHeld s o (oP s o (2 * nI k - nI T)) (lstp s o D (g (k + 1)) (g k)))) := by show (match lsb s o D (nI T) (z_lr z) k with | none => none | some g => _) = _; rw [hg]; exact if_neg (by rw [show bigL (lstp s o D (g (k + 1)) (g k)) = false from hbg]; decide)
      exact ih ls H4 locs4 ⟨lv_sub hl [3, 4, 5, 6, 7, 0] rfl, _, u4, hg2, hw⟩
set_option maxHeartbeats 4000000 in
set_option maxRecDepth 100000 in
theorem c_La_price (l : Launch) (hl9 : l.stackTraces = false) (G : GT) (A : Nat → Prop) (lc : Nat → Nat) (s : QS) (z : ZS) (u : WT) (hR : rQ G lc s z u) (o : Nat) (ho : o < q_n s) (h3 : q_so s o = 3) (D : Int64) (N : Nat) (hN : q_sp s o = nI N) (hN1 : 1 ≤ N) (hN2 : N ≤ 20) : Kt l y_La_price b_La_price 5 (some .long) 9 173 1 6 0 0 1 6 G A u [.ref (lc 5), .ref (lc (8 + o)), .long D] (KQ G A (Rl (fun r u' => latV s o D N (z_lr z) = some r ∧ (∃ g, rQ G lc s (zS_lr z g) u') ∧ fQ lc (q_n s) u u'))) (fun E u' => E = "java/lang/ArithmeticException" ∧ latV s o D N (z_lr z) = none ∧ (∃ g, rQ G lc s (zS_lr z g) u') ∧ fQ lc (q_n s) u u') := by
  refine k_of (by decide) (Nat.le_of_ble_eq_true rfl) (fun p e st m below meth c ls hx hb hr hlocks hml htab hname hown ht hw hl => ?_)
  have hl : lv_has ls 5 [(0, .ref (lc 5)), (1, .ref (lc (8 + o))), (2, .long D)] := hl
  obtain ⟨n0, hn0⟩ : ∃ n0, q_n s = n0 := ⟨_, rfl⟩
  have hw : Sk G A lc s z n0 u u st st.heap [] := ⟨hw, hR, fQ.rf, hn0⟩
  have hp0 := (opt_p hR.1 ho h3).1
  have hp1 := (opt_p hR.1 ho h3).2
  rw [hn0] at ho hp0 hp1
  refine lv_iconst (v := 0) hx hb d_La_price_0 (by decide) ?_
  refine lv_istore (lv' := [(4, .int (0 : Int32)), (0, .ref (lc 5)), (1, .ref (lc (8 + o))), (2, .long D)]) hx hb d_La_price_1 hl (by decide) rfl (fun ls hl => ?_)
  refine k_cntH (N + 1) (fun k ls H locs => lv_has ls 5 [(0, .ref (lc 5)), (1, .ref (lc (8 + o))), (2, .long D), (4, .int (nI k))] ∧ ∃ u9, Sk G A lc s (zS_lr z (lat0 s o (z_lr z) k)) n0 u u9 st H locs) (k0 := 0) (Nat.zero_le _) (⟨lv_sub hl [1, 2, 3, 0] rfl, u, hw⟩) (fun ls H locs hJ => ?_) (fun k ls H locs hk hJ ih => ?_)
  · obtain ⟨hl, hw⟩ := hJ
    obtain ⟨u9, hw⟩ := hw
    refine lv_iload hx hb d_La_price_3 (lv_at hl 3 rfl) ?_
    refine lv_aload_n hx hb d_La_price_5 rfl (lv_at hl 1 rfl) ?_
    refine kg_O (j := o) 14 (by decide) (by decide) hx hb ht hown hw ho h3 gw_407 rfl (by rw [ndX_O h3]; rfl) d_La_price_6 ?_
    refine lv_icmp_gt (tgt := 42) hx hb d_La_price_9 (by decide) (fun c1 => ?_) (fun c1 => ?_)
    · refine lv_aload_n hx hb d_La_price_42 rfl (lv_at hl 1 rfl) ?_
      refine kg_O (j := o) 14 (by decide) (by decide) hx hb ht hown hw ho h3 gw_407 rfl (by rw [ndX_O h3]; rfl) d_La_price_43 ?_
      refine lv_iconst (v := 1) hx hb d_La_price_46 (by decide) ?_
      refine lv_isub hx hb d_La_price_47 ?_
      refine lv_istore (lv' := [(4, .int ((q_sp s o) - (1 : Int32))), (0, .ref (lc 5)), (1, .ref (lc (8 + o))), (2, .long D)]) hx hb d_La_price_48 hl (by decide) rfl (fun ls hl => ?_)
      rw [hN] at hl
      have e0 : nI N - 1 = nI N - 1 - nI 0 := by rw [show nI 0 = 0 from rfl]; simp
      rw [e0] at hl
      refine k_cntH (N) (fun i ls H locs => lv_has ls 5 [(0, .ref (lc 5)), (1, .ref (lc (8 + o))), (2, .long D), (4, .int (nI N - 1 - nI i))] ∧ ∃ g u9, lts s o D N (lat0 s o (z_lr z) (N + 1)) i = some g ∧ Sk G A lc s (zS_lr z g) n0 u u9 st H locs) (k0 := 0) (Nat.zero_le _) (⟨lv_sub hl [1, 2, 3, 0] rfl, _, u9, rfl, hw⟩) (fun ls H locs hJ => ?_) (fun i ls H locs hi hJ ih2 => ?_)
      · obtain ⟨hl, hw⟩ := hJ
        obtain ⟨g, u9, hg, hw⟩ := hw
        refine lv_iload hx hb d_La_price_50 (lv_at hl 3 rfl) ?_
        refine lv_if_lt (tgt := 69) hx hb d_La_price_52 (by decide) (fun c2 => ?_) (fun c2 => ?_)
        · refine lv_aload_n hx hb d_La_price_69 rfl (lv_at hl 0 rfl) ?_
          refine kg_La 2 (by decide) hx hb ht hown hw gw_84 rfl rfl d_La_price_70 ?_
          refine lv_iconst (v := 0) hx hb d_La_price_73 (by decide) ?_
          refine ka_lr (k := 0) rfl (by omega) hx hb hw d_La_price_74 ?_
          exact kt_l hx hb hr hlocks hw.1 d_La_price_75 (by exact ⟨by unfold latV; rw [hg]; rfl, ⟨_, hw.2.1⟩, by rw [hn0]; exact hw.2.2.1⟩) (by first | decide | (dsimp only; omega)) (by first | decide | (dsimp only; omega))
        · exact absurd (by rw [i_rng1]; decide) c2
      · obtain ⟨hl, hw⟩ := hJ
        obtain ⟨g, u9, hg, hw⟩ := hw
        have ei : nI N - 1 - nI i = nI (N - 1 - i) := by rw [show (1 : Int32) = nI 1 from rfl, pk_sub (by omega), pk_sub (by omega)]
        rw [ei] at hl
        refine lv_iload hx hb d_La_price_50 (lv_at hl 3 rfl) ?_
        refine lv_if_lt (tgt := 69) hx hb d_La_price_52 (by decide) (fun c2 => ?_) (fun c2 => ?_)
        · exact absurd c2 (nI_pos (by omega))
        · refine lv_aload_n hx hb d_La_price_55 rfl (lv_at hl 0 rfl) ?_
          refine lv_aload_n hx hb d_La_price_56 rfl (lv_at hl 1 rfl) ?_
          refine lv_lload_n hx hb d_La_price_57 rfl (lv_at hl 2 rfl) ?_
          refine lv_iload hx hb d_La_price_58 (lv_at hl 3 rfl) ?_
          refine kc_v (kr_V 3 (C := "QuoteGraph$Lattice") (As := [.ref (lc (8 + o)), .long D, .int (nI (N - 1 - i))]) (rest := []) (c_La_stepBack l hl9 G A lc s _ u9 hw.2.1 o (by rw [hn0]; exact ho) h3 D (N - 1 - i) (by omega)) hx hb hml hown ht hw.1 gw_657 gw_659 gw_15 gw_44 gw_660 ⟨⟨by decide, by decide⟩, by decide +kernel⟩ ⟨by first | decide | (dsimp only; omega), by first | decide | (dsimp only; omega)⟩ (kr_La hw) rfl hl.1 rfl (lv_room (Nat.le_of_ble_eq_true rfl)) d_La_price_60 ⟨by first | decide | (dsimp only; omega), by first | decide | (dsimp only; omega)⟩) hw.1 (fun E ce q9 u1 H1 locs1 hp hw1 hce hcv hcl => ?_) (fun u1 H1 locs1 hp1 hw1 => ?_)
          · obtain ⟨rfl, hn9, ⟨g9, hr9⟩, hf9⟩ := hp
            have e9 : lts s o D N (lat0 s o (z_lr z) (N + 1)) (i + 1) = none := by show (match lts s o D N (lat0 s o (z_lr z) (N + 1)) i with | none => none | some g => _) = none; rw [hg]; show lsb s o D (nI (N - 1 - i)) g (N - i) = none; rw [show N - i = N - 1 - i + 1 by omega]; exact hn9
            have e8 := lts_none e9 (N - (i + 1))
            rw [show i + 1 + (N - (i + 1)) = N by omega] at e8
            exact kt_out htab hlocks hw1 hce hcv hcl ⟨rfl, by unfold latV; rw [e8]; rfl, ⟨g9, hr9⟩, by rw [hn0]; exact hw.2.2.1.tr (by rw [← hn0]; exact hf9)⟩ (by decide) (by decide)
          obtain ⟨g2, hg2, hr2, hf2⟩ := hp1
          have e9 : lts s o D N (lat0 s o (z_lr z) (N + 1)) (i + 1) = some g2 := by show (match lts s o D N (lat0 s o (z_lr z) (N + 1)) i with | none => none | some g => _) = some g2; rw [hg]; show lsb s o D (nI (N - 1 - i)) g (N - i) = some g2; rw [show N - i = N - 1 - i + 1 by omega]; exact hg2
          have hw : Sk G A lc s (zS_lr z g2) n0 u u1 st H1 locs1 := ⟨hw1, hr2, hw.2.2.1.tr (by rw [← hn0]; exact hf2), hn0⟩
          obtain ⟨i2, ei2⟩ : ∃ y : Int32, y = (nI (N - 1 - i)) + (-1) := ⟨_, rfl⟩
          refine lv_iinc (v := i2) (lv' := [(4, .int i2), (0, .ref (lc 5)), (1, .ref (lc (8 + o))), (2, .long D)]) hx hb d_La_price_63 hl (k := 3) rfl (by rw [ei2]; rfl) (by decide) rfl (fun ls hl => ?_)
          have e7 : i2 = nI N - 1 - nI (i + 1) := by rw [ei2, ← nI_1, ← ei]; exact i_rng2 _ _
          rw [e7] at hl
          refine lv_goto (tgt := 50) hx hb d_La_price_66 (by decide) ?_
          exact ih2 ls H1 locs1 ⟨lv_sub hl [1, 2, 3, 0] rfl, g2, u1, e9, hw⟩
    · exact absurd (by rw [hN]; exact nI_lt (by omega) (by omega)) c1
  · obtain ⟨hl, hw⟩ := hJ
    obtain ⟨u9, hw⟩ := hw
    refine lv_iload hx hb d_La_price_3 (lv_at hl 3 rfl) ?_
    refine lv_aload_n hx hb d_La_price_5 rfl (lv_at hl 1 rfl) ?_
    refine kg_O (j := o) 14 (by decide) (by decide) hx hb ht hown hw ho h3 gw_407 rfl (by rw [ndX_O h3]; rfl) d_La_price_6 ?_
    refine lv_icmp_gt (tgt := 42) hx hb d_La_price_9 (by decide) (fun c1 => ?_) (fun c1 => ?_)
    · exact absurd c1 (by rw [hN]; exact nI_nlt (by omega) (by omega))
    · refine lv_aload_n hx hb d_La_price_12 rfl (lv_at hl 0 rfl) ?_
      refine kg_La 2 (by decide) hx hb ht hown hw gw_84 rfl rfl d_La_price_13 ?_
      refine lv_iload hx hb d_La_price_16 (lv_at hl 3 rfl) ?_
      refine lv_aload_n hx hb d_La_price_18 rfl (lv_at hl 1 rfl) ?_
      refine lv_aload_n hx hb d_La_price_19 rfl (lv_at hl 1 rfl) ?_
      refine lv_iconst (v := 2) hx hb d_La_price_20 (by decide) ?_
      refine lv_iload hx hb d_La_price_21 (lv_at hl 3 rfl) ?_
      refine lv_imul hx hb d_La_price_23 ?_
      refine lv_aload_n hx hb d_La_price_24 rfl (lv_at hl 1 rfl) ?_
      refine kg_O (j := o) 14 (by decide) (by decide) hx hb ht hown hw ho h3 gw_407 rfl (by rw [ndX_O h3]; rfl) d_La_price_25 ?_
      refine lv_isub hx hb d_La_price_28 ?_
      refine kc_l (kr_V 1 (C := "QuoteGraph$Option") (As := [.int (((2 : Int32) * (nI k)) - (q_sp s o))]) (rest := [.ref (lc (8 + o)), .int (nI k), .ref (lc 3)]) (c_Op_priceAt l G A lc s _ u9 hw.2.1 o (by rw [hn0]; exact ho) h3 _) hx hb hml hown ht hw.1 gw_639 gw_640 gw_641 gw_57 gw_642 ⟨⟨by decide, by decide⟩, by decide +kernel⟩ ⟨by first | decide | (dsimp only; omega), by first | decide | (dsimp only; omega)⟩ (by have h := kr_N hw ho; rw [h3] at h; exact h) rfl hl.1 rfl (lv_room (Nat.le_of_ble_eq_true rfl)) d_La_price_29 ⟨by first | decide | (dsimp only; omega), by first | decide | (dsimp only; omega)⟩) hw.1 (fun _ _ _ _ _ _ h => h.elim) (fun r3 u3 H3 locs3 hp3 hw3 => ?_)
      obtain ⟨er3, hq3⟩ := hp3
      replace hq3 := hq3.symm; subst hq3
      subst er3
      have hw : Sk G A lc s (zS_lr z (lat0 s o (z_lr z) k)) n0 u u9 st H3 locs3 := ⟨hw3, hw.2⟩
      refine kc_l (kr_V 1 (C := "QuoteGraph$Option") (As := [.long (oP s o (2 * nI k - q_sp s o))]) (rest := [.int (nI k), .ref (lc 3)]) (c_Op_payoff l G A lc s _ u9 hw.2.1 o (by rw [hn0]; exact ho) h3 _) hx hb hml hown ht hw.1 gw_643 gw_644 gw_645 gw_57 gw_646 ⟨⟨by decide, by decide⟩, by decide +kernel⟩ ⟨by first | decide | (dsimp only; omega), by first | decide | (dsimp only; omega)⟩ (by have h := kr_N hw ho; rw [h3] at h; exact h) rfl hl.1 rfl (lv_room (Nat.le_of_ble_eq_true rfl)) d_La_price_32 ⟨by first | decide | (dsimp only; omega), by first | decide | (dsimp only; omega)⟩) hw.1 (fun _ _ _ _ _ _ h => h.elim) (fun r4 u4 H4 locs4 hp4 hw4 => ?_)
      obtain ⟨er4, hq4⟩ := hp4
      replace hq4 := hq4.symm; subst hq4
      subst er4
      have hw : Sk G A lc s (zS_lr z (lat0 s o (z_lr z) k)) n0 u u9 st H4 locs4 := ⟨hw4, hw.2⟩
      refine kp_lr (k := k) (x := (oPay s o (oP s o (2 * nI k - q_sp s o)))) rfl (by omega) hx hb hw d_La_price_35 (fun H5 locs5 u5 hw => ?_)
      obtain ⟨i6, ei6⟩ : ∃ y : Int32, y = (nI k) + 1 := ⟨_, rfl⟩
      refine lv_iinc (v := i6) (lv' := [(4, .int i6), (0, .ref (lc 5)), (1, .ref (lc (8 + o))), (2, .long D)]) hx hb d_La_price_36 hl (k := 3) rfl (by rw [ei6]; rfl) (by decide) rfl (fun ls hl => ?_)
      rw [nI_1] at ei6; subst ei6
      refine lv_goto (tgt := 3) hx hb d_La_price_39 (by decide) ?_
      exact ih ls H5 locs5 ⟨lv_sub hl [1, 2, 3, 0] rfl, u5, hw⟩
