/-! 23.paths: contracts of the paths -/
theorem shl_pow : ∀ Z, Z < 7 → (1 : Int32) <<< (nI Z &&& 31) = nI (2 ^ Z) := by decide
theorem pow_le : ∀ Z, Z < 7 → 2 ^ Z ≤ 64 := by decide
set_option maxHeartbeats 4000000 in
set_option maxRecDepth 100000 in
theorem c_Pa_checkSuits (l : Launch) (hl9 : l.stackTraces = false) (G : GT) (A : Nat → Prop) (lc : Nat → Nat) (s : QS) (z : ZS) (u : WT) (hR : rQ G lc s z u) (o : Nat) (ho : o < q_n s) (h3 : q_so s o = 3) : Kt l y_Pa_checkSuits b_Pa_checkSuits 2 none 6 100 1 6 0 0 1 6 G A u [.ref (lc 6), .ref (lc (8 + o))] (KQ G A (Rv (fun u' => q_us s o = false ∧ u' = u))) (fun E u' => E = "java/lang/UnsupportedOperationException" ∧ q_us s o = true ∧ u' = u) := by
  refine k_of (by decide) (Nat.le_of_ble_eq_true rfl) (fun p e st m below meth c ls hx hb hr hlocks hml htab hname hown ht hw hl => ?_)
  have hl : lv_has ls 2 [(0, .ref (lc 6)), (1, .ref (lc (8 + o)))] := hl
  obtain ⟨n0, hn0⟩ : ∃ n0, q_n s = n0 := ⟨_, rfl⟩
  have hw : Sk G A lc s z n0 u u st st.heap [] := ⟨hw, hR, fQ.rf, hn0⟩
  have hp0 := (opt_p hR.1 ho h3).1
  have hp1 := (opt_p hR.1 ho h3).2
  rw [hn0] at ho hp0 hp1
  refine lv_aload_n hx hb d_Pa_checkSuits_0 rfl (lv_at hl 1 rfl) ?_
  refine kg_O (j := o) 18 (by decide) (by decide) hx hb ht hown hw ho h3 gw_417 rfl (by rw [ndX_O h3]; rfl) d_Pa_checkSuits_1 ?_
  refine lv_if_eq (tgt := 17) hx hb d_Pa_checkSuits_4 (by decide) (fun c1 => ?_) (fun c1 => ?_)
  · exact kt_v hx hb hr hlocks hw.1 d_Pa_checkSuits_17 (by exact ⟨(bI_eq _).mp c1, rfl⟩) (by first | decide | (dsimp only; omega)) (by first | decide | (dsimp only; omega))
  · exact kt_throw (own := R_Pa) (cls := "java/lang/UnsupportedOperationException") (ik := 15) (is := 17) (ic := 19) 10 hl9 hx hb htab hlocks hml hl.1 ht hown hw.1 (by decide) gw_608 gw_60 rfl at_Pa_19 d_Pa_checkSuits_7 d_Pa_checkSuits_10 d_Pa_checkSuits_11 d_Pa_checkSuits_13 d_Pa_checkSuits_16 (by first | decide | (dsimp only; omega)) (Nat.le_of_ble_eq_true rfl) (by first | decide | (dsimp only; omega)) (by first | decide | (dsimp only; omega)) (by exact ⟨rfl, (bI_ne _).mp c1, rfl⟩) (by first | decide | (dsimp only; omega)) (by first | decide | (dsimp only; omega))
set_option maxHeartbeats 4000000 in
set_option maxRecDepth 100000 in
theorem c_Pa_drawsUp (l : Launch) (G : GT) (A : Nat → Prop) (lc : Nat → Nat) (s : QS) (z : ZS) (u : WT) (hR : rQ G lc s z u) (c9 : Int32) : Kt l y_Pa_drawsUp b_Pa_drawsUp 2 (some .boolean) 0 0 0 0 0 0 0 0 G A u [.ref (lc 6), .int c9] (KQ G A (Ri (fun r u' => r = bI (dwU (dwN (z_dw z)) c9) ∧ rQ G lc s (zS_dw z (dwN (z_dw z))) u' ∧ fQ lc (q_n s) u u'))) (NX) := by
  refine k_of (by decide) (Nat.le_of_ble_eq_true rfl) (fun p e st m below meth c ls hx hb hr hlocks hml htab hname hown ht hw hl => ?_)
  have hl : lv_has ls 2 [(0, .ref (lc 6)), (1, .int c9)] := hl
  obtain ⟨n0, hn0⟩ : ∃ n0, q_n s = n0 := ⟨_, rfl⟩
  have hw : Sk G A lc s z n0 u u st st.heap [] := ⟨hw, hR, fQ.rf, hn0⟩
  refine lv_aload_n hx hb d_Pa_drawsUp_0 rfl (lv_at hl 0 rfl) ?_
  refine lv_aload_n hx hb d_Pa_drawsUp_1 rfl (lv_at hl 0 rfl) ?_
  refine kg_Pa 2 (by decide) hx hb ht hown hw gw_103 rfl rfl d_Pa_drawsUp_2 ?_
  refine lv_ldc2 (v := 1103515245) hx hb hown (ht _ gw_692) d_Pa_drawsUp_5 ?_
  refine lv_lmul hx hb d_Pa_drawsUp_8 ?_
  refine lv_ldc2 (v := 12345) hx hb hown (ht _ gw_682) d_Pa_drawsUp_9 ?_
  refine lv_ladd hx hb d_Pa_drawsUp_12 ?_
  refine lv_ldc2 (v := 2147483647) hx hb hown (ht _ gw_693) d_Pa_drawsUp_13 ?_
  refine lv_land hx hb d_Pa_drawsUp_16 ?_
  refine kp_draw ((((z_dw z) * (1103515245 : Int64)) + (12345 : Int64)) &&& (2147483647 : Int64)) hx hb ht hown hw gw_103 d_Pa_drawsUp_17 (fun H1 locs1 u1 hw => ?_)
  refine lv_aload_n hx hb d_Pa_drawsUp_20 rfl (lv_at hl 0 rfl) ?_
  refine kg_Pa 2 (by decide) hx hb ht hown hw gw_103 rfl rfl d_Pa_drawsUp_21 ?_
  refine lv_bipush (v := 16) hx hb d_Pa_drawsUp_24 (by decide) ?_
  refine lv_lshr hx hb d_Pa_drawsUp_26 rfl ?_
  refine lv_ldc2 (v := 15) hx hb hown (ht _ gw_694) d_Pa_drawsUp_27 ?_
  refine lv_land hx hb d_Pa_drawsUp_30 ?_
  refine lv_iload_n hx hb d_Pa_drawsUp_31 rfl (lv_at hl 1 rfl) ?_
  refine lv_i2l hx hb d_Pa_drawsUp_32 rfl ?_
  refine W.lcmp hx hb d_Pa_drawsUp_33 ?_
  refine lv_if_ge (tgt := 41) hx hb d_Pa_drawsUp_34 (by decide) (fun c2 => ?_) (fun c2 => ?_)
  · refine lv_iconst (v := 0) hx hb d_Pa_drawsUp_41 (by decide) ?_
    exact kt_z hx hb hr hlocks hw.1 d_Pa_drawsUp_42 (by exact ⟨by rw [show dwU (dwN (z_dw z)) c9 = false from decide_eq_false (fun h => (by rw [← i_nlt] at c2; exact c2 ((lg_cmp_lt _ _).mpr h)))]; rfl, hw.2.1, by rw [hn0]; exact hw.2.2.1⟩) (Or.inl rfl) (by first | decide | (dsimp only; omega)) (by first | decide | (dsimp only; omega))
  · refine lv_iconst (v := 1) hx hb d_Pa_drawsUp_37 (by decide) ?_
    refine lv_goto (tgt := 42) hx hb d_Pa_drawsUp_38 (by decide) ?_
    exact kt_z hx hb hr hlocks hw.1 d_Pa_drawsUp_42 (by exact ⟨by rw [show dwU (dwN (z_dw z)) c9 = true from decide_eq_true ((lg_cmp_lt _ _).mp (i_nle.mp c2))]; rfl, hw.2.1, by rw [hn0]; exact hw.2.2.1⟩) (Or.inr rfl) (by first | decide | (dsimp only; omega)) (by first | decide | (dsimp only; omega))
set_option maxHeartbeats 4000000 in
set_option maxRecDepth 100000 in
theorem c_Pa_endOfPath (l : Launch) (G : GT) (A : Nat → Prop) (lc : Nat → Nat) (s : QS) (z : ZS) (u : WT) (hR : rQ G lc s z u) (o : Nat) (ho : o < q_n s) (h3 : q_so s o = 3) (N : Nat) (hN : q_sp s o = nI N) (hN2 : N ≤ 20) : Kt l y_Pa_endOfPath b_Pa_endOfPath 6 (some .long) 2 62 0 0 0 0 0 0 G A u [.ref (lc 6), .ref (lc (8 + o))] (KQ G A (Rl (fun r u' => r = pEnd s o N (z_dw z) ∧ rQ G lc s (zS_dw z (pthD (z_dw z) N)) u' ∧ fQ lc (q_n s) u u'))) (NX) := by
  refine k_of (by decide) (Nat.le_of_ble_eq_true rfl) (fun p e st m below meth c ls hx hb hr hlocks hml htab hname hown ht hw hl => ?_)
  have hl : lv_has ls 6 [(0, .ref (lc 6)), (1, .ref (lc (8 + o)))] := hl
  obtain ⟨n0, hn0⟩ : ∃ n0, q_n s = n0 := ⟨_, rfl⟩
  have hw : Sk G A lc s z n0 u u st st.heap [] := ⟨hw, hR, fQ.rf, hn0⟩
  have hp0 := (opt_p hR.1 ho h3).1
  have hp1 := (opt_p hR.1 ho h3).2
  rw [hn0] at ho hp0 hp1
  refine lv_aload_n hx hb d_Pa_endOfPath_0 rfl (lv_at hl 1 rfl) ?_
  refine kg_O (j := o) 10 (by decide) (by decide) hx hb ht hown hw ho h3 gw_401 rfl (by rw [ndX_O h3]; rfl) d_Pa_endOfPath_1 ?_
  refine kg_N (j := ((q_pt s o 0).getD 0)) 3 (by decide) hx hb ht hown hw hp0 gw_276 (Or.inl rfl) rfl d_Pa_endOfPath_4 ?_
  refine lv_lstore_n (lv' := [(2, .long (q_am s ((q_pt s o 0).getD 0))), (0, .ref (lc 6)), (1, .ref (lc (8 + o)))]) hx hb d_Pa_endOfPath_7 rfl hl (by decide) rfl (fun ls hl => ?_)
  refine lv_aload_n hx hb d_Pa_endOfPath_8 rfl (lv_at hl 2 rfl) ?_
  refine lv_lload_n hx hb d_Pa_endOfPath_9 rfl (lv_at hl 0 rfl) ?_
  refine kc_i (kr_V 1 (C := "QuoteGraph$Option") (As := [.long (q_am s ((q_pt s o 0).getD 0))]) (rest := []) (c_Op_isOut l G A lc s z u hR o (by rw [hn0]; exact ho) h3 _) hx hb hml hown ht hw.1 gw_687 gw_648 gw_649 gw_57 gw_650 ⟨⟨by decide, by decide⟩, by decide +kernel⟩ ⟨by first | decide | (dsimp only; omega), by first | decide | (dsimp only; omega)⟩ (by have h := kr_N hw ho; rw [h3] at h; exact h) rfl hl.1 rfl (lv_room (Nat.le_of_ble_eq_true rfl)) d_Pa_endOfPath_10 ⟨by first | decide | (dsimp only; omega), by first | decide | (dsimp only; omega)⟩) hw.1 (fun _ _ _ _ _ _ h => h.elim) (fun r1 u1 H1 locs1 hp1 hw1 => ?_)
  obtain ⟨er1, hq1⟩ := hp1
  replace hq1 := hq1.symm; subst hq1
  subst er1
  have hw : Sk G A lc s z n0 u u st H1 locs1 := ⟨hw1, hw.2⟩
  refine lv_istore (lv' := [(4, .int (bI (oOut s o (oS s o)))), (2, .long (q_am s ((q_pt s o 0).getD 0))), (0, .ref (lc 6)), (1, .ref (lc (8 + o)))]) hx hb d_Pa_endOfPath_13 hl (by decide) rfl (fun ls hl => ?_)
  refine lv_iconst (v := 0) hx hb d_Pa_endOfPath_15 (by decide) ?_
  refine lv_istore (lv' := [(5, .int (0 : Int32)), (4, .int (bI (oOut s o (oS s o)))), (2, .long (q_am s ((q_pt s o 0).getD 0))), (0, .ref (lc 6)), (1, .ref (lc (8 + o)))]) hx hb d_Pa_endOfPath_16 hl (by decide) rfl (fun ls hl => ?_)
  refine k_cntH (N) (fun k ls H locs => lv_has ls 6 [(0, .ref (lc 6)), (1, .ref (lc (8 + o))), (2, .long (pthP s o (z_dw z) k)), (4, .int (bI (pthB s o (z_dw z) k))), (5, .int (nI k))] ∧ ∃ u9, Sk G A lc s (zS_dw z (pthD (z_dw z) k)) n0 u u9 st H locs) (k0 := 0) (Nat.zero_le _) (⟨lv_sub hl [3, 4, 2, 1, 0] rfl, u, hw⟩) (fun ls H locs hJ => ?_) (fun k ls H locs hk hJ ih => ?_)
  · obtain ⟨hl, hw⟩ := hJ
    obtain ⟨u9, hw⟩ := hw
    refine lv_iload hx hb d_Pa_endOfPath_18 (lv_at hl 4 rfl) ?_
    refine lv_aload_n hx hb d_Pa_endOfPath_20 rfl (lv_at hl 1 rfl) ?_
    refine kg_O (j := o) 14 (by decide) (by decide) hx hb ht hown hw ho h3 gw_409 rfl (by rw [ndX_O h3]; rfl) d_Pa_endOfPath_21 ?_
    refine lv_icmp_ge (tgt := 85) hx hb d_Pa_endOfPath_24 (by decide) (fun c1 => ?_) (fun c1 => ?_)
    · refine lv_iload hx hb d_Pa_endOfPath_85 (lv_at hl 3 rfl) ?_
      refine lv_if_eq (tgt := 94) hx hb d_Pa_endOfPath_87 (by decide) (fun c2 => ?_) (fun c2 => ?_)
      · refine lv_aload_n hx hb d_Pa_endOfPath_94 rfl (lv_at hl 1 rfl) ?_
        refine lv_lload_n hx hb d_Pa_endOfPath_95 rfl (lv_at hl 2 rfl) ?_
        refine kc_l (kr_V 1 (C := "QuoteGraph$Option") (As := [.long (pthP s o (z_dw z) N)]) (rest := []) (c_Op_payoffInside l G A lc s _ u9 hw.2.1 o (by rw [hn0]; exact ho) h3 _) hx hb hml hown ht hw.1 gw_695 gw_652 gw_653 gw_57 gw_654 ⟨⟨by decide, by decide⟩, by decide +kernel⟩ ⟨by first | decide | (dsimp only; omega), by first | decide | (dsimp only; omega)⟩ (by have h := kr_N hw ho; rw [h3] at h; exact h) rfl hl.1 rfl (lv_room (Nat.le_of_ble_eq_true rfl)) d_Pa_endOfPath_96 ⟨by first | decide | (dsimp only; omega), by first | decide | (dsimp only; omega)⟩) hw.1 (fun _ _ _ _ _ _ h => h.elim) (fun r3 u3 H3 locs3 hp3 hw3 => ?_)
        obtain ⟨er3, hq3⟩ := hp3
        replace hq3 := hq3.symm; subst hq3
        subst er3
        have hw : Sk G A lc s (zS_dw z (pthD (z_dw z) N)) n0 u u9 st H3 locs3 := ⟨hw3, hw.2⟩
        exact kt_l hx hb hr hlocks hw.1 d_Pa_endOfPath_99 (by exact ⟨by unfold pEnd; rw [if_neg (by rw [(bI_eq _).mp c2]; decide)], hw.2.1, by rw [hn0]; exact hw.2.2.1⟩) (by first | decide | (dsimp only; omega)) (by first | decide | (dsimp only; omega))
      · refine lv_lconst (v := 0) hx hb d_Pa_endOfPath_90 (by decide) ?_
        refine lv_goto (tgt := 99) hx hb d_Pa_endOfPath_91 (by decide) ?_
        exact kt_l hx hb hr hlocks hw.1 d_Pa_endOfPath_99 (by exact ⟨by unfold pEnd; rw [if_pos ((bI_ne _).mp c2)], hw.2.1, by rw [hn0]; exact hw.2.2.1⟩) (by first | decide | (dsimp only; omega)) (by first | decide | (dsimp only; omega))
    · exact absurd (by rw [hN]; exact nI_le (Nat.le_refl _) (by omega)) c1
  · obtain ⟨hl, hw⟩ := hJ
    obtain ⟨u9, hw⟩ := hw
    refine lv_iload hx hb d_Pa_endOfPath_18 (lv_at hl 4 rfl) ?_
    refine lv_aload_n hx hb d_Pa_endOfPath_20 rfl (lv_at hl 1 rfl) ?_
    refine kg_O (j := o) 14 (by decide) (by decide) hx hb ht hown hw ho h3 gw_409 rfl (by rw [ndX_O h3]; rfl) d_Pa_endOfPath_21 ?_
    refine lv_icmp_ge (tgt := 85) hx hb d_Pa_endOfPath_24 (by decide) (fun c1 => ?_) (fun c1 => ?_)
    · exact absurd c1 (by rw [hN]; exact nI_ge hk (by omega))
    · refine lv_lload_n hx hb d_Pa_endOfPath_27 rfl (lv_at hl 2 rfl) ?_
      refine lv_aload_n hx hb d_Pa_endOfPath_28 rfl (lv_at hl 0 rfl) ?_
      refine lv_aload_n hx hb d_Pa_endOfPath_29 rfl (lv_at hl 1 rfl) ?_
      refine kg_O (j := o) 17 (by decide) (by decide) hx hb ht hown hw ho h3 gw_415 rfl (by rw [ndX_O h3]; rfl) d_Pa_endOfPath_30 ?_
      refine kc_i (kr_V 1 (C := "QuoteGraph$Paths") (As := [.int (q_ch s o)]) (rest := [.long (pthP s o (z_dw z) k)]) (c_Pa_drawsUp l G A lc s _ u9 hw.2.1 _) hx hb hml hown ht hw.1 gw_688 gw_690 gw_18 gw_45 gw_691 ⟨⟨by decide, by decide⟩, by decide +kernel⟩ ⟨by first | decide | (dsimp only; omega), by first | decide | (dsimp only; omega)⟩ (kr_Pa hw) rfl hl.1 rfl (lv_room (Nat.le_of_ble_eq_true rfl)) d_Pa_endOfPath_33 ⟨by first | decide | (dsimp only; omega), by first | decide | (dsimp only; omega)⟩) hw.1 (fun _ _ _ _ _ _ h => h.elim) (fun r4 u4 H4 locs4 hp4 hw4 => ?_)
      obtain ⟨er, hr2, hf2⟩ := hp4
      subst er
      have hw : Sk G A lc s (zS_dw z (pthD (z_dw z) (k + 1))) n0 u u4 st H4 locs4 := ⟨hw4, hr2, hw.2.2.1.tr (by rw [← hn0]; exact hf2), hn0⟩
      refine lv_if_eq (tgt := 49) hx hb d_Pa_endOfPath_36 (by decide) (fun c5 => ?_) (fun c5 => ?_)
      · refine lv_aload_n hx hb d_Pa_endOfPath_49 rfl (lv_at hl 1 rfl) ?_
        refine kg_O (j := o) 11 (by decide) (by decide) hx hb ht hown hw ho h3 gw_403 rfl (by rw [ndX_O h3]; rfl) d_Pa_endOfPath_50 ?_
        refine kg_N (j := ((q_pt s o 1).getD 0)) 3 (by decide) hx hb ht hown hw hp1 gw_276 (Or.inl rfl) rfl d_Pa_endOfPath_53 ?_
        refine lv_lneg hx hb d_Pa_endOfPath_56 ?_
        refine lv_ladd hx hb d_Pa_endOfPath_57 ?_
        refine lv_lstore_n (lv' := [(2, .long ((pthP s o (z_dw z) k) + (-(q_am s ((q_pt s o 1).getD 0))))), (0, .ref (lc 6)), (1, .ref (lc (8 + o))), (4, .int (bI (pthB s o (z_dw z) k))), (5, .int (nI k))]) hx hb d_Pa_endOfPath_58 rfl hl (by decide) rfl (fun ls hl => ?_)
        have ep : pthP s o (z_dw z) k + -(oM s o) = pthP s o (z_dw z) (k + 1) := by show _ = _ + (if _ then _ else _); rw [if_neg (by rw [show dwU (pthD (z_dw z) (k + 1)) (q_ch s o) = false from (bI_eq _).mp c5]; decide)]
        have hl : lv_has ls 6 [(2, .long (pthP s o (z_dw z) (k + 1))), (0, .ref (lc 6)), (1, .ref (lc (8 + o))), (4, .int (bI (pthB s o (z_dw z) k))), (5, .int (nI k))] := by rw [← ep]; exact hl
        refine lv_iload hx hb d_Pa_endOfPath_59 (lv_at hl 3 rfl) ?_
        refine lv_if_ne (tgt := 72) hx hb d_Pa_endOfPath_61 (by decide) (fun c6 => ?_) (fun c6 => ?_)
        · refine lv_iconst (v := 1) hx hb d_Pa_endOfPath_72 (by decide) ?_
          refine lv_goto (tgt := 77) hx hb d_Pa_endOfPath_73 (by decide) ?_
          refine lv_istore (lv' := [(4, .int (1 : Int32)), (2, .long (pthP s o (z_dw z) (k + 1))), (0, .ref (lc 6)), (1, .ref (lc (8 + o))), (5, .int (nI k))]) hx hb d_Pa_endOfPath_77 hl (by decide) rfl (fun ls hl => ?_)
          have hl : lv_has ls 6 [(4, .int (bI (pthB s o (z_dw z) (k + 1)))), (2, .long (pthP s o (z_dw z) (k + 1))), (0, .ref (lc 6)), (1, .ref (lc (8 + o))), (5, .int (nI k))] := by rw [show pthB s o (z_dw z) (k + 1) = true by show (_ || _) = true; rw [(bI_ne _).mp c6]; rfl]; exact hl
          obtain ⟨i7, ei7⟩ : ∃ y : Int32, y = (nI k) + 1 := ⟨_, rfl⟩
          refine lv_iinc (v := i7) (lv' := [(5, .int i7), (4, .int (bI (pthB s o (z_dw z) (k + 1)))), (2, .long (pthP s o (z_dw z) (k + 1))), (0, .ref (lc 6)), (1, .ref (lc (8 + o)))]) hx hb d_Pa_endOfPath_79 hl (k := 4) rfl (by rw [ei7]; rfl) (by decide) rfl (fun ls hl => ?_)
          rw [nI_1] at ei7; subst ei7
          refine lv_goto (tgt := 18) hx hb d_Pa_endOfPath_82 (by decide) ?_
          exact ih ls H4 locs4 ⟨lv_sub hl [3, 4, 2, 1, 0] rfl, u4, hw⟩
        · refine lv_aload_n hx hb d_Pa_endOfPath_64 rfl (lv_at hl 2 rfl) ?_
          refine lv_lload_n hx hb d_Pa_endOfPath_65 rfl (lv_at hl 0 rfl) ?_
          refine kc_i (kr_V 1 (C := "QuoteGraph$Option") (As := [.long (pthP s o (z_dw z) (k + 1))]) (rest := []) (c_Op_isOut l G A lc s _ u4 hw.2.1 o (by rw [hn0]; exact ho) h3 _) hx hb hml hown ht hw.1 gw_687 gw_648 gw_649 gw_57 gw_650 ⟨⟨by decide, by decide⟩, by decide +kernel⟩ ⟨by first | decide | (dsimp only; omega), by first | decide | (dsimp only; omega)⟩ (by have h := kr_N hw ho; rw [h3] at h; exact h) rfl hl.1 rfl (lv_room (Nat.le_of_ble_eq_true rfl)) d_Pa_endOfPath_66 ⟨by first | decide | (dsimp only; omega), by first | decide | (dsimp only; omega)⟩) hw.1 (fun _ _ _ _ _ _ h => h.elim) (fun r8 u8 H8 locs8 hp8 hw8 => ?_)
          obtain ⟨er8, hq8⟩ := hp8
          replace hq8 := hq8.symm; subst hq8
          subst er8
          have hw : Sk G A lc s (zS_dw z (pthD (z_dw z) (k + 1))) n0 u u4 st H8 locs8 := ⟨hw8, hw.2⟩
          refine lv_if_eq (tgt := 76) hx hb d_Pa_endOfPath_69 (by decide) (fun c9 => ?_) (fun c9 => ?_)
          · refine lv_iconst (v := 0) hx hb d_Pa_endOfPath_76 (by decide) ?_
            refine lv_istore (lv' := [(4, .int (0 : Int32)), (2, .long (pthP s o (z_dw z) (k + 1))), (0, .ref (lc 6)), (1, .ref (lc (8 + o))), (5, .int (nI k))]) hx hb d_Pa_endOfPath_77 hl (by decide) rfl (fun ls hl => ?_)
            have hl : lv_has ls 6 [(4, .int (bI (pthB s o (z_dw z) (k + 1)))), (2, .long (pthP s o (z_dw z) (k + 1))), (0, .ref (lc 6)), (1, .ref (lc (8 + o))), (5, .int (nI k))] := by rw [show pthB s o (z_dw z) (k + 1) = false by show (_ || _) = false; rw [(bI_eq _).mp c6, (bI_eq _).mp c9]; rfl]; exact hl
            obtain ⟨i10, ei10⟩ : ∃ y : Int32, y = (nI k) + 1 := ⟨_, rfl⟩
            refine lv_iinc (v := i10) (lv' := [(5, .int i10), (4, .int (bI (pthB s o (z_dw z) (k + 1)))), (2, .long (pthP s o (z_dw z) (k + 1))), (0, .ref (lc 6)), (1, .ref (lc (8 + o)))]) hx hb d_Pa_endOfPath_79 hl (k := 4) rfl (by rw [ei10]; rfl) (by decide) rfl (fun ls hl => ?_)
            rw [nI_1] at ei10; subst ei10
            refine lv_goto (tgt := 18) hx hb d_Pa_endOfPath_82 (by decide) ?_
            exact ih ls H8 locs8 ⟨lv_sub hl [3, 4, 2, 1, 0] rfl, u4, hw⟩
          · refine lv_iconst (v := 1) hx hb d_Pa_endOfPath_72 (by decide) ?_
            refine lv_goto (tgt := 77) hx hb d_Pa_endOfPath_73 (by decide) ?_
            refine lv_istore (lv' := [(4, .int (1 : Int32)), (2, .long (pthP s o (z_dw z) (k + 1))), (0, .ref (lc 6)), (1, .ref (lc (8 + o))), (5, .int (nI k))]) hx hb d_Pa_endOfPath_77 hl (by decide) rfl (fun ls hl => ?_)
            have hl : lv_has ls 6 [(4, .int (bI (pthB s o (z_dw z) (k + 1)))), (2, .long (pthP s o (z_dw z) (k + 1))), (0, .ref (lc 6)), (1, .ref (lc (8 + o))), (5, .int (nI k))] := by rw [show pthB s o (z_dw z) (k + 1) = true by show (_ || _) = true; rw [(bI_ne _).mp c9]; exact Bool.or_true _]; exact hl
            obtain ⟨i11, ei11⟩ : ∃ y : Int32, y = (nI k) + 1 := ⟨_, rfl⟩
            refine lv_iinc (v := i11) (lv' := [(5, .int i11), (4, .int (bI (pthB s o (z_dw z) (k + 1)))), (2, .long (pthP s o (z_dw z) (k + 1))), (0, .ref (lc 6)), (1, .ref (lc (8 + o)))]) hx hb d_Pa_endOfPath_79 hl (k := 4) rfl (by rw [ei11]; rfl) (by decide) rfl (fun ls hl => ?_)
            rw [nI_1] at ei11; subst ei11
            refine lv_goto (tgt := 18) hx hb d_Pa_endOfPath_82 (by decide) ?_
            exact ih ls H8 locs8 ⟨lv_sub hl [3, 4, 2, 1, 0] rfl, u4, hw⟩
      · refine lv_aload_n hx hb d_Pa_endOfPath_39 rfl (lv_at hl 1 rfl) ?_
        refine kg_O (j := o) 11 (by decide) (by decide) hx hb ht hown hw ho h3 gw_403 rfl (by rw [ndX_O h3]; rfl) d_Pa_endOfPath_40 ?_
        refine kg_N (j := ((q_pt s o 1).getD 0)) 3 (by decide) hx hb ht hown hw hp1 gw_276 (Or.inl rfl) rfl d_Pa_endOfPath_43 ?_
        refine lv_goto (tgt := 57) hx hb d_Pa_endOfPath_46 (by decide) ?_
        refine lv_ladd hx hb d_Pa_endOfPath_57 ?_
        refine lv_lstore_n (lv' := [(2, .long ((pthP s o (z_dw z) k) + (q_am s ((q_pt s o 1).getD 0)))), (0, .ref (lc 6)), (1, .ref (lc (8 + o))), (4, .int (bI (pthB s o (z_dw z) k))), (5, .int (nI k))]) hx hb d_Pa_endOfPath_58 rfl hl (by decide) rfl (fun ls hl => ?_)
        have ep : pthP s o (z_dw z) k + oM s o = pthP s o (z_dw z) (k + 1) := by show _ = _ + (if _ then _ else _); rw [if_pos (show dwU (pthD (z_dw z) (k + 1)) (q_ch s o) = true from (bI_ne _).mp c5)]
        have hl : lv_has ls 6 [(2, .long (pthP s o (z_dw z) (k + 1))), (0, .ref (lc 6)), (1, .ref (lc (8 + o))), (4, .int (bI (pthB s o (z_dw z) k))), (5, .int (nI k))] := by rw [← ep]; exact hl
        refine lv_iload hx hb d_Pa_endOfPath_59 (lv_at hl 3 rfl) ?_
        refine lv_if_ne (tgt := 72) hx hb d_Pa_endOfPath_61 (by decide) (fun c12 => ?_) (fun c12 => ?_)
        · refine lv_iconst (v := 1) hx hb d_Pa_endOfPath_72 (by decide) ?_
          refine lv_goto (tgt := 77) hx hb d_Pa_endOfPath_73 (by decide) ?_
          refine lv_istore (lv' := [(4, .int (1 : Int32)), (2, .long (pthP s o (z_dw z) (k + 1))), (0, .ref (lc 6)), (1, .ref (lc (8 + o))), (5, .int (nI k))]) hx hb d_Pa_endOfPath_77 hl (by decide) rfl (fun ls hl => ?_)
          have hl : lv_has ls 6 [(4, .int (bI (pthB s o (z_dw z) (k + 1)))), (2, .long (pthP s o (z_dw z) (k + 1))), (0, .ref (lc 6)), (1, .ref (lc (8 + o))), (5, .int (nI k))] := by rw [show pthB s o (z_dw z) (k + 1) = true by show (_ || _) = true; rw [(bI_ne _).mp c12]; rfl]; exact hl
          obtain ⟨i13, ei13⟩ : ∃ y : Int32, y = (nI k) + 1 := ⟨_, rfl⟩
          refine lv_iinc (v := i13) (lv' := [(5, .int i13), (4, .int (bI (pthB s o (z_dw z) (k + 1)))), (2, .long (pthP s o (z_dw z) (k + 1))), (0, .ref (lc 6)), (1, .ref (lc (8 + o)))]) hx hb d_Pa_endOfPath_79 hl (k := 4) rfl (by rw [ei13]; rfl) (by decide) rfl (fun ls hl => ?_)
          rw [nI_1] at ei13; subst ei13
          refine lv_goto (tgt := 18) hx hb d_Pa_endOfPath_82 (by decide) ?_
          exact ih ls H4 locs4 ⟨lv_sub hl [3, 4, 2, 1, 0] rfl, u4, hw⟩
        · refine lv_aload_n hx hb d_Pa_endOfPath_64 rfl (lv_at hl 2 rfl) ?_
          refine lv_lload_n hx hb d_Pa_endOfPath_65 rfl (lv_at hl 0 rfl) ?_
          refine kc_i (kr_V 1 (C := "QuoteGraph$Option") (As := [.long (pthP s o (z_dw z) (k + 1))]) (rest := []) (c_Op_isOut l G A lc s _ u4 hw.2.1 o (by rw [hn0]; exact ho) h3 _) hx hb hml hown ht hw.1 gw_687 gw_648 gw_649 gw_57 gw_650 ⟨⟨by decide, by decide⟩, by decide +kernel⟩ ⟨by first | decide | (dsimp only; omega), by first | decide | (dsimp only; omega)⟩ (by have h := kr_N hw ho; rw [h3] at h; exact h) rfl hl.1 rfl (lv_room (Nat.le_of_ble_eq_true rfl)) d_Pa_endOfPath_66 ⟨by first | decide | (dsimp only; omega), by first | decide | (dsimp only; omega)⟩) hw.1 (fun _ _ _ _ _ _ h => h.elim) (fun r14 u14 H14 locs14 hp14 hw14 => ?_)
          obtain ⟨er14, hq14⟩ := hp14
          replace hq14 := hq14.symm; subst hq14
          subst er14
          have hw : Sk G A lc s (zS_dw z (pthD (z_dw z) (k + 1))) n0 u u4 st H14 locs14 := ⟨hw14, hw.2⟩
          refine lv_if_eq (tgt := 76) hx hb d_Pa_endOfPath_69 (by decide) (fun c15 => ?_) (fun c15 => ?_)
          · refine lv_iconst (v := 0) hx hb d_Pa_endOfPath_76 (by decide) ?_
            refine lv_istore (lv' := [(4, .int (0 : Int32)), (2, .long (pthP s o (z_dw z) (k + 1))), (0, .ref (lc 6)), (1, .ref (lc (8 + o))), (5, .int (nI k))]) hx hb d_Pa_endOfPath_77 hl (by decide) rfl (fun ls hl => ?_)
            have hl : lv_has ls 6 [(4, .int (bI (pthB s o (z_dw z) (k + 1)))), (2, .long (pthP s o (z_dw z) (k + 1))), (0, .ref (lc 6)), (1, .ref (lc (8 + o))), (5, .int (nI k))] := by rw [show pthB s o (z_dw z) (k + 1) = false by show (_ || _) = false; rw [(bI_eq _).mp c12, (bI_eq _).mp c15]; rfl]; exact hl
            obtain ⟨i16, ei16⟩ : ∃ y : Int32, y = (nI k) + 1 := ⟨_, rfl⟩
            refine lv_iinc (v := i16) (lv' := [(5, .int i16), (4, .int (bI (pthB s o (z_dw z) (k + 1)))), (2, .long (pthP s o (z_dw z) (k + 1))), (0, .ref (lc 6)), (1, .ref (lc (8 + o)))]) hx hb d_Pa_endOfPath_79 hl (k := 4) rfl (by rw [ei16]; rfl) (by decide) rfl (fun ls hl => ?_)
            rw [nI_1] at ei16; subst ei16
            refine lv_goto (tgt := 18) hx hb d_Pa_endOfPath_82 (by decide) ?_
            exact ih ls H14 locs14 ⟨lv_sub hl [3, 4, 2, 1, 0] rfl, u4, hw⟩
          · refine lv_iconst (v := 1) hx hb d_Pa_endOfPath_72 (by decide) ?_
            refine lv_goto (tgt := 77) hx hb d_Pa_endOfPath_73 (by decide) ?_
            refine lv_istore (lv' := [(4, .int (1 : Int32)), (2, .long (pthP s o (z_dw z) (k + 1))), (0, .ref (lc 6)), (1, .ref (lc (8 + o))), (5, .int (nI k))]) hx hb d_Pa_endOfPath_77 hl (by decide) rfl (fun ls hl => ?_)
            have hl : lv_has ls 6 [(4, .int (bI (pthB s o (z_dw z) (k + 1)))), (2, .long (pthP s o (z_dw z) (k + 1))), (0, .ref (lc 6)), (1, .ref (lc (8 + o))), (5, .int (nI k))] := by rw [show pthB s o (z_dw z) (k + 1) = true by show (_ || _) = true; rw [(bI_ne _).mp c15]; exact Bool.or_true _]; exact hl
            obtain ⟨i17, ei17⟩ : ∃ y : Int32, y = (nI k) + 1 := ⟨_, rfl⟩
            refine lv_iinc (v := i17) (lv' := [(5, .int i17), (4, .int (bI (pthB s o (z_dw z) (k + 1)))), (2, .long (pthP s o (z_dw z) (k + 1))), (0, .ref (lc 6)), (1, .ref (lc (8 + o)))]) hx hb d_Pa_endOfPath_79 hl (k := 4) rfl (by rw [ei17]; rfl) (by decide) rfl (fun ls hl => ?_)
            rw [nI_1] at ei17; subst ei17
            refine lv_goto (tgt := 18) hx hb d_Pa_endOfPath_82 (by decide) ?_
            exact ih ls H14 locs14 ⟨lv_sub hl [3, 4, 2, 1, 0] rfl, u4, hw⟩
set_option maxHeartbeats 4000000 in
set_option maxRecDepth 100000 in
theorem c_Pa_price (l : Launch) (hl9 : l.stackTraces = false) (G : GT) (A : Nat → Prop) (lc : Nat → Nat) (s : QS) (z : ZS) (u : WT) (hR : rQ G lc s z u) (o : Nat) (ho : o < q_n s) (h3 : q_so s o = 3) (D : Int64) (Z N : Nat) (hZ : q_sz s o = nI Z) (hZ2 : Z < 7) (hN : q_sp s o = nI N) (hN2 : N ≤ 20) : Kt l y_Pa_price b_Pa_price 10 (some .long) 8 143 1 6 0 0 1 6 G A u [.ref (lc 6), .ref (lc (8 + o)), .long D] (KQ G A (Rl (fun r u' => pthV s o D Z N = some r ∧ (∃ d, rQ G lc s (zS_dw z d) u') ∧ fQ lc (q_n s) u u'))) (fun E u' => E = "java/lang/ArithmeticException" ∧ pthV s o D Z N = none ∧ (∃ d, rQ G lc s (zS_dw z d) u') ∧ fQ lc (q_n s) u u') := by
  refine k_of (by decide) (Nat.le_of_ble_eq_true rfl) (fun p e st m below meth c ls hx hb hr hlocks hml htab hname hown ht hw hl => ?_)
  have hl : lv_has ls 10 [(0, .ref (lc 6)), (1, .ref (lc (8 + o))), (2, .long D)] := hl
  obtain ⟨n0, hn0⟩ : ∃ n0, q_n s = n0 := ⟨_, rfl⟩
  have hw : Sk G A lc s z n0 u u st st.heap [] := ⟨hw, hR, fQ.rf, hn0⟩
  have hp0 := (opt_p hR.1 ho h3).1
  have hp1 := (opt_p hR.1 ho h3).2
  rw [hn0] at ho hp0 hp1
  have hc2 : (1 : Int32) <<< (q_sz s o &&& 31) = nI (2 ^ Z) := by rw [hZ]; exact shl_pow Z hZ2
  have h64 := pow_le Z hZ2
  refine lv_aload_n hx hb d_Pa_price_0 rfl (lv_at hl 0 rfl) ?_
  refine lv_ldc2 (v := 12345) hx hb hown (ht _ gw_682) d_Pa_price_1 ?_
  refine kp_draw (12345 : Int64) hx hb ht hown hw gw_103 d_Pa_price_4 (fun H1 locs1 u1 hw => ?_)
  refine lv_iconst (v := 1) hx hb d_Pa_price_7 (by decide) ?_
  refine lv_aload_n hx hb d_Pa_price_8 rfl (lv_at hl 1 rfl) ?_
  refine kg_O (j := o) 20 (by decide) (by decide) hx hb ht hown hw ho h3 gw_423 rfl (by rw [ndX_O h3]; rfl) d_Pa_price_9 ?_
  refine lv_ishl hx hb d_Pa_price_12 ?_
  refine lv_istore (lv' := [(4, .int ((1 : Int32) <<< ((q_sz s o) &&& 31))), (0, .ref (lc 6)), (1, .ref (lc (8 + o))), (2, .long D)]) hx hb d_Pa_price_13 hl (by decide) rfl (fun ls hl => ?_)
  refine lv_lconst (v := 0) hx hb d_Pa_price_15 (by decide) ?_
  refine lv_lstore (lv' := [(5, .long (0 : Int64)), (4, .int ((1 : Int32) <<< ((q_sz s o) &&& 31))), (0, .ref (lc 6)), (1, .ref (lc (8 + o))), (2, .long D)]) hx hb d_Pa_price_16 hl (by decide) rfl (fun ls hl => ?_)
  refine lv_iconst (v := 0) hx hb d_Pa_price_18 (by decide) ?_
  refine lv_istore (lv' := [(7, .int (0 : Int32)), (5, .long (0 : Int64)), (4, .int ((1 : Int32) <<< ((q_sz s o) &&& 31))), (0, .ref (lc 6)), (1, .ref (lc (8 + o))), (2, .long D)]) hx hb d_Pa_price_19 hl (by decide) rfl (fun ls hl => ?_)
  have hl : lv_has ls 10 [(7, .int (0 : Int32)), (5, .long (0 : Int64)), (4, .int (nI (2 ^ Z))), (0, .ref (lc 6)), (1, .ref (lc (8 + o))), (2, .long D)] := by rw [← hc2]; exact hl
  refine k_cntH (2 ^ Z) (fun k ls H locs => lv_has ls 10 [(0, .ref (lc 6)), (1, .ref (lc (8 + o))), (2, .long D), (4, .int (nI (2 ^ Z))), (5, .long (pSum s o N k)), (7, .int (nI k))] ∧ ∃ u9, Sk G A lc s (zS_dw z (pDk N k)) n0 u u9 st H locs) (k0 := 0) (Nat.zero_le _) (⟨lv_sub hl [3, 4, 5, 2, 1, 0] rfl, u1, hw⟩) (fun ls H locs hJ => ?_) (fun k ls H locs hk hJ ih => ?_)
  · obtain ⟨hl, hw⟩ := hJ
    obtain ⟨u9, hw⟩ := hw
    refine lv_iload hx hb d_Pa_price_21 (lv_at hl 5 rfl) ?_
    refine lv_iload hx hb d_Pa_price_23 (lv_at hl 3 rfl) ?_
    refine lv_icmp_ge (tgt := 44) hx hb d_Pa_price_25 (by decide) (fun c1 => ?_) (fun c1 => ?_)
    · refine lv_lload hx hb d_Pa_price_44 (lv_at hl 4 rfl) ?_
      refine lv_aload_n hx hb d_Pa_price_46 rfl (lv_at hl 1 rfl) ?_
      refine kg_O (j := o) 20 (by decide) (by decide) hx hb ht hown hw ho h3 gw_423 rfl (by rw [ndX_O h3]; rfl) d_Pa_price_47 ?_
      refine kc_l (kr_SN 2 (host := "QuoteGraph") (As := [.long (pSum s o N (2 ^ Z)), .int (q_sz s o)]) (rest := []) (c_Q_rounded l hl9 G A u9 _ _) hx hb hml hown ht hw.1 (ew_of 696 _ (by decide +kernel) rfl) gw_561 gw_42 gw_562 ⟨⟨by decide, by decide⟩, by decide +kernel⟩ ⟨by first | decide | (dsimp only; omega), by first | decide | (dsimp only; omega)⟩ rfl hl.1 rfl (lv_room (Nat.le_of_ble_eq_true rfl)) d_Pa_price_50 ⟨by first | decide | (dsimp only; omega), by first | decide | (dsimp only; omega)⟩) hw.1 (fun E ce q9 u1 H1 locs1 hp hw1 hce hcv hcl => ?_) (fun r2 u2 H2 locs2 hp2 hw2 => ?_)
      · obtain ⟨rfl, hbg, hq9⟩ := hp
        replace hq9 := hq9.symm; subst hq9
        have e9 : pW s o D (pSum s o N (2 ^ Z)) 0 = none := if_pos hbg
        have e8 := pW_none e9 N
        rw [Nat.zero_add] at e8
        exact kt_out htab hlocks hw1 hce hcv hcl ⟨rfl, e8, ⟨_, hw.2.1⟩, by rw [hn0]; exact hw.2.2.1⟩ (by decide) (by decide)
      obtain ⟨er2, hbg, hq2⟩ := hp2
      replace hq2 := hq2.symm; subst hq2
      have hw : Sk G A lc s (zS_dw z (pDk N (2 ^ Z))) n0 u u9 st H2 locs2 := ⟨hw2, hw.2⟩
      subst er2
      have hg0 : pW s o D (pSum s o N (2 ^ Z)) 0 = some (rndL (pSum s o N (2 ^ Z)) (q_sz s o)) := if_neg (by rw [hbg]; decide)
      refine lv_lstore (lv' := [(7, .long (rndL (pSum s o N (2 ^ Z)) (q_sz s o))), (0, .ref (lc 6)), (1, .ref (lc (8 + o))), (2, .long D), (4, .int (nI (2 ^ Z))), (5, .long (pSum s o N (2 ^ Z)))]) hx hb d_Pa_price_53 hl (by decide) rfl (fun ls hl => ?_)
      refine lv_iconst (v := 0) hx hb d_Pa_price_55 (by decide) ?_
      refine lv_istore (lv' := [(9, .int (0 : Int32)), (7, .long (rndL (pSum s o N (2 ^ Z)) (q_sz s o))), (0, .ref (lc 6)), (1, .ref (lc (8 + o))), (2, .long D), (4, .int (nI (2 ^ Z))), (5, .long (pSum s o N (2 ^ Z)))]) hx hb d_Pa_price_56 hl (by decide) rfl (fun ls hl => ?_)
      refine k_cntH (N) (fun i ls H locs => ∃ w : Int64, lv_has ls 10 [(0, .ref (lc 6)), (1, .ref (lc (8 + o))), (2, .long D), (7, .long w), (9, .int (nI i))] ∧ ∃ u9, pW s o D (pSum s o N (2 ^ Z)) i = some w ∧ Sk G A lc s (zS_dw z (pDk N (2 ^ Z))) n0 u u9 st H locs) (k0 := 0) (Nat.zero_le _) (⟨_, lv_sub hl [2, 3, 4, 1, 0] rfl, u9, hg0, hw⟩) (fun ls H locs hJ => ?_) (fun i ls H locs hi hJ ih2 => ?_)
      · obtain ⟨w, hl, hw⟩ := hJ
        obtain ⟨u9, hg, hw⟩ := hw
        refine lv_iload hx hb d_Pa_price_58 (lv_at hl 4 rfl) ?_
        refine lv_aload_n hx hb d_Pa_price_60 rfl (lv_at hl 1 rfl) ?_
        refine kg_O (j := o) 14 (by decide) (by decide) hx hb ht hown hw ho h3 gw_409 rfl (by rw [ndX_O h3]; rfl) d_Pa_price_61 ?_
        refine lv_icmp_ge (tgt := 84) hx hb d_Pa_price_64 (by decide) (fun c2 => ?_) (fun c2 => ?_)
        · refine lv_lload hx hb d_Pa_price_84 (lv_at hl 3 rfl) ?_
          exact kt_l hx hb hr hlocks hw.1 d_Pa_price_86 (by exact ⟨hg, ⟨_, hw.2.1⟩, by rw [hn0]; exact hw.2.2.1⟩) (by first | decide | (dsimp only; omega)) (by first | decide | (dsimp only; omega))
        · exact absurd (by rw [hN]; exact nI_le (Nat.le_refl _) (by omega)) c2
      · obtain ⟨w, hl, hw⟩ := hJ
        obtain ⟨u9, hg, hw⟩ := hw
        refine lv_iload hx hb d_Pa_price_58 (lv_at hl 4 rfl) ?_
        refine lv_aload_n hx hb d_Pa_price_60 rfl (lv_at hl 1 rfl) ?_
        refine kg_O (j := o) 14 (by decide) (by decide) hx hb ht hown hw ho h3 gw_409 rfl (by rw [ndX_O h3]; rfl) d_Pa_price_61 ?_
        refine lv_icmp_ge (tgt := 84) hx hb d_Pa_price_64 (by decide) (fun c2 => ?_) (fun c2 => ?_)
        · exact absurd c2 (by rw [hN]; exact nI_ge hi (by omega))
        · refine lv_lload_n hx hb d_Pa_price_67 rfl (lv_at hl 2 rfl) ?_
          refine lv_lload hx hb d_Pa_price_68 (lv_at hl 3 rfl) ?_
          refine lv_lmul hx hb d_Pa_price_70 ?_
          refine lv_bipush (v := 10) hx hb d_Pa_price_71 (by decide) ?_
          refine kc_l (kr_SN 2 (host := "QuoteGraph") (As := [.long (D * w), .int (10 : Int32)]) (rest := []) (c_Q_rounded l hl9 G A u9 _ _) hx hb hml hown ht hw.1 (ew_of 696 _ (by decide +kernel) rfl) gw_561 gw_42 gw_562 ⟨⟨by decide, by decide⟩, by decide +kernel⟩ ⟨by first | decide | (dsimp only; omega), by first | decide | (dsimp only; omega)⟩ rfl hl.1 rfl (lv_room (Nat.le_of_ble_eq_true rfl)) d_Pa_price_73 ⟨by first | decide | (dsimp only; omega), by first | decide | (dsimp only; omega)⟩) hw.1 (fun E ce q9 u1 H1 locs1 hp hw1 hce hcv hcl => ?_) (fun r3 u3 H3 locs3 hp3 hw3 => ?_)
          · obtain ⟨rfl, hbg, hq9⟩ := hp
            replace hq9 := hq9.symm; subst hq9
            have e9 : pW s o D (pSum s o N (2 ^ Z)) (i + 1) = none := by show (match pW s o D (pSum s o N (2 ^ Z)) i with | none => none | some g => _) = none; rw [hg]; exact if_pos hbg
            have e8 := pW_none e9 (N - (i + 1))
            rw [show i + 1 + (N - (i + 1)) = N by omega] at e8
            exact kt_out htab hlocks hw1 hce hcv hcl ⟨rfl, e8, ⟨_, hw.2.1⟩, by rw [hn0]; exact hw.2.2.1⟩ (by decide) (by decide)
          obtain ⟨er3, hb2, hq3⟩ := hp3
          replace hq3 := hq3.symm; subst hq3
          have hw : Sk G A lc s (zS_dw z (pDk N (2 ^ Z))) n0 u u9 st H3 locs3 := ⟨hw3, hw.2⟩
          subst er3
          have hg2 : pW s o D (pSum s o N (2 ^ Z)) (i + 1) = some (rndL (D * w) 10) := by show (match pW s o D (pSum s o N (2 ^ Z)) i with | none => none | some g => _) = _; rw [hg]; exact if_neg (by rw [hb2]; decide)
          refine lv_lstore (lv' := [(7, .long (rndL (D * w) 10)), (0, .ref (lc 6)), (1, .ref (lc (8 + o))), (2, .long D), (9, .int (nI i))]) hx hb d_Pa_price_76 hl (by decide) rfl (fun ls hl => ?_)
          obtain ⟨i4, ei4⟩ : ∃ y : Int32, y = (nI i) + 1 := ⟨_, rfl⟩
          refine lv_iinc (v := i4) (lv' := [(9, .int i4), (7, .long (rndL (D * w) 10)), (0, .ref (lc 6)), (1, .ref (lc (8 + o))), (2, .long D)]) hx hb d_Pa_price_78 hl (k := 4) rfl (by rw [ei4]; rfl) (by decide) rfl (fun ls hl => ?_)
          rw [nI_1] at ei4; subst ei4
          refine lv_goto (tgt := 58) hx hb d_Pa_price_81 (by decide) ?_
          exact ih2 ls H3 locs3 ⟨_, lv_sub hl [2, 3, 4, 1, 0] rfl, u9, hg2, hw⟩
    · exact absurd (nI_le (Nat.le_refl _) (by omega)) c1
  · obtain ⟨hl, hw⟩ := hJ
    obtain ⟨u9, hw⟩ := hw
    refine lv_iload hx hb d_Pa_price_21 (lv_at hl 5 rfl) ?_
    refine lv_iload hx hb d_Pa_price_23 (lv_at hl 3 rfl) ?_
    refine lv_icmp_ge (tgt := 44) hx hb d_Pa_price_25 (by decide) (fun c1 => ?_) (fun c1 => ?_)
    · exact absurd c1 (nI_ge hk (by omega))
    · refine lv_lload hx hb d_Pa_price_28 (lv_at hl 4 rfl) ?_
      refine lv_aload_n hx hb d_Pa_price_30 rfl (lv_at hl 0 rfl) ?_
      refine lv_aload_n hx hb d_Pa_price_31 rfl (lv_at hl 1 rfl) ?_
      refine kc_l (kr_V 1 (C := "QuoteGraph$Paths") (As := [.ref (lc (8 + o))]) (rest := [.long (pSum s o N k)]) (c_Pa_endOfPath l G A lc s _ u9 hw.2.1 o (by rw [hn0]; exact ho) h3 N hN hN2) hx hb hml hown ht hw.1 gw_683 gw_685 gw_17 gw_45 gw_686 ⟨⟨by decide, by decide⟩, by decide +kernel⟩ ⟨by first | decide | (dsimp only; omega), by first | decide | (dsimp only; omega)⟩ (kr_Pa hw) rfl hl.1 rfl (lv_room (Nat.le_of_ble_eq_true rfl)) d_Pa_price_32 ⟨by first | decide | (dsimp only; omega), by first | decide | (dsimp only; omega)⟩) hw.1 (fun _ _ _ _ _ _ h => h.elim) (fun r5 u5 H5 locs5 hp5 hw5 => ?_)
      obtain ⟨er, hr2, hf2⟩ := hp5
      subst er
      have hw : Sk G A lc s (zS_dw z (pDk N (k + 1))) n0 u u5 st H5 locs5 := ⟨hw5, hr2, hw.2.2.1.tr (by rw [← hn0]; exact hf2), hn0⟩
      refine lv_ladd hx hb d_Pa_price_35 ?_
      refine lv_lstore (lv' := [(5, .long ((pSum s o N k) + (pEnd s o N (pDk N k)))), (0, .ref (lc 6)), (1, .ref (lc (8 + o))), (2, .long D), (4, .int (nI (2 ^ Z))), (7, .int (nI k))]) hx hb d_Pa_price_36 hl (by decide) rfl (fun ls hl => ?_)
      obtain ⟨i6, ei6⟩ : ∃ y : Int32, y = (nI k) + 1 := ⟨_, rfl⟩
      refine lv_iinc (v := i6) (lv' := [(7, .int i6), (5, .long ((pSum s o N k) + (pEnd s o N (pDk N k)))), (0, .ref (lc 6)), (1, .ref (lc (8 + o))), (2, .long D), (4, .int (nI (2 ^ Z)))]) hx hb d_Pa_price_38 hl (k := 5) rfl (by rw [ei6]; rfl) (by decide) rfl (fun ls hl => ?_)
      rw [nI_1] at ei6; subst ei6
      refine lv_goto (tgt := 21) hx hb d_Pa_price_41 (by decide) ?_
      exact ih ls H5 locs5 ⟨lv_sub hl [2, 3, 4, 5, 1, 0] rfl, u5, hw⟩
